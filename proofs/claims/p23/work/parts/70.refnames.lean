/-! names, decode rows and words of the reference and of the JDK, taken by program (wip/gen/mk70.py) out of the names that the task prints -/
def RX9 : String := "HandoverhouseModel$Mast"
def TX9 : u_T := fun k => match k with
  | 0 => ("HandoverhouseModel$Mast", "place", "I", true)
  | 1 => ("HandoverhouseModel$Mast", "power", "I", true)
  | 2 => ("HandoverhouseModel$Mast", "frequency", "I", true)
  | 3 => ("HandoverhouseModel$Mast", "channels", "I", true)
  | 4 => ("HandoverhouseModel$Mast", "area", "I", true)
  | 5 => ("HandoverhouseModel$Mast", "operator", "I", true)
  | 6 => ("HandoverhouseModel$Mast", "isAwake", "Z", false)
  | 7 => ("HandoverhouseModel$Mast", "load", "I", false)
  | _ => ("HandoverhouseModel$Mast", "carried", "I", false)
def tyX9 : Nat → FieldType := fun k => match k with
  | 0 => .int
  | 1 => .int
  | 2 => .int
  | 3 => .int
  | 4 => .int
  | 5 => .int
  | 6 => .boolean
  | 7 => .int
  | _ => .int
abbrev wsX90 : List Cond := u_ws RX9 TX9 9
theorem nmX9 : ∀ a, a < 9 → ∀ b, b < 9 → a ≠ b → (TX9 a).2.1 ≠ (TX9 b).2.1 := by decide +kernel
theorem tyX9_ok : ∀ k, k < 9 → parseFieldDescriptor (TX9 k).2.2.1 = some (tyX9 k) := by decide +kernel
abbrev cX9_init : ByteArray := prog_12_method_1_code
def yX9_init : MethodName := ⟨RX9, "<init>", "(IIIIII)V"⟩
abbrev cX9_copy : ByteArray := prog_12_method_2_code
def yX9_copy : MethodName := ⟨RX9, "copy", "()LHandoverhouseModel$Mast;"⟩
abbrev cX9_reach : ByteArray := prog_12_method_3_code
def yX9_reach : MethodName := ⟨RX9, "reach", "(I)I"⟩
def RX10 : String := "HandoverhouseModel$Phone"
def TX10 : u_T := fun k => match k with
  | 0 => ("HandoverhouseModel$Phone", "operator", "I", true)
  | 1 => ("HandoverhouseModel$Phone", "place", "I", false)
  | 2 => ("HandoverhouseModel$Phone", "speed", "I", false)
  | 3 => ("HandoverhouseModel$Phone", "balance", "I", false)
  | 4 => ("HandoverhouseModel$Phone", "isOn", "Z", false)
  | 5 => ("HandoverhouseModel$Phone", "mast", "I", false)
  | 6 => ("HandoverhouseModel$Phone", "known", "I", false)
  | 7 => ("HandoverhouseModel$Phone", "told", "I", false)
  | 8 => ("HandoverhouseModel$Phone", "toldAt", "I", false)
  | 9 => ("HandoverhouseModel$Phone", "call", "I", false)
  | 10 => ("HandoverhouseModel$Phone", "updates", "I", false)
  | _ => ("HandoverhouseModel$Phone", "got", "I", false)
def tyX10 : Nat → FieldType := fun k => match k with
  | 0 => .int
  | 1 => .int
  | 2 => .int
  | 3 => .int
  | 4 => .boolean
  | 5 => .int
  | 6 => .int
  | 7 => .int
  | 8 => .int
  | 9 => .int
  | 10 => .int
  | _ => .int
abbrev wsX100 : List Cond := u_ws RX10 TX10 12
theorem nmX10 : ∀ a, a < 12 → ∀ b, b < 12 → a ≠ b → (TX10 a).2.1 ≠ (TX10 b).2.1 := by decide +kernel
theorem tyX10_ok : ∀ k, k < 12 → parseFieldDescriptor (TX10 k).2.2.1 = some (tyX10 k) := by decide +kernel
abbrev cX10_init : ByteArray := prog_13_method_1_code
def yX10_init : MethodName := ⟨RX10, "<init>", "(IIII)V"⟩
abbrev cX10_copy : ByteArray := prog_13_method_2_code
def yX10_copy : MethodName := ⟨RX10, "copy", "()LHandoverhouseModel$Phone;"⟩
abbrev cX10_isIdle : ByteArray := prog_13_method_3_code
def yX10_isIdle : MethodName := ⟨RX10, "isIdle", "()Z"⟩
def RX11 : String := "HandoverhouseModel$Road"
def TX11 : u_T := fun k => match k with
  | 0 => ("HandoverhouseModel$Road", "masts", "Ljava/util/ArrayList;", true)
  | 1 => ("HandoverhouseModel$Road", "phones", "Ljava/util/ArrayList;", true)
  | 2 => ("HandoverhouseModel$Road", "calls", "Ljava/util/ArrayList;", true)
  | 3 => ("HandoverhouseModel$Road", "texts", "Ljava/util/ArrayList;", true)
  | _ => ("HandoverhouseModel$Road", "now", "I", false)
def tyX11 : Nat → FieldType := fun k => match k with
  | 0 => .object "java/util/ArrayList"
  | 1 => .object "java/util/ArrayList"
  | 2 => .object "java/util/ArrayList"
  | 3 => .object "java/util/ArrayList"
  | _ => .int
abbrev wsX110 : List Cond := u_ws RX11 TX11 5
theorem nmX11 : ∀ a, a < 5 → ∀ b, b < 5 → a ≠ b → (TX11 a).2.1 ≠ (TX11 b).2.1 := by decide +kernel
theorem tyX11_ok : ∀ k, k < 5 → parseFieldDescriptor (TX11 k).2.2.1 = some (tyX11 k) := by decide +kernel
abbrev cX11_init : ByteArray := prog_14_method_1_code
def yX11_init : MethodName := ⟨RX11, "<init>", "()V"⟩
abbrev cX11_copy : ByteArray := prog_14_method_2_code
def yX11_copy : MethodName := ⟨RX11, "copy", "()LHandoverhouseModel$Road;"⟩
abbrev cX11_quality : ByteArray := prog_14_method_3_code
def yX11_quality : MethodName := ⟨RX11, "quality", "(II)I"⟩
abbrev cX11_isHeard : ByteArray := prog_14_method_4_code
def yX11_isHeard : MethodName := ⟨RX11, "isHeard", "(II)Z"⟩
abbrev cX11_best : ByteArray := prog_14_method_5_code
def yX11_best : MethodName := ⟨RX11, "best", "(IIZ)I"⟩
abbrev cX11_bestHeard : ByteArray := prog_14_method_6_code
def yX11_bestHeard : MethodName := ⟨RX11, "bestHeard", "(I)I"⟩
abbrev cX11_second : ByteArray := prog_14_method_7_code
def yX11_second : MethodName := ⟨RX11, "second", "()I"⟩
abbrev cX11_move : ByteArray := prog_14_method_8_code
def yX11_move : MethodName := ⟨RX11, "move", "(LHandoverhouseModel$Phone;)V"⟩
abbrev cX11_camp : ByteArray := prog_14_method_9_code
def yX11_camp : MethodName := ⟨RX11, "camp", "(LHandoverhouseModel$Phone;)V"⟩
abbrev cX11_hand : ByteArray := prog_14_method_10_code
def yX11_hand : MethodName := ⟨RX11, "hand", "(LHandoverhouseModel$Call;)Z"⟩
abbrev cX11_over : ByteArray := prog_14_method_11_code
def yX11_over : MethodName := ⟨RX11, "over", "(LHandoverhouseModel$Call;[ILHandoverhouseModel$Phone;I)V"⟩
abbrev cX11_pay : ByteArray := prog_14_method_12_code
def yX11_pay : MethodName := ⟨RX11, "pay", "(LHandoverhouseModel$Call;)Z"⟩
abbrev cX11_end : ByteArray := prog_14_method_13_code
def yX11_end : MethodName := ⟨RX11, "end", "(LHandoverhouseModel$Call;I)V"⟩
abbrev cX11_pagedIn : ByteArray := prog_14_method_14_code
def yX11_pagedIn : MethodName := ⟨RX11, "pagedIn", "(I)I"⟩
abbrev cX11_page : ByteArray := prog_14_method_15_code
def yX11_page : MethodName := ⟨RX11, "page", "(LHandoverhouseModel$Phone;)I"⟩
abbrev cX11_covered : ByteArray := prog_14_method_16_code
def yX11_covered : MethodName := ⟨RX11, "covered", "()I"⟩
def RX12 : String := "HandoverhouseModel"
def TX12 : u_T := fun k => match k with
  | 0 => ("HandoverhouseModel", "thrown", "I", false)
  | 1 => ("HandoverhouseModel", "road", "LHandoverhouseModel$Road;", true)
  | 2 => ("HandoverhouseModel", "pages", "I", false)
  | _ => ("HandoverhouseModel", "texts", "I", false)
def tyX12 : Nat → FieldType := fun k => match k with
  | 0 => .int
  | 1 => .object "HandoverhouseModel$Road"
  | 2 => .int
  | _ => .int
abbrev wsX120 : List Cond := u_ws RX12 TX12 4
theorem nmX12 : ∀ a, a < 4 → ∀ b, b < 4 → a ≠ b → (TX12 a).2.1 ≠ (TX12 b).2.1 := by decide +kernel
theorem tyX12_ok : ∀ k, k < 4 → parseFieldDescriptor (TX12 k).2.2.1 = some (tyX12 k) := by decide +kernel
abbrev cX12_isIn : ByteArray := prog_10_method_1_code
def yX12_isIn : MethodName := ⟨RX12, "isIn", "(III)Z"⟩
abbrev cX12_one : ByteArray := prog_10_method_2_code
def yX12_one : MethodName := ⟨RX12, "one", "(Z)I"⟩
abbrev cX12_init : ByteArray := prog_10_method_3_code
def yX12_init : MethodName := ⟨RX12, "<init>", "()V"⟩
abbrev cX12_thrown : ByteArray := prog_10_method_4_code
def yX12_thrown : MethodName := ⟨RX12, "thrown", "()I"⟩
abbrev cX12_refuse : ByteArray := prog_10_method_5_code
def yX12_refuse : MethodName := ⟨RX12, "refuse", "(ZI)Z"⟩
abbrev cX12_start : ByteArray := prog_10_method_6_code
def yX12_start : MethodName := ⟨RX12, "start", "(ZI)Z"⟩
abbrev cX12_isNoMast : ByteArray := prog_10_method_7_code
def yX12_isNoMast : MethodName := ⟨RX12, "isNoMast", "(I)Z"⟩
abbrev cX12_isNoPhone : ByteArray := prog_10_method_8_code
def yX12_isNoPhone : MethodName := ⟨RX12, "isNoPhone", "(I)Z"⟩
abbrev cX12_isNoCall : ByteArray := prog_10_method_9_code
def yX12_isNoCall : MethodName := ⟨RX12, "isNoCall", "(I)Z"⟩
abbrev cX12_mast : ByteArray := prog_10_method_10_code
def yX12_mast : MethodName := ⟨RX12, "mast", "(IIIIII)I"⟩
abbrev cX12_handset : ByteArray := prog_10_method_11_code
def yX12_handset : MethodName := ⟨RX12, "handset", "(IIII)I"⟩
abbrev cX12_speed : ByteArray := prog_10_method_12_code
def yX12_speed : MethodName := ⟨RX12, "speed", "(II)I"⟩
abbrev cX12_top : ByteArray := prog_10_method_13_code
def yX12_top : MethodName := ⟨RX12, "top", "(II)I"⟩
abbrev cX12_turn : ByteArray := prog_10_method_14_code
def yX12_turn : MethodName := ⟨RX12, "turn", "(IZ)Z"⟩
abbrev cX12_wake : ByteArray := prog_10_method_15_code
def yX12_wake : MethodName := ⟨RX12, "wake", "(IZ)Z"⟩
abbrev cX12_leg : ByteArray := prog_10_method_16_code
def yX12_leg : MethodName := ⟨RX12, "leg", "(I)[I"⟩
abbrev cX12_begin : ByteArray := prog_10_method_17_code
def yX12_begin : MethodName := ⟨RX12, "begin", "(LHandoverhouseModel$Call;)I"⟩
abbrev cX12_free : ByteArray := prog_10_method_18_code
def yX12_free : MethodName := ⟨RX12, "free", "(I)I"⟩
abbrev cX12_call : ByteArray := prog_10_method_19_code
def yX12_call : MethodName := ⟨RX12, "call", "(II)I"⟩
abbrev cX12_emergency : ByteArray := prog_10_method_20_code
def yX12_emergency : MethodName := ⟨RX12, "emergency", "(I)I"⟩
abbrev cX12_hang : ByteArray := prog_10_method_21_code
def yX12_hang : MethodName := ⟨RX12, "hang", "(I)I"⟩
abbrev cX12_waiting : ByteArray := prog_10_method_22_code
def yX12_waiting : MethodName := ⟨RX12, "waiting", "(I)I"⟩
abbrev cX12_text : ByteArray := prog_10_method_23_code
def yX12_text : MethodName := ⟨RX12, "text", "(II)I"⟩
abbrev cX12_forget : ByteArray := prog_10_method_24_code
def yX12_forget : MethodName := ⟨RX12, "forget", "()I"⟩
abbrev cX12_pass : ByteArray := prog_10_method_25_code
def yX12_pass : MethodName := ⟨RX12, "pass", "(I)I"⟩
abbrev cX12_quality : ByteArray := prog_10_method_26_code
def yX12_quality : MethodName := ⟨RX12, "quality", "(II)I"⟩
abbrev cX12_best : ByteArray := prog_10_method_27_code
def yX12_best : MethodName := ⟨RX12, "best", "(I)I"⟩
abbrev cX12_toldOfMast : ByteArray := prog_10_method_28_code
def yX12_toldOfMast : MethodName := ⟨RX12, "toldOfMast", "(II)I"⟩
abbrev cX12_ofMast : ByteArray := prog_10_method_29_code
def yX12_ofMast : MethodName := ⟨RX12, "ofMast", "(II)I"⟩
abbrev cX12_toldOfPhone : ByteArray := prog_10_method_30_code
def yX12_toldOfPhone : MethodName := ⟨RX12, "toldOfPhone", "(II)I"⟩
abbrev cX12_ofHandset : ByteArray := prog_10_method_31_code
def yX12_ofHandset : MethodName := ⟨RX12, "ofHandset", "(II)I"⟩
abbrev cX12_told : ByteArray := prog_10_method_32_code
def yX12_told : MethodName := ⟨RX12, "told", "(LHandoverhouseModel$Call;I)I"⟩
abbrev cX12_ofCall : ByteArray := prog_10_method_33_code
def yX12_ofCall : MethodName := ⟨RX12, "ofCall", "(II)I"⟩
abbrev cX12_count : ByteArray := prog_10_method_34_code
def yX12_count : MethodName := ⟨RX12, "count", "(I)I"⟩
abbrev cX12_many : ByteArray := prog_10_method_35_code
def yX12_many : MethodName := ⟨RX12, "many", "(I)I"⟩
abbrev cX12_meanSeconds : ByteArray := prog_10_method_36_code
def yX12_meanSeconds : MethodName := ⟨RX12, "meanSeconds", "()D"⟩
abbrev cX12_endBehind : ByteArray := prog_10_method_37_code
def yX12_endBehind : MethodName := ⟨RX12, "endBehind", "(II)I"⟩
abbrev cX12_endsIn : ByteArray := prog_10_method_38_code
def yX12_endsIn : MethodName := ⟨RX12, "endsIn", "(II)I"⟩
abbrev cX12_onBehind : ByteArray := prog_10_method_39_code
def yX12_onBehind : MethodName := ⟨RX12, "onBehind", "(II)I"⟩
abbrev cX12_wouldBeOn : ByteArray := prog_10_method_40_code
def yX12_wouldBeOn : MethodName := ⟨RX12, "wouldBeOn", "(II)I"⟩
abbrev cX12_rowsFor : ByteArray := prog_10_method_41_code
def yX12_rowsFor : MethodName := ⟨RX12, "rowsFor", "(I)[[I"⟩
abbrev cX12_isCovered : ByteArray := prog_10_method_42_code
def yX12_isCovered : MethodName := ⟨RX12, "isCovered", "([III)Z"⟩
abbrev cX12_bestFor : ByteArray := prog_10_method_43_code
def yX12_bestFor : MethodName := ⟨RX12, "bestFor", "(II)I"⟩
abbrev cX12_bestPlace : ByteArray := prog_10_method_44_code
def yX12_bestPlace : MethodName := ⟨RX12, "bestPlace", "(II)I"⟩
abbrev cX12_add : ByteArray := prog_10_method_45_code
def yX12_add : MethodName := ⟨RX12, "add", "(JJ)J"⟩
abbrev cX12_digest : ByteArray := prog_10_method_46_code
def yX12_digest : MethodName := ⟨RX12, "digest", "()J"⟩
def RJx4a65c : String := "java/util/ArrayList"
def TJx4a65c : u_T := fun k => match k with
  | 0 => ("java/util/AbstractList", "modCount", "I", false)
  | 1 => ("java/util/ArrayList", "elementData", "[Ljava/lang/Object;", false)
  | _ => ("java/util/ArrayList", "size", "I", false)
def tyJx4a65c : Nat → FieldType := fun k => match k with
  | 0 => .int
  | 1 => .array (.object "java/lang/Object")
  | _ => .int
abbrev wsJx4a65c0 : List Cond := u_ws RJx4a65c TJx4a65c 3
theorem nmJx4a65c : ∀ a, a < 3 → ∀ b, b < 3 → a ≠ b → (TJx4a65c a).2.1 ≠ (TJx4a65c b).2.1 := by decide +kernel
theorem tyJx4a65c_ok : ∀ k, k < 3 → parseFieldDescriptor (TJx4a65c k).2.2.1 = some (tyJx4a65c k) := by decide +kernel
abbrev cJx4a65c_init_da8c8 : ByteArray := prog_35_method_2_code
def yJx4a65c_init_da8c8 : MethodName := ⟨RJx4a65c, "<init>", "()V"⟩
abbrev cJx4a65c_grow_92f84 : ByteArray := prog_35_method_6_code
def yJx4a65c_grow_92f84 : MethodName := ⟨RJx4a65c, "grow", "(I)[Ljava/lang/Object;"⟩
abbrev cJx4a65c_grow_d5877 : ByteArray := prog_35_method_7_code
def yJx4a65c_grow_d5877 : MethodName := ⟨RJx4a65c, "grow", "()[Ljava/lang/Object;"⟩
abbrev cJx4a65c_size_8abf5 : ByteArray := prog_35_method_8_code
def yJx4a65c_size_8abf5 : MethodName := ⟨RJx4a65c, "size", "()I"⟩
abbrev cJx4a65c_elementData_915e3 : ByteArray := prog_35_method_18_code
def yJx4a65c_elementData_915e3 : MethodName := ⟨RJx4a65c, "elementData", "(I)Ljava/lang/Object;"⟩
abbrev cJx4a65c_get_915e3 : ByteArray := prog_35_method_20_code
def yJx4a65c_get_915e3 : MethodName := ⟨RJx4a65c, "get", "(I)Ljava/lang/Object;"⟩
abbrev cJx4a65c_add_72be8 : ByteArray := prog_35_method_24_code
def yJx4a65c_add_72be8 : MethodName := ⟨RJx4a65c, "add", "(Ljava/lang/Object;[Ljava/lang/Object;I)V"⟩
abbrev cJx4a65c_add_9ea2d : ByteArray := prog_35_method_25_code
def yJx4a65c_add_9ea2d : MethodName := ⟨RJx4a65c, "add", "(Ljava/lang/Object;)Z"⟩
abbrev cJx4a65c_remove_915e3 : ByteArray := prog_35_method_29_code
def yJx4a65c_remove_915e3 : MethodName := ⟨RJx4a65c, "remove", "(I)Ljava/lang/Object;"⟩
abbrev cJx4a65c_fastRemove_b59b0 : ByteArray := prog_35_method_39_code
def yJx4a65c_fastRemove_b59b0 : MethodName := ⟨RJx4a65c, "fastRemove", "([Ljava/lang/Object;I)V"⟩
abbrev cJx4a65c_iterator_32c93 : ByteArray := prog_35_method_55_code
def yJx4a65c_iterator_32c93 : MethodName := ⟨RJx4a65c, "iterator", "()Ljava/util/Iterator;"⟩
def RJx35411 : String := "java/util/ArrayList$Itr"
def TJx35411 : u_T := fun k => match k with
  | 0 => ("java/util/ArrayList$Itr", "cursor", "I", false)
  | 1 => ("java/util/ArrayList$Itr", "lastRet", "I", false)
  | 2 => ("java/util/ArrayList$Itr", "expectedModCount", "I", false)
  | _ => ("java/util/ArrayList$Itr", "this$0", "Ljava/util/ArrayList;", true)
def tyJx35411 : Nat → FieldType := fun k => match k with
  | 0 => .int
  | 1 => .int
  | 2 => .int
  | _ => .object "java/util/ArrayList"
abbrev wsJx354110 : List Cond := u_ws RJx35411 TJx35411 4
theorem nmJx35411 : ∀ a, a < 4 → ∀ b, b < 4 → a ≠ b → (TJx35411 a).2.1 ≠ (TJx35411 b).2.1 := by decide +kernel
theorem tyJx35411_ok : ∀ k, k < 4 → parseFieldDescriptor (TJx35411 k).2.2.1 = some (tyJx35411 k) := by decide +kernel
abbrev cJx35411_init_45d68 : ByteArray := prog_36_method_1_code
def yJx35411_init_45d68 : MethodName := ⟨RJx35411, "<init>", "(Ljava/util/ArrayList;)V"⟩
abbrev cJx35411_hasNext_aae02 : ByteArray := prog_36_method_2_code
def yJx35411_hasNext_aae02 : MethodName := ⟨RJx35411, "hasNext", "()Z"⟩
abbrev cJx35411_next_0502b : ByteArray := prog_36_method_3_code
def yJx35411_next_0502b : MethodName := ⟨RJx35411, "next", "()Ljava/lang/Object;"⟩
abbrev cJx35411_checkForComodification_da8c8 : ByteArray := prog_36_method_6_code
def yJx35411_checkForComodification_da8c8 : MethodName := ⟨RJx35411, "checkForComodification", "()V"⟩
def RJxc12de : String := "java/util/AbstractList"
def TJxc12de : u_T := fun k => match k with
  | _ => ("", "", "", false)
def tyJxc12de : Nat → FieldType := fun k => match k with
  | _ => .int
abbrev wsJxc12de0 : List Cond := u_ws RJxc12de TJxc12de 0
theorem nmJxc12de : ∀ a, a < 0 → ∀ b, b < 0 → a ≠ b → (TJxc12de a).2.1 ≠ (TJxc12de b).2.1 := by decide +kernel
theorem tyJxc12de_ok : ∀ k, k < 0 → parseFieldDescriptor (TJxc12de k).2.2.1 = some (tyJxc12de k) := by decide +kernel
abbrev cJxc12de_init_da8c8 : ByteArray := prog_34_method_1_code
def yJxc12de_init_da8c8 : MethodName := ⟨RJxc12de, "<init>", "()V"⟩
def RJxa1e45 : String := "java/util/AbstractCollection"
def TJxa1e45 : u_T := fun k => match k with
  | _ => ("", "", "", false)
def tyJxa1e45 : Nat → FieldType := fun k => match k with
  | _ => .int
abbrev wsJxa1e450 : List Cond := u_ws RJxa1e45 TJxa1e45 0
theorem nmJxa1e45 : ∀ a, a < 0 → ∀ b, b < 0 → a ≠ b → (TJxa1e45 a).2.1 ≠ (TJxa1e45 b).2.1 := by decide +kernel
theorem tyJxa1e45_ok : ∀ k, k < 0 → parseFieldDescriptor (TJxa1e45 k).2.2.1 = some (tyJxa1e45 k) := by decide +kernel
abbrev cJxa1e45_init_da8c8 : ByteArray := prog_33_method_1_code
def yJxa1e45_init_da8c8 : MethodName := ⟨RJxa1e45, "<init>", "()V"⟩
def RJ15 : String := "java/util/Objects"
def TJ15 : u_T := fun k => match k with
  | _ => ("", "", "", false)
def tyJ15 : Nat → FieldType := fun k => match k with
  | _ => .int
abbrev wsJ150 : List Cond := u_ws RJ15 TJ15 0
theorem nmJ15 : ∀ a, a < 0 → ∀ b, b < 0 → a ≠ b → (TJ15 a).2.1 ≠ (TJ15 b).2.1 := by decide +kernel
theorem tyJ15_ok : ∀ k, k < 0 → parseFieldDescriptor (TJ15 k).2.2.1 = some (tyJ15 k) := by decide +kernel
abbrev cJ15_checkIndex_7cf53 : ByteArray := prog_41_method_17_code
def yJ15_checkIndex_7cf53 : MethodName := ⟨RJ15, "checkIndex", "(II)I"⟩
def RJ3 : String := "jdk/internal/util/Preconditions"
def TJ3 : u_T := fun k => match k with
  | _ => ("", "", "", false)
def tyJ3 : Nat → FieldType := fun k => match k with
  | _ => .int
abbrev wsJ30 : List Cond := u_ws RJ3 TJ3 0
theorem nmJ3 : ∀ a, a < 0 → ∀ b, b < 0 → a ≠ b → (TJ3 a).2.1 ≠ (TJ3 b).2.1 := by decide +kernel
theorem tyJ3_ok : ∀ k, k < 0 → parseFieldDescriptor (TJ3 k).2.2.1 = some (tyJ3 k) := by decide +kernel
abbrev cJ3_checkIndex_8e157 : ByteArray := prog_45_method_11_code
def yJ3_checkIndex_8e157 : MethodName := ⟨RJ3, "checkIndex", "(IILjava/util/function/BiFunction;)I"⟩
def RJ6 : String := "java/lang/Integer"
def RJ7 : String := "java/util/Arrays"
def RJ8 : String := "jdk/internal/util/ArraysSupport"
def RX8 : String := "HandoverhouseModel$Call"
def hr_w0 : List Cond := [.code yX9_init cX9_init 7 none, .methodLink RX9 1 objectInit, .instanceMethod objectInit, .code objectInit ⟨#[0xb1]⟩ 1 none, .fieldLink RX9 7 "HandoverhouseModel$Mast" "isAwake" "Z", .fieldLink RX9 13 "HandoverhouseModel$Mast" "place" "I", .fieldLink RX9 17 "HandoverhouseModel$Mast" "power" "I", .fieldLink RX9 20 "HandoverhouseModel$Mast" "frequency" "I", .fieldLink RX9 23 "HandoverhouseModel$Mast" "channels" "I", .fieldLink RX9 26 "HandoverhouseModel$Mast" "area" "I", .fieldLink RX9 29 "HandoverhouseModel$Mast" "operator" "I", .code yX9_reach cX9_reach 2 (some .int), .methodLink RX9 38 Lib.Math.abs.name, .static Lib.Math.abs.name, .initialized "java/lang/Math", .code Lib.Math.abs.name Lib.Math.abs.code 1 (some .int), .code yX11_init cX11_init 1 none, .methodLink RX11 3 objectInit, .classLink RX11 9 RJx4a65c, .instantiable RJx4a65c 3, .initialized RJx4a65c, .fieldLink RX11 12 "HandoverhouseModel$Road" "masts" "Ljava/util/ArrayList;", .fieldLink RX11 18 "HandoverhouseModel$Road" "phones" "Ljava/util/ArrayList;", .fieldLink RX11 21 "HandoverhouseModel$Road" "calls" "Ljava/util/ArrayList;", .fieldLink RX11 24 "HandoverhouseModel$Road" "texts" "Ljava/util/ArrayList;", .methodLink RX11 11 yJx4a65c_init_da8c8, .instanceMethod yJx4a65c_init_da8c8, .code yJx4a65c_init_da8c8 cJx4a65c_init_da8c8 1 none, .fieldLink RJx4a65c 39 "java/util/ArrayList" "DEFAULTCAPACITY_EMPTY_ELEMENTDATA" "[Ljava/lang/Object;", .fieldLink RJx4a65c 9 "java/util/ArrayList" "elementData" "[Ljava/lang/Object;", .methodLink RJx4a65c 1 yJxc12de_init_da8c8, .instanceMethod yJxc12de_init_da8c8, .initialized RJxc12de, .code yJxc12de_init_da8c8 cJxc12de_init_da8c8 1 none, .fieldLink RJxc12de 7 "java/util/AbstractList" "modCount" "I", .methodLink RJxc12de 1 yJxa1e45_init_da8c8, .instanceMethod yJxa1e45_init_da8c8, .initialized RJxa1e45, .code yJxa1e45_init_da8c8 cJxa1e45_init_da8c8 1 none, .methodLink RJxa1e45 1 objectInit]
def hr_w1 : List Cond := [.code yX11_quality cX11_quality 7 (some .int), .classLink RX11 42 "HandoverhouseModel$Mast", .fieldLink RX11 70 "HandoverhouseModel$Mast" "isAwake" "Z", .fieldLink RX11 74 "HandoverhouseModel$Mast" "frequency" "I", .methodLink RX11 81 Lib.Math.max.name, .static Lib.Math.max.name, .code Lib.Math.max.name Lib.Math.max.code 2 (some .int), .fieldLink RX11 87 "HandoverhouseModel$Mast" "load" "I", .methodLink RX11 66 yJx4a65c_get_915e3, .instanceMethod yJx4a65c_get_915e3, .selects RJx4a65c yJx4a65c_get_915e3 yJx4a65c_get_915e3, .code yJx4a65c_get_915e3 cJx4a65c_get_915e3 2 (some (.object "java/lang/Object")), .fieldLink RJx4a65c 48 "java/util/ArrayList" "size" "I", .methodLink RJx4a65c 118 yJ15_checkIndex_7cf53, .static yJ15_checkIndex_7cf53, .initialized RJ15, .code yJ15_checkIndex_7cf53 cJ15_checkIndex_7cf53 2 (some .int), .methodLink RJ15 105 yJ3_checkIndex_8e157, .static yJ3_checkIndex_8e157, .initialized RJ3, .code yJ3_checkIndex_8e157 cJ3_checkIndex_8e157 3 (some .int), .methodLink RJx4a65c 123 yJx4a65c_elementData_915e3, .instanceMethod yJx4a65c_elementData_915e3, .selects RJx4a65c yJx4a65c_elementData_915e3 yJx4a65c_elementData_915e3, .code yJx4a65c_elementData_915e3 cJx4a65c_elementData_915e3 2 (some (.object "java/lang/Object")), .methodLink RX11 28 yJx4a65c_iterator_32c93, .instanceMethod yJx4a65c_iterator_32c93, .selects RJx4a65c yJx4a65c_iterator_32c93 yJx4a65c_iterator_32c93, .code yJx4a65c_iterator_32c93 cJx4a65c_iterator_32c93 1 (some (.object "java/util/Iterator")), .classLink RJx4a65c 267 RJx35411, .instantiable RJx35411 4, .initialized RJx35411, .methodLink RJx4a65c 269 yJx35411_init_45d68, .instanceMethod yJx35411_init_45d68, .code yJx35411_init_45d68 cJx35411_init_45d68 2 none, .fieldLink RJx35411 1 "java/util/ArrayList$Itr" "this$0" "Ljava/util/ArrayList;", .methodLink RJx35411 7 objectInit, .fieldLink RJx35411 13 "java/util/ArrayList$Itr" "lastRet" "I", .fieldLink RJx35411 17 "java/util/ArrayList" "modCount" "I", .sameField "java/util/ArrayList" "java/util/AbstractList" "modCount" "I"]
def hr_w2 : List Cond := [.fieldLink RJx35411 22 "java/util/ArrayList$Itr" "expectedModCount" "I", .methodLink RX11 32 ⟨"java/util/Iterator", "hasNext", "()Z"⟩, .selects RJx35411 ⟨"java/util/Iterator", "hasNext", "()Z"⟩ yJx35411_hasNext_aae02, .instanceMethod yJx35411_hasNext_aae02, .code yJx35411_hasNext_aae02 cJx35411_hasNext_aae02 1 (some .boolean), .fieldLink RJx35411 25 "java/util/ArrayList$Itr" "cursor" "I", .methodLink RX11 38 ⟨"java/util/Iterator", "next", "()Ljava/lang/Object;"⟩, .selects RJx35411 ⟨"java/util/Iterator", "next", "()Ljava/lang/Object;"⟩ yJx35411_next_0502b, .instanceMethod yJx35411_next_0502b, .code yJx35411_next_0502b cJx35411_next_0502b 3 (some (.object "java/lang/Object")), .fieldLink RJx35411 37 "java/util/ArrayList" "elementData" "[Ljava/lang/Object;", .methodLink RJx35411 31 yJx35411_checkForComodification_da8c8, .instanceMethod yJx35411_checkForComodification_da8c8, .selects RJx35411 yJx35411_checkForComodification_da8c8 yJx35411_checkForComodification_da8c8, .code yJx35411_checkForComodification_da8c8 cJx35411_checkForComodification_da8c8 1 none, .methodLink RX11 77 yX9_reach, .instanceMethod yX9_reach, .selects RX9 yX9_reach yX9_reach, .initialized RX9, .code yX11_isHeard cX11_isHeard 3 (some .boolean), .methodLink RX11 90 yX11_quality, .instanceMethod yX11_quality, .selects RX11 yX11_quality yX11_quality, .initialized RX11, .code yX11_best cX11_best 6 (some .int), .fieldLink RX11 97 "HandoverhouseModel$Mast" "channels" "I", .methodLink RX11 93 yJx4a65c_size_8abf5, .instanceMethod yJx4a65c_size_8abf5, .selects RJx4a65c yJx4a65c_size_8abf5 yJx4a65c_size_8abf5, .code yJx4a65c_size_8abf5 cJx4a65c_size_8abf5 1 (some .int), .code yX11_bestHeard cX11_bestHeard 3 (some .int), .methodLink RX11 100 yX11_best, .instanceMethod yX11_best, .selects RX11 yX11_best yX11_best, .methodLink RX11 104 yX11_isHeard, .instanceMethod yX11_isHeard, .selects RX11 yX11_isHeard yX11_isHeard, .code yX11_covered cX11_covered 4 (some .int), .static yX12_one, .initialized RX12]
def hr_w3 : List Cond := [.code yX12_one cX12_one 1 (some .int), .code yX12_isIn cX12_isIn 3 (some .boolean), .code yX12_init cX12_init 1 none, .methodLink RX12 1 objectInit, .classLink RX12 7 RX11, .instantiable RX11 5, .fieldLink RX12 10 "HandoverhouseModel" "road" "LHandoverhouseModel$Road;", .instanceMethod yX11_init, .code yX12_thrown cX12_thrown 1 (some .int), .fieldLink RX12 16 "HandoverhouseModel" "thrown" "I", .code yX12_refuse cX12_refuse 3 (some .boolean), .code yX12_start cX12_start 3 (some .boolean), .methodLink RX12 20 yX12_refuse, .instanceMethod yX12_refuse, .selects RX12 yX12_refuse yX12_refuse, .code yX12_mast cX12_mast 7 (some .int), .fieldLink RX12 24 "HandoverhouseModel$Road" "masts" "Ljava/util/ArrayList;", .classLink RX12 47 RX9, .instantiable RX9 9, .methodLink RX12 34 yX12_isIn, .static yX12_isIn, .methodLink RX12 44 yX12_start, .instanceMethod yX12_start, .selects RX12 yX12_start yX12_start, .methodLink RX12 28 yJx4a65c_size_8abf5, .methodLink RX12 49 yX9_init, .instanceMethod yX9_init, .methodLink RX12 52 yJx4a65c_add_9ea2d, .instanceMethod yJx4a65c_add_9ea2d, .selects RJx4a65c yJx4a65c_add_9ea2d yJx4a65c_add_9ea2d, .code yJx4a65c_add_9ea2d cJx4a65c_add_9ea2d 2 (some .boolean), .fieldLink RJx4a65c 63 "java/util/ArrayList" "modCount" "I", .methodLink RJx4a65c 131 yJx4a65c_add_72be8, .instanceMethod yJx4a65c_add_72be8, .selects RJx4a65c yJx4a65c_add_72be8 yJx4a65c_add_72be8, .code yJx4a65c_add_72be8 cJx4a65c_add_72be8 4 none, .methodLink RJx4a65c 129 yJx4a65c_grow_d5877, .instanceMethod yJx4a65c_grow_d5877, .selects RJx4a65c yJx4a65c_grow_d5877 yJx4a65c_grow_d5877, .code yJx4a65c_grow_d5877 cJx4a65c_grow_d5877 1 (some (.array (.object "java/lang/Object")))]
def hr_w4 : List Cond := [.methodLink RJx4a65c 69 yJx4a65c_grow_92f84, .instanceMethod yJx4a65c_grow_92f84, .selects RJx4a65c yJx4a65c_grow_92f84 yJx4a65c_grow_92f84, .code yJx4a65c_grow_92f84 cJx4a65c_grow_92f84 4 (some (.array (.object "java/lang/Object"))), .methodLink RJx4a65c 79 Lib.Math.max.name, .classLink RJx4a65c 7 "java/lang/Object", .initialized RJ8, .methodLink RJ8 194 Lib.Math.max.name, .constant RJ8 200 (2147483639), .initialized RJ7, .methodLink RJ7 86 ⟨"java/lang/Object", "getClass", "()Ljava/lang/Class;"⟩, .selects "[Ljava/lang/Object;" ⟨"java/lang/Object", "getClass", "()Ljava/lang/Class;"⟩ ⟨"java/lang/Object", "getClass", "()Ljava/lang/Class;"⟩, .instanceMethod ⟨"java/lang/Object", "getClass", "()Ljava/lang/Class;"⟩, .classLink RJ7 110 "[Ljava/lang/Object;", .classLink RJ7 2 "java/lang/Object", .code yX12_toldOfMast cX12_toldOfMast 7 (some .int), .classLink RX12 47 "HandoverhouseModel$Mast", .fieldLink RX12 38 "HandoverhouseModel$Road" "phones" "Ljava/util/ArrayList;", .classLink RX12 56 "HandoverhouseModel$Phone", .fieldLink RX12 88 "HandoverhouseModel$Phone" "mast" "I", .arrayClass .int, .fieldLink RX12 196 "HandoverhouseModel$Mast" "place" "I", .fieldLink RX12 199 "HandoverhouseModel$Mast" "power" "I", .fieldLink RX12 202 "HandoverhouseModel$Mast" "frequency" "I", .fieldLink RX12 122 "HandoverhouseModel$Mast" "channels" "I", .fieldLink RX12 205 "HandoverhouseModel$Mast" "area" "I", .fieldLink RX12 208 "HandoverhouseModel$Mast" "operator" "I", .fieldLink RX12 97 "HandoverhouseModel$Mast" "isAwake" "Z", .fieldLink RX12 94 "HandoverhouseModel$Mast" "load" "I", .fieldLink RX12 211 "HandoverhouseModel$Mast" "carried" "I", .methodLink RX12 65 yJx4a65c_get_915e3, .methodLink RX12 100 yJx4a65c_iterator_32c93, .methodLink RX12 104 ⟨"java/util/Iterator", "hasNext", "()Z"⟩, .methodLink RX12 110 ⟨"java/util/Iterator", "next", "()Ljava/lang/Object;"⟩, .initialized RX10, .fieldLink RX10 9 "HandoverhouseModel$Phone" "isOn" "Z", .fieldLink RX10 25 "HandoverhouseModel$Phone" "call" "I", .methodLink RX12 170 yX12_one, .code yX12_count cX12_count 11 (some .int), .fieldLink RX12 41 "HandoverhouseModel$Road" "calls" "Ljava/util/ArrayList;"]
def hr_w5 : List Cond := [.classLink RX12 82 "HandoverhouseModel$Call", .fieldLink RX12 151 "HandoverhouseModel$Call" "end" "I", .fieldLink RX12 239 "HandoverhouseModel$Call" "handovers" "I", .fieldLink RX12 242 "HandoverhouseModel$Call" "backs" "I", .fieldLink RX12 236 "HandoverhouseModel$Call" "paid" "I", .fieldLink RX12 221 "HandoverhouseModel$Phone" "updates" "I", .fieldLink RX12 248 "HandoverhouseModel$Road" "now" "I", .fieldLink RX12 132 "HandoverhouseModel" "pages" "I", .fieldLink RX12 174 "HandoverhouseModel" "texts" "I", .fieldLink RX12 162 "HandoverhouseModel$Road" "texts" "Ljava/util/ArrayList;", .fieldLink RX11 137 "HandoverhouseModel$Phone" "mast" "I", .fieldLink RX11 159 "HandoverhouseModel$Mast" "area" "I", .fieldLink RX11 168 "HandoverhouseModel$Phone" "known" "I", .methodLink RX11 222 Lib.Math.abs.name, .methodLink RX12 251 yX11_covered, .instanceMethod yX11_covered, .selects RX11 yX11_covered yX11_covered, .code yX12_rowsFor cX12_rowsFor 7 (some (.array (.array .int))), .classLink RX12 138 "[I", .methodLink RX12 270 Lib.Math.max.name, .methodLink RX12 189 yX11_quality, .methodLink RX12 267 yX9_reach, .code yX12_isCovered cX12_isCovered 8 (some .boolean), .code yX12_bestFor cX12_bestFor 9 (some .int), .methodLink RX12 279 Lib.Math.abs.name, .methodLink RX12 275 yX12_rowsFor, .instanceMethod yX12_rowsFor, .selects RX12 yX12_rowsFor yX12_rowsFor, .methodLink RX12 282 yX12_isCovered, .instanceMethod yX12_isCovered, .selects RX12 yX12_isCovered yX12_isCovered, .code yX12_add cX12_add 4 (some .long), .constantLong RX12 289 (31), .code yX12_digest cX12_digest 5 (some .long), .constantLong RX12 291 (58188), .methodLink RX12 254 yX12_count, .instanceMethod yX12_count, .selects RX12 yX12_count yX12_count, .methodLink RX12 293 yX12_add, .static yX12_add]
def hr_w6 : List Cond := [.methodLink RX12 214 yX12_toldOfMast, .instanceMethod yX12_toldOfMast, .selects RX12 yX12_toldOfMast yX12_toldOfMast, .fieldLink RX12 217 "HandoverhouseModel$Phone" "place" "I", .fieldLink RX12 69 "HandoverhouseModel$Phone" "speed" "I", .fieldLink RX12 75 "HandoverhouseModel$Phone" "isOn" "Z", .fieldLink RX12 72 "HandoverhouseModel$Phone" "balance" "I", .fieldLink RX12 183 "HandoverhouseModel$Phone" "known" "I", .fieldLink RX12 218 "HandoverhouseModel$Phone" "told" "I", .fieldLink RX12 79 "HandoverhouseModel$Phone" "call" "I", .fieldLink RX12 224 "HandoverhouseModel$Phone" "got" "I", .initialized RJ6, .classLink RX11 13 RX11, .classLink RX11 52 "HandoverhouseModel$Phone", .classLink RX11 57 "HandoverhouseModel$Call", .fieldLink RX11 62 "HandoverhouseModel$Road" "now" "I", .methodLink RX11 27 yX11_init, .classLink RX9 8 RX9, .fieldLink RX9 35 "HandoverhouseModel$Mast" "load" "I", .methodLink RX9 32 yX9_init, .methodLink RX11 48 yJx4a65c_add_9ea2d, .classLink RX10 10 RX10, .instantiable RX10 12, .fieldLink RX10 28 "HandoverhouseModel$Phone" "operator" "I", .fieldLink RX10 31 "HandoverhouseModel$Phone" "place" "I", .fieldLink RX10 34 "HandoverhouseModel$Phone" "speed" "I", .fieldLink RX10 37 "HandoverhouseModel$Phone" "balance" "I", .fieldLink RX10 15 "HandoverhouseModel$Phone" "mast" "I", .fieldLink RX10 19 "HandoverhouseModel$Phone" "known" "I", .fieldLink RX10 22 "HandoverhouseModel$Phone" "told" "I", .fieldLink RX10 43 "HandoverhouseModel$Phone" "toldAt" "I", .methodLink RX10 3 objectInit, .initialized RX8, .fieldLink RX8 18 "HandoverhouseModel$Call" "legs" "[[I", .classLink RX8 22 "[I", .methodLink RX8 24 ⟨"[I", "clone", "()Ljava/lang/Object;"⟩, .instanceMethod ⟨"java/lang/Object", "clone", "()Ljava/lang/Object;"⟩, .selects "[I" ⟨"[I", "clone", "()Ljava/lang/Object;"⟩ ⟨"java/lang/Object", "clone", "()Ljava/lang/Object;"⟩, .classLink RX8 10 RX8, .instantiable RX8 8]
def hr_w7 : List Cond := [.fieldLink RX8 9 "HandoverhouseModel$Call" "from" "I", .fieldLink RX8 15 "HandoverhouseModel$Call" "to" "I", .fieldLink RX8 31 "HandoverhouseModel$Call" "end" "I", .methodLink RX8 3 objectInit, .fieldLink RX11 118 "HandoverhouseModel$Call" "end" "I", .fieldLink RX11 140 "HandoverhouseModel$Phone" "got" "I", .fieldLink RX11 146 "HandoverhouseModel$Phone" "place" "I", .fieldLink RX11 149 "HandoverhouseModel$Phone" "speed" "I", .fieldLink RX11 162 "HandoverhouseModel$Phone" "told" "I", .fieldLink RX11 165 "HandoverhouseModel$Phone" "toldAt" "I", .fieldLink RX11 171 "HandoverhouseModel$Phone" "updates" "I", .methodLink RX11 156 yX11_bestHeard, .instanceMethod yX11_bestHeard, .selects RX11 yX11_bestHeard yX11_bestHeard, .fieldLink RX11 174 "HandoverhouseModel$Call" "legs" "[[I", .fieldLink RX11 188 "HandoverhouseModel$Call" "handovers" "I", .fieldLink RX11 191 "HandoverhouseModel$Call" "backs" "I", .fieldLink RX11 216 "HandoverhouseModel$Phone" "call" "I", .fieldLink RX11 194 "HandoverhouseModel$Call" "from" "I", .fieldLink RX11 200 "HandoverhouseModel$Mast" "operator" "I", .fieldLink RX11 203 "HandoverhouseModel$Phone" "operator" "I", .fieldLink RX11 204 "HandoverhouseModel$Phone" "balance" "I", .fieldLink RX11 207 "HandoverhouseModel$Call" "paid" "I", .fieldLink RX11 210 "HandoverhouseModel$Call" "seconds" "I", .fieldLink RX11 213 "HandoverhouseModel$Mast" "carried" "I", .fieldLink RX12 230 "HandoverhouseModel$Call" "from" "I", .fieldLink RX12 233 "HandoverhouseModel$Call" "to" "I", .fieldLink RX12 159 "HandoverhouseModel$Call" "seconds" "I", .fieldLink RX12 114 "HandoverhouseModel$Call" "legs" "[[I", .methodLink RX12 193 yX11_bestHeard, .methodLink RX12 286 yX12_bestFor, .instanceMethod yX12_bestFor, .selects RX12 yX12_bestFor yX12_bestFor]
def hr_wf : List Cond := wsX90 ++ (wsX100 ++ (wsX110 ++ (wsX120 ++ (wsJx4a65c0 ++ (wsJx354110)))))
def hr_wa : List Cond := hr_w0 ++ (hr_w1 ++ (hr_w2 ++ (hr_w3 ++ (hr_w4 ++ (hr_w5 ++ (hr_w6 ++ (hr_w7 ++ hr_wf)))))))
theorem hr_in0 : ∀ w ∈ hr_w0, w ∈ hr_wa := fun w h => List.mem_append_left _ h
theorem hr_in1 : ∀ w ∈ hr_w1, w ∈ hr_wa := fun w h => List.mem_append_right _ (List.mem_append_left _ h)
theorem hr_in2 : ∀ w ∈ hr_w2, w ∈ hr_wa := fun w h => List.mem_append_right _ (List.mem_append_right _ (List.mem_append_left _ h))
theorem hr_in3 : ∀ w ∈ hr_w3, w ∈ hr_wa := fun w h => List.mem_append_right _ (List.mem_append_right _ (List.mem_append_right _ (List.mem_append_left _ h)))
theorem hr_in4 : ∀ w ∈ hr_w4, w ∈ hr_wa := fun w h => List.mem_append_right _ (List.mem_append_right _ (List.mem_append_right _ (List.mem_append_right _ (List.mem_append_left _ h))))
theorem hr_in5 : ∀ w ∈ hr_w5, w ∈ hr_wa := fun w h => List.mem_append_right _ (List.mem_append_right _ (List.mem_append_right _ (List.mem_append_right _ (List.mem_append_right _ (List.mem_append_left _ h)))))
theorem hr_in6 : ∀ w ∈ hr_w6, w ∈ hr_wa := fun w h => List.mem_append_right _ (List.mem_append_right _ (List.mem_append_right _ (List.mem_append_right _ (List.mem_append_right _ (List.mem_append_right _ (List.mem_append_left _ h))))))
theorem hr_in7 : ∀ w ∈ hr_w7, w ∈ hr_wa := fun w h => List.mem_append_right _ (List.mem_append_right _ (List.mem_append_right _ (List.mem_append_right _ (List.mem_append_right _ (List.mem_append_right _ (List.mem_append_right _ (List.mem_append_left _ h)))))))
theorem hr_inf : ∀ w ∈ hr_wf, w ∈ hr_wa := fun w h => List.mem_append_right _ (List.mem_append_right _ (List.mem_append_right _ (List.mem_append_right _ (List.mem_append_right _ (List.mem_append_right _ (List.mem_append_right _ (List.mem_append_right _ h)))))))
theorem hr_uX9 : ∀ w ∈ wsX90, w ∈ hr_wa := fun w h => hr_inf w (List.mem_append_left _ h)
theorem hr_uX10 : ∀ w ∈ wsX100, w ∈ hr_wa := fun w h => hr_inf w (List.mem_append_right _ (List.mem_append_left _ h))
theorem hr_uX11 : ∀ w ∈ wsX110, w ∈ hr_wa := fun w h => hr_inf w (List.mem_append_right _ (List.mem_append_right _ (List.mem_append_left _ h)))
theorem hr_uX12 : ∀ w ∈ wsX120, w ∈ hr_wa := fun w h => hr_inf w (List.mem_append_right _ (List.mem_append_right _ (List.mem_append_right _ (List.mem_append_left _ h))))
theorem hr_uJx4a65c : ∀ w ∈ wsJx4a65c0, w ∈ hr_wa := fun w h => hr_inf w (List.mem_append_right _ (List.mem_append_right _ (List.mem_append_right _ (List.mem_append_right _ (List.mem_append_left _ h)))))
theorem hr_uJx35411 : ∀ w ∈ wsJx354110, w ∈ hr_wa := fun w h => hr_inf w (List.mem_append_right _ (List.mem_append_right _ (List.mem_append_right _ (List.mem_append_right _ (List.mem_append_right _ (h))))))
theorem hr_good : GoodIn hr_wa hr_wa := fun w hw => ⟨hw, good_of_word (List.all_eq_true.mp (by decide +kernel : hr_wa.all goodWord = true) w hw)⟩
theorem hw_0 : (Cond.code yX9_init cX9_init 7 none) ∈ hr_wa := hr_in0 _ (List.mem_of_getElem? (i := 0) rfl)
theorem hw_1 : (Cond.methodLink RX9 1 objectInit) ∈ hr_wa := hr_in0 _ (List.mem_of_getElem? (i := 1) rfl)
theorem hw_2 : (Cond.instanceMethod objectInit) ∈ hr_wa := hr_in0 _ (List.mem_of_getElem? (i := 2) rfl)
theorem hw_3 : (Cond.code objectInit ⟨#[0xb1]⟩ 1 none) ∈ hr_wa := hr_in0 _ (List.mem_of_getElem? (i := 3) rfl)
theorem hw_4 : (Cond.fieldLink RX9 7 "HandoverhouseModel$Mast" "isAwake" "Z") ∈ hr_wa := hr_in0 _ (List.mem_of_getElem? (i := 4) rfl)
theorem hw_5 : (Cond.fieldLink RX9 13 "HandoverhouseModel$Mast" "place" "I") ∈ hr_wa := hr_in0 _ (List.mem_of_getElem? (i := 5) rfl)
theorem hw_6 : (Cond.fieldLink RX9 17 "HandoverhouseModel$Mast" "power" "I") ∈ hr_wa := hr_in0 _ (List.mem_of_getElem? (i := 6) rfl)
theorem hw_7 : (Cond.fieldLink RX9 20 "HandoverhouseModel$Mast" "frequency" "I") ∈ hr_wa := hr_in0 _ (List.mem_of_getElem? (i := 7) rfl)
theorem hw_8 : (Cond.fieldLink RX9 23 "HandoverhouseModel$Mast" "channels" "I") ∈ hr_wa := hr_in0 _ (List.mem_of_getElem? (i := 8) rfl)
theorem hw_9 : (Cond.fieldLink RX9 26 "HandoverhouseModel$Mast" "area" "I") ∈ hr_wa := hr_in0 _ (List.mem_of_getElem? (i := 9) rfl)
theorem hw_10 : (Cond.fieldLink RX9 29 "HandoverhouseModel$Mast" "operator" "I") ∈ hr_wa := hr_in0 _ (List.mem_of_getElem? (i := 10) rfl)
theorem hw_11 : (Cond.code yX9_reach cX9_reach 2 (some .int)) ∈ hr_wa := hr_in0 _ (List.mem_of_getElem? (i := 11) rfl)
theorem hw_12 : (Cond.methodLink RX9 38 Lib.Math.abs.name) ∈ hr_wa := hr_in0 _ (List.mem_of_getElem? (i := 12) rfl)
theorem hw_13 : (Cond.static Lib.Math.abs.name) ∈ hr_wa := hr_in0 _ (List.mem_of_getElem? (i := 13) rfl)
theorem hw_14 : (Cond.initialized "java/lang/Math") ∈ hr_wa := hr_in0 _ (List.mem_of_getElem? (i := 14) rfl)
theorem hw_15 : (Cond.code Lib.Math.abs.name Lib.Math.abs.code 1 (some .int)) ∈ hr_wa := hr_in0 _ (List.mem_of_getElem? (i := 15) rfl)
theorem hw_16 : (Cond.code yX11_init cX11_init 1 none) ∈ hr_wa := hr_in0 _ (List.mem_of_getElem? (i := 16) rfl)
theorem hw_17 : (Cond.methodLink RX11 3 objectInit) ∈ hr_wa := hr_in0 _ (List.mem_of_getElem? (i := 17) rfl)
theorem hw_18 : (Cond.classLink RX11 9 RJx4a65c) ∈ hr_wa := hr_in0 _ (List.mem_of_getElem? (i := 18) rfl)
theorem hw_19 : (Cond.instantiable RJx4a65c 3) ∈ hr_wa := hr_in0 _ (List.mem_of_getElem? (i := 19) rfl)
theorem hw_20 : (Cond.initialized RJx4a65c) ∈ hr_wa := hr_in0 _ (List.mem_of_getElem? (i := 20) rfl)
theorem hw_21 : (Cond.fieldLink RX11 12 "HandoverhouseModel$Road" "masts" "Ljava/util/ArrayList;") ∈ hr_wa := hr_in0 _ (List.mem_of_getElem? (i := 21) rfl)
theorem hw_22 : (Cond.fieldLink RX11 18 "HandoverhouseModel$Road" "phones" "Ljava/util/ArrayList;") ∈ hr_wa := hr_in0 _ (List.mem_of_getElem? (i := 22) rfl)
theorem hw_23 : (Cond.fieldLink RX11 21 "HandoverhouseModel$Road" "calls" "Ljava/util/ArrayList;") ∈ hr_wa := hr_in0 _ (List.mem_of_getElem? (i := 23) rfl)
theorem hw_24 : (Cond.fieldLink RX11 24 "HandoverhouseModel$Road" "texts" "Ljava/util/ArrayList;") ∈ hr_wa := hr_in0 _ (List.mem_of_getElem? (i := 24) rfl)
theorem hw_25 : (Cond.methodLink RX11 11 yJx4a65c_init_da8c8) ∈ hr_wa := hr_in0 _ (List.mem_of_getElem? (i := 25) rfl)
theorem hw_26 : (Cond.instanceMethod yJx4a65c_init_da8c8) ∈ hr_wa := hr_in0 _ (List.mem_of_getElem? (i := 26) rfl)
theorem hw_27 : (Cond.code yJx4a65c_init_da8c8 cJx4a65c_init_da8c8 1 none) ∈ hr_wa := hr_in0 _ (List.mem_of_getElem? (i := 27) rfl)
theorem hw_28 : (Cond.fieldLink RJx4a65c 39 "java/util/ArrayList" "DEFAULTCAPACITY_EMPTY_ELEMENTDATA" "[Ljava/lang/Object;") ∈ hr_wa := hr_in0 _ (List.mem_of_getElem? (i := 28) rfl)
theorem hw_29 : (Cond.fieldLink RJx4a65c 9 "java/util/ArrayList" "elementData" "[Ljava/lang/Object;") ∈ hr_wa := hr_in0 _ (List.mem_of_getElem? (i := 29) rfl)
theorem hw_30 : (Cond.methodLink RJx4a65c 1 yJxc12de_init_da8c8) ∈ hr_wa := hr_in0 _ (List.mem_of_getElem? (i := 30) rfl)
theorem hw_31 : (Cond.instanceMethod yJxc12de_init_da8c8) ∈ hr_wa := hr_in0 _ (List.mem_of_getElem? (i := 31) rfl)
theorem hw_32 : (Cond.initialized RJxc12de) ∈ hr_wa := hr_in0 _ (List.mem_of_getElem? (i := 32) rfl)
theorem hw_33 : (Cond.code yJxc12de_init_da8c8 cJxc12de_init_da8c8 1 none) ∈ hr_wa := hr_in0 _ (List.mem_of_getElem? (i := 33) rfl)
theorem hw_34 : (Cond.fieldLink RJxc12de 7 "java/util/AbstractList" "modCount" "I") ∈ hr_wa := hr_in0 _ (List.mem_of_getElem? (i := 34) rfl)
theorem hw_35 : (Cond.methodLink RJxc12de 1 yJxa1e45_init_da8c8) ∈ hr_wa := hr_in0 _ (List.mem_of_getElem? (i := 35) rfl)
theorem hw_36 : (Cond.instanceMethod yJxa1e45_init_da8c8) ∈ hr_wa := hr_in0 _ (List.mem_of_getElem? (i := 36) rfl)
theorem hw_37 : (Cond.initialized RJxa1e45) ∈ hr_wa := hr_in0 _ (List.mem_of_getElem? (i := 37) rfl)
theorem hw_38 : (Cond.code yJxa1e45_init_da8c8 cJxa1e45_init_da8c8 1 none) ∈ hr_wa := hr_in0 _ (List.mem_of_getElem? (i := 38) rfl)
theorem hw_39 : (Cond.methodLink RJxa1e45 1 objectInit) ∈ hr_wa := hr_in0 _ (List.mem_of_getElem? (i := 39) rfl)
theorem hw_40 : (Cond.code yX11_quality cX11_quality 7 (some .int)) ∈ hr_wa := hr_in1 _ (List.mem_of_getElem? (i := 0) rfl)
theorem hw_41 : (Cond.classLink RX11 42 "HandoverhouseModel$Mast") ∈ hr_wa := hr_in1 _ (List.mem_of_getElem? (i := 1) rfl)
theorem hw_42 : (Cond.fieldLink RX11 70 "HandoverhouseModel$Mast" "isAwake" "Z") ∈ hr_wa := hr_in1 _ (List.mem_of_getElem? (i := 2) rfl)
theorem hw_43 : (Cond.fieldLink RX11 74 "HandoverhouseModel$Mast" "frequency" "I") ∈ hr_wa := hr_in1 _ (List.mem_of_getElem? (i := 3) rfl)
theorem hw_44 : (Cond.methodLink RX11 81 Lib.Math.max.name) ∈ hr_wa := hr_in1 _ (List.mem_of_getElem? (i := 4) rfl)
theorem hw_45 : (Cond.static Lib.Math.max.name) ∈ hr_wa := hr_in1 _ (List.mem_of_getElem? (i := 5) rfl)
theorem hw_46 : (Cond.code Lib.Math.max.name Lib.Math.max.code 2 (some .int)) ∈ hr_wa := hr_in1 _ (List.mem_of_getElem? (i := 6) rfl)
theorem hw_47 : (Cond.fieldLink RX11 87 "HandoverhouseModel$Mast" "load" "I") ∈ hr_wa := hr_in1 _ (List.mem_of_getElem? (i := 7) rfl)
theorem hw_48 : (Cond.methodLink RX11 66 yJx4a65c_get_915e3) ∈ hr_wa := hr_in1 _ (List.mem_of_getElem? (i := 8) rfl)
theorem hw_49 : (Cond.instanceMethod yJx4a65c_get_915e3) ∈ hr_wa := hr_in1 _ (List.mem_of_getElem? (i := 9) rfl)
theorem hw_50 : (Cond.selects RJx4a65c yJx4a65c_get_915e3 yJx4a65c_get_915e3) ∈ hr_wa := hr_in1 _ (List.mem_of_getElem? (i := 10) rfl)
theorem hw_51 : (Cond.code yJx4a65c_get_915e3 cJx4a65c_get_915e3 2 (some (.object "java/lang/Object"))) ∈ hr_wa := hr_in1 _ (List.mem_of_getElem? (i := 11) rfl)
theorem hw_52 : (Cond.fieldLink RJx4a65c 48 "java/util/ArrayList" "size" "I") ∈ hr_wa := hr_in1 _ (List.mem_of_getElem? (i := 12) rfl)
theorem hw_53 : (Cond.methodLink RJx4a65c 118 yJ15_checkIndex_7cf53) ∈ hr_wa := hr_in1 _ (List.mem_of_getElem? (i := 13) rfl)
theorem hw_54 : (Cond.static yJ15_checkIndex_7cf53) ∈ hr_wa := hr_in1 _ (List.mem_of_getElem? (i := 14) rfl)
theorem hw_55 : (Cond.initialized RJ15) ∈ hr_wa := hr_in1 _ (List.mem_of_getElem? (i := 15) rfl)
theorem hw_56 : (Cond.code yJ15_checkIndex_7cf53 cJ15_checkIndex_7cf53 2 (some .int)) ∈ hr_wa := hr_in1 _ (List.mem_of_getElem? (i := 16) rfl)
theorem hw_57 : (Cond.methodLink RJ15 105 yJ3_checkIndex_8e157) ∈ hr_wa := hr_in1 _ (List.mem_of_getElem? (i := 17) rfl)
theorem hw_58 : (Cond.static yJ3_checkIndex_8e157) ∈ hr_wa := hr_in1 _ (List.mem_of_getElem? (i := 18) rfl)
theorem hw_59 : (Cond.initialized RJ3) ∈ hr_wa := hr_in1 _ (List.mem_of_getElem? (i := 19) rfl)
theorem hw_60 : (Cond.code yJ3_checkIndex_8e157 cJ3_checkIndex_8e157 3 (some .int)) ∈ hr_wa := hr_in1 _ (List.mem_of_getElem? (i := 20) rfl)
theorem hw_61 : (Cond.methodLink RJx4a65c 123 yJx4a65c_elementData_915e3) ∈ hr_wa := hr_in1 _ (List.mem_of_getElem? (i := 21) rfl)
theorem hw_62 : (Cond.instanceMethod yJx4a65c_elementData_915e3) ∈ hr_wa := hr_in1 _ (List.mem_of_getElem? (i := 22) rfl)
theorem hw_63 : (Cond.selects RJx4a65c yJx4a65c_elementData_915e3 yJx4a65c_elementData_915e3) ∈ hr_wa := hr_in1 _ (List.mem_of_getElem? (i := 23) rfl)
theorem hw_64 : (Cond.code yJx4a65c_elementData_915e3 cJx4a65c_elementData_915e3 2 (some (.object "java/lang/Object"))) ∈ hr_wa := hr_in1 _ (List.mem_of_getElem? (i := 24) rfl)
theorem hw_65 : (Cond.methodLink RX11 28 yJx4a65c_iterator_32c93) ∈ hr_wa := hr_in1 _ (List.mem_of_getElem? (i := 25) rfl)
theorem hw_66 : (Cond.instanceMethod yJx4a65c_iterator_32c93) ∈ hr_wa := hr_in1 _ (List.mem_of_getElem? (i := 26) rfl)
theorem hw_67 : (Cond.selects RJx4a65c yJx4a65c_iterator_32c93 yJx4a65c_iterator_32c93) ∈ hr_wa := hr_in1 _ (List.mem_of_getElem? (i := 27) rfl)
theorem hw_68 : (Cond.code yJx4a65c_iterator_32c93 cJx4a65c_iterator_32c93 1 (some (.object "java/util/Iterator"))) ∈ hr_wa := hr_in1 _ (List.mem_of_getElem? (i := 28) rfl)
theorem hw_69 : (Cond.classLink RJx4a65c 267 RJx35411) ∈ hr_wa := hr_in1 _ (List.mem_of_getElem? (i := 29) rfl)
theorem hw_70 : (Cond.instantiable RJx35411 4) ∈ hr_wa := hr_in1 _ (List.mem_of_getElem? (i := 30) rfl)
theorem hw_71 : (Cond.initialized RJx35411) ∈ hr_wa := hr_in1 _ (List.mem_of_getElem? (i := 31) rfl)
theorem hw_72 : (Cond.methodLink RJx4a65c 269 yJx35411_init_45d68) ∈ hr_wa := hr_in1 _ (List.mem_of_getElem? (i := 32) rfl)
theorem hw_73 : (Cond.instanceMethod yJx35411_init_45d68) ∈ hr_wa := hr_in1 _ (List.mem_of_getElem? (i := 33) rfl)
theorem hw_74 : (Cond.code yJx35411_init_45d68 cJx35411_init_45d68 2 none) ∈ hr_wa := hr_in1 _ (List.mem_of_getElem? (i := 34) rfl)
theorem hw_75 : (Cond.fieldLink RJx35411 1 "java/util/ArrayList$Itr" "this$0" "Ljava/util/ArrayList;") ∈ hr_wa := hr_in1 _ (List.mem_of_getElem? (i := 35) rfl)
theorem hw_76 : (Cond.methodLink RJx35411 7 objectInit) ∈ hr_wa := hr_in1 _ (List.mem_of_getElem? (i := 36) rfl)
theorem hw_77 : (Cond.fieldLink RJx35411 13 "java/util/ArrayList$Itr" "lastRet" "I") ∈ hr_wa := hr_in1 _ (List.mem_of_getElem? (i := 37) rfl)
theorem hw_78 : (Cond.fieldLink RJx35411 17 "java/util/ArrayList" "modCount" "I") ∈ hr_wa := hr_in1 _ (List.mem_of_getElem? (i := 38) rfl)
theorem hw_79 : (Cond.sameField "java/util/ArrayList" "java/util/AbstractList" "modCount" "I") ∈ hr_wa := hr_in1 _ (List.mem_of_getElem? (i := 39) rfl)
theorem hw_80 : (Cond.fieldLink RJx35411 22 "java/util/ArrayList$Itr" "expectedModCount" "I") ∈ hr_wa := hr_in2 _ (List.mem_of_getElem? (i := 0) rfl)
theorem hw_81 : (Cond.methodLink RX11 32 ⟨"java/util/Iterator", "hasNext", "()Z"⟩) ∈ hr_wa := hr_in2 _ (List.mem_of_getElem? (i := 1) rfl)
theorem hw_82 : (Cond.selects RJx35411 ⟨"java/util/Iterator", "hasNext", "()Z"⟩ yJx35411_hasNext_aae02) ∈ hr_wa := hr_in2 _ (List.mem_of_getElem? (i := 2) rfl)
theorem hw_83 : (Cond.instanceMethod yJx35411_hasNext_aae02) ∈ hr_wa := hr_in2 _ (List.mem_of_getElem? (i := 3) rfl)
theorem hw_84 : (Cond.code yJx35411_hasNext_aae02 cJx35411_hasNext_aae02 1 (some .boolean)) ∈ hr_wa := hr_in2 _ (List.mem_of_getElem? (i := 4) rfl)
theorem hw_85 : (Cond.fieldLink RJx35411 25 "java/util/ArrayList$Itr" "cursor" "I") ∈ hr_wa := hr_in2 _ (List.mem_of_getElem? (i := 5) rfl)
theorem hw_86 : (Cond.methodLink RX11 38 ⟨"java/util/Iterator", "next", "()Ljava/lang/Object;"⟩) ∈ hr_wa := hr_in2 _ (List.mem_of_getElem? (i := 6) rfl)
theorem hw_87 : (Cond.selects RJx35411 ⟨"java/util/Iterator", "next", "()Ljava/lang/Object;"⟩ yJx35411_next_0502b) ∈ hr_wa := hr_in2 _ (List.mem_of_getElem? (i := 7) rfl)
theorem hw_88 : (Cond.instanceMethod yJx35411_next_0502b) ∈ hr_wa := hr_in2 _ (List.mem_of_getElem? (i := 8) rfl)
theorem hw_89 : (Cond.code yJx35411_next_0502b cJx35411_next_0502b 3 (some (.object "java/lang/Object"))) ∈ hr_wa := hr_in2 _ (List.mem_of_getElem? (i := 9) rfl)
theorem hw_90 : (Cond.fieldLink RJx35411 37 "java/util/ArrayList" "elementData" "[Ljava/lang/Object;") ∈ hr_wa := hr_in2 _ (List.mem_of_getElem? (i := 10) rfl)
theorem hw_91 : (Cond.methodLink RJx35411 31 yJx35411_checkForComodification_da8c8) ∈ hr_wa := hr_in2 _ (List.mem_of_getElem? (i := 11) rfl)
theorem hw_92 : (Cond.instanceMethod yJx35411_checkForComodification_da8c8) ∈ hr_wa := hr_in2 _ (List.mem_of_getElem? (i := 12) rfl)
theorem hw_93 : (Cond.selects RJx35411 yJx35411_checkForComodification_da8c8 yJx35411_checkForComodification_da8c8) ∈ hr_wa := hr_in2 _ (List.mem_of_getElem? (i := 13) rfl)
theorem hw_94 : (Cond.code yJx35411_checkForComodification_da8c8 cJx35411_checkForComodification_da8c8 1 none) ∈ hr_wa := hr_in2 _ (List.mem_of_getElem? (i := 14) rfl)
theorem hw_95 : (Cond.methodLink RX11 77 yX9_reach) ∈ hr_wa := hr_in2 _ (List.mem_of_getElem? (i := 15) rfl)
theorem hw_96 : (Cond.instanceMethod yX9_reach) ∈ hr_wa := hr_in2 _ (List.mem_of_getElem? (i := 16) rfl)
theorem hw_97 : (Cond.selects RX9 yX9_reach yX9_reach) ∈ hr_wa := hr_in2 _ (List.mem_of_getElem? (i := 17) rfl)
theorem hw_98 : (Cond.initialized RX9) ∈ hr_wa := hr_in2 _ (List.mem_of_getElem? (i := 18) rfl)
theorem hw_99 : (Cond.code yX11_isHeard cX11_isHeard 3 (some .boolean)) ∈ hr_wa := hr_in2 _ (List.mem_of_getElem? (i := 19) rfl)
theorem hw_100 : (Cond.methodLink RX11 90 yX11_quality) ∈ hr_wa := hr_in2 _ (List.mem_of_getElem? (i := 20) rfl)
theorem hw_101 : (Cond.instanceMethod yX11_quality) ∈ hr_wa := hr_in2 _ (List.mem_of_getElem? (i := 21) rfl)
theorem hw_102 : (Cond.selects RX11 yX11_quality yX11_quality) ∈ hr_wa := hr_in2 _ (List.mem_of_getElem? (i := 22) rfl)
theorem hw_103 : (Cond.initialized RX11) ∈ hr_wa := hr_in2 _ (List.mem_of_getElem? (i := 23) rfl)
theorem hw_104 : (Cond.code yX11_best cX11_best 6 (some .int)) ∈ hr_wa := hr_in2 _ (List.mem_of_getElem? (i := 24) rfl)
theorem hw_105 : (Cond.fieldLink RX11 97 "HandoverhouseModel$Mast" "channels" "I") ∈ hr_wa := hr_in2 _ (List.mem_of_getElem? (i := 25) rfl)
theorem hw_106 : (Cond.methodLink RX11 93 yJx4a65c_size_8abf5) ∈ hr_wa := hr_in2 _ (List.mem_of_getElem? (i := 26) rfl)
theorem hw_107 : (Cond.instanceMethod yJx4a65c_size_8abf5) ∈ hr_wa := hr_in2 _ (List.mem_of_getElem? (i := 27) rfl)
theorem hw_108 : (Cond.selects RJx4a65c yJx4a65c_size_8abf5 yJx4a65c_size_8abf5) ∈ hr_wa := hr_in2 _ (List.mem_of_getElem? (i := 28) rfl)
theorem hw_109 : (Cond.code yJx4a65c_size_8abf5 cJx4a65c_size_8abf5 1 (some .int)) ∈ hr_wa := hr_in2 _ (List.mem_of_getElem? (i := 29) rfl)
theorem hw_110 : (Cond.code yX11_bestHeard cX11_bestHeard 3 (some .int)) ∈ hr_wa := hr_in2 _ (List.mem_of_getElem? (i := 30) rfl)
theorem hw_111 : (Cond.methodLink RX11 100 yX11_best) ∈ hr_wa := hr_in2 _ (List.mem_of_getElem? (i := 31) rfl)
theorem hw_112 : (Cond.instanceMethod yX11_best) ∈ hr_wa := hr_in2 _ (List.mem_of_getElem? (i := 32) rfl)
theorem hw_113 : (Cond.selects RX11 yX11_best yX11_best) ∈ hr_wa := hr_in2 _ (List.mem_of_getElem? (i := 33) rfl)
theorem hw_114 : (Cond.methodLink RX11 104 yX11_isHeard) ∈ hr_wa := hr_in2 _ (List.mem_of_getElem? (i := 34) rfl)
theorem hw_115 : (Cond.instanceMethod yX11_isHeard) ∈ hr_wa := hr_in2 _ (List.mem_of_getElem? (i := 35) rfl)
theorem hw_116 : (Cond.selects RX11 yX11_isHeard yX11_isHeard) ∈ hr_wa := hr_in2 _ (List.mem_of_getElem? (i := 36) rfl)
theorem hw_117 : (Cond.code yX11_covered cX11_covered 4 (some .int)) ∈ hr_wa := hr_in2 _ (List.mem_of_getElem? (i := 37) rfl)
theorem hw_118 : (Cond.static yX12_one) ∈ hr_wa := hr_in2 _ (List.mem_of_getElem? (i := 38) rfl)
theorem hw_119 : (Cond.initialized RX12) ∈ hr_wa := hr_in2 _ (List.mem_of_getElem? (i := 39) rfl)
theorem hw_120 : (Cond.code yX12_one cX12_one 1 (some .int)) ∈ hr_wa := hr_in3 _ (List.mem_of_getElem? (i := 0) rfl)
theorem hw_121 : (Cond.code yX12_isIn cX12_isIn 3 (some .boolean)) ∈ hr_wa := hr_in3 _ (List.mem_of_getElem? (i := 1) rfl)
theorem hw_122 : (Cond.code yX12_init cX12_init 1 none) ∈ hr_wa := hr_in3 _ (List.mem_of_getElem? (i := 2) rfl)
theorem hw_123 : (Cond.methodLink RX12 1 objectInit) ∈ hr_wa := hr_in3 _ (List.mem_of_getElem? (i := 3) rfl)
theorem hw_124 : (Cond.classLink RX12 7 RX11) ∈ hr_wa := hr_in3 _ (List.mem_of_getElem? (i := 4) rfl)
theorem hw_125 : (Cond.instantiable RX11 5) ∈ hr_wa := hr_in3 _ (List.mem_of_getElem? (i := 5) rfl)
theorem hw_126 : (Cond.fieldLink RX12 10 "HandoverhouseModel" "road" "LHandoverhouseModel$Road;") ∈ hr_wa := hr_in3 _ (List.mem_of_getElem? (i := 6) rfl)
theorem hw_127 : (Cond.instanceMethod yX11_init) ∈ hr_wa := hr_in3 _ (List.mem_of_getElem? (i := 7) rfl)
theorem hw_128 : (Cond.code yX12_thrown cX12_thrown 1 (some .int)) ∈ hr_wa := hr_in3 _ (List.mem_of_getElem? (i := 8) rfl)
theorem hw_129 : (Cond.fieldLink RX12 16 "HandoverhouseModel" "thrown" "I") ∈ hr_wa := hr_in3 _ (List.mem_of_getElem? (i := 9) rfl)
theorem hw_130 : (Cond.code yX12_refuse cX12_refuse 3 (some .boolean)) ∈ hr_wa := hr_in3 _ (List.mem_of_getElem? (i := 10) rfl)
theorem hw_131 : (Cond.code yX12_start cX12_start 3 (some .boolean)) ∈ hr_wa := hr_in3 _ (List.mem_of_getElem? (i := 11) rfl)
theorem hw_132 : (Cond.methodLink RX12 20 yX12_refuse) ∈ hr_wa := hr_in3 _ (List.mem_of_getElem? (i := 12) rfl)
theorem hw_133 : (Cond.instanceMethod yX12_refuse) ∈ hr_wa := hr_in3 _ (List.mem_of_getElem? (i := 13) rfl)
theorem hw_134 : (Cond.selects RX12 yX12_refuse yX12_refuse) ∈ hr_wa := hr_in3 _ (List.mem_of_getElem? (i := 14) rfl)
theorem hw_135 : (Cond.code yX12_mast cX12_mast 7 (some .int)) ∈ hr_wa := hr_in3 _ (List.mem_of_getElem? (i := 15) rfl)
theorem hw_136 : (Cond.fieldLink RX12 24 "HandoverhouseModel$Road" "masts" "Ljava/util/ArrayList;") ∈ hr_wa := hr_in3 _ (List.mem_of_getElem? (i := 16) rfl)
theorem hw_137 : (Cond.classLink RX12 47 RX9) ∈ hr_wa := hr_in3 _ (List.mem_of_getElem? (i := 17) rfl)
theorem hw_138 : (Cond.instantiable RX9 9) ∈ hr_wa := hr_in3 _ (List.mem_of_getElem? (i := 18) rfl)
theorem hw_139 : (Cond.methodLink RX12 34 yX12_isIn) ∈ hr_wa := hr_in3 _ (List.mem_of_getElem? (i := 19) rfl)
theorem hw_140 : (Cond.static yX12_isIn) ∈ hr_wa := hr_in3 _ (List.mem_of_getElem? (i := 20) rfl)
theorem hw_141 : (Cond.methodLink RX12 44 yX12_start) ∈ hr_wa := hr_in3 _ (List.mem_of_getElem? (i := 21) rfl)
theorem hw_142 : (Cond.instanceMethod yX12_start) ∈ hr_wa := hr_in3 _ (List.mem_of_getElem? (i := 22) rfl)
theorem hw_143 : (Cond.selects RX12 yX12_start yX12_start) ∈ hr_wa := hr_in3 _ (List.mem_of_getElem? (i := 23) rfl)
theorem hw_144 : (Cond.methodLink RX12 28 yJx4a65c_size_8abf5) ∈ hr_wa := hr_in3 _ (List.mem_of_getElem? (i := 24) rfl)
theorem hw_145 : (Cond.methodLink RX12 49 yX9_init) ∈ hr_wa := hr_in3 _ (List.mem_of_getElem? (i := 25) rfl)
theorem hw_146 : (Cond.instanceMethod yX9_init) ∈ hr_wa := hr_in3 _ (List.mem_of_getElem? (i := 26) rfl)
theorem hw_147 : (Cond.methodLink RX12 52 yJx4a65c_add_9ea2d) ∈ hr_wa := hr_in3 _ (List.mem_of_getElem? (i := 27) rfl)
theorem hw_148 : (Cond.instanceMethod yJx4a65c_add_9ea2d) ∈ hr_wa := hr_in3 _ (List.mem_of_getElem? (i := 28) rfl)
theorem hw_149 : (Cond.selects RJx4a65c yJx4a65c_add_9ea2d yJx4a65c_add_9ea2d) ∈ hr_wa := hr_in3 _ (List.mem_of_getElem? (i := 29) rfl)
theorem hw_150 : (Cond.code yJx4a65c_add_9ea2d cJx4a65c_add_9ea2d 2 (some .boolean)) ∈ hr_wa := hr_in3 _ (List.mem_of_getElem? (i := 30) rfl)
theorem hw_151 : (Cond.fieldLink RJx4a65c 63 "java/util/ArrayList" "modCount" "I") ∈ hr_wa := hr_in3 _ (List.mem_of_getElem? (i := 31) rfl)
theorem hw_152 : (Cond.methodLink RJx4a65c 131 yJx4a65c_add_72be8) ∈ hr_wa := hr_in3 _ (List.mem_of_getElem? (i := 32) rfl)
theorem hw_153 : (Cond.instanceMethod yJx4a65c_add_72be8) ∈ hr_wa := hr_in3 _ (List.mem_of_getElem? (i := 33) rfl)
theorem hw_154 : (Cond.selects RJx4a65c yJx4a65c_add_72be8 yJx4a65c_add_72be8) ∈ hr_wa := hr_in3 _ (List.mem_of_getElem? (i := 34) rfl)
theorem hw_155 : (Cond.code yJx4a65c_add_72be8 cJx4a65c_add_72be8 4 none) ∈ hr_wa := hr_in3 _ (List.mem_of_getElem? (i := 35) rfl)
theorem hw_156 : (Cond.methodLink RJx4a65c 129 yJx4a65c_grow_d5877) ∈ hr_wa := hr_in3 _ (List.mem_of_getElem? (i := 36) rfl)
theorem hw_157 : (Cond.instanceMethod yJx4a65c_grow_d5877) ∈ hr_wa := hr_in3 _ (List.mem_of_getElem? (i := 37) rfl)
theorem hw_158 : (Cond.selects RJx4a65c yJx4a65c_grow_d5877 yJx4a65c_grow_d5877) ∈ hr_wa := hr_in3 _ (List.mem_of_getElem? (i := 38) rfl)
theorem hw_159 : (Cond.code yJx4a65c_grow_d5877 cJx4a65c_grow_d5877 1 (some (.array (.object "java/lang/Object")))) ∈ hr_wa := hr_in3 _ (List.mem_of_getElem? (i := 39) rfl)
theorem hw_160 : (Cond.methodLink RJx4a65c 69 yJx4a65c_grow_92f84) ∈ hr_wa := hr_in4 _ (List.mem_of_getElem? (i := 0) rfl)
theorem hw_161 : (Cond.instanceMethod yJx4a65c_grow_92f84) ∈ hr_wa := hr_in4 _ (List.mem_of_getElem? (i := 1) rfl)
theorem hw_162 : (Cond.selects RJx4a65c yJx4a65c_grow_92f84 yJx4a65c_grow_92f84) ∈ hr_wa := hr_in4 _ (List.mem_of_getElem? (i := 2) rfl)
theorem hw_163 : (Cond.code yJx4a65c_grow_92f84 cJx4a65c_grow_92f84 4 (some (.array (.object "java/lang/Object")))) ∈ hr_wa := hr_in4 _ (List.mem_of_getElem? (i := 3) rfl)
theorem hw_164 : (Cond.methodLink RJx4a65c 79 Lib.Math.max.name) ∈ hr_wa := hr_in4 _ (List.mem_of_getElem? (i := 4) rfl)
theorem hw_165 : (Cond.classLink RJx4a65c 7 "java/lang/Object") ∈ hr_wa := hr_in4 _ (List.mem_of_getElem? (i := 5) rfl)
theorem hw_166 : (Cond.initialized RJ8) ∈ hr_wa := hr_in4 _ (List.mem_of_getElem? (i := 6) rfl)
theorem hw_167 : (Cond.methodLink RJ8 194 Lib.Math.max.name) ∈ hr_wa := hr_in4 _ (List.mem_of_getElem? (i := 7) rfl)
theorem hw_168 : (Cond.constant RJ8 200 (2147483639)) ∈ hr_wa := hr_in4 _ (List.mem_of_getElem? (i := 8) rfl)
theorem hw_169 : (Cond.initialized RJ7) ∈ hr_wa := hr_in4 _ (List.mem_of_getElem? (i := 9) rfl)
theorem hw_170 : (Cond.methodLink RJ7 86 ⟨"java/lang/Object", "getClass", "()Ljava/lang/Class;"⟩) ∈ hr_wa := hr_in4 _ (List.mem_of_getElem? (i := 10) rfl)
theorem hw_171 : (Cond.selects "[Ljava/lang/Object;" ⟨"java/lang/Object", "getClass", "()Ljava/lang/Class;"⟩ ⟨"java/lang/Object", "getClass", "()Ljava/lang/Class;"⟩) ∈ hr_wa := hr_in4 _ (List.mem_of_getElem? (i := 11) rfl)
theorem hw_172 : (Cond.instanceMethod ⟨"java/lang/Object", "getClass", "()Ljava/lang/Class;"⟩) ∈ hr_wa := hr_in4 _ (List.mem_of_getElem? (i := 12) rfl)
theorem hw_173 : (Cond.classLink RJ7 110 "[Ljava/lang/Object;") ∈ hr_wa := hr_in4 _ (List.mem_of_getElem? (i := 13) rfl)
theorem hw_174 : (Cond.classLink RJ7 2 "java/lang/Object") ∈ hr_wa := hr_in4 _ (List.mem_of_getElem? (i := 14) rfl)
theorem hw_175 : (Cond.code yX12_toldOfMast cX12_toldOfMast 7 (some .int)) ∈ hr_wa := hr_in4 _ (List.mem_of_getElem? (i := 15) rfl)
theorem hw_176 : (Cond.classLink RX12 47 "HandoverhouseModel$Mast") ∈ hr_wa := hr_in4 _ (List.mem_of_getElem? (i := 16) rfl)
theorem hw_177 : (Cond.fieldLink RX12 38 "HandoverhouseModel$Road" "phones" "Ljava/util/ArrayList;") ∈ hr_wa := hr_in4 _ (List.mem_of_getElem? (i := 17) rfl)
theorem hw_178 : (Cond.classLink RX12 56 "HandoverhouseModel$Phone") ∈ hr_wa := hr_in4 _ (List.mem_of_getElem? (i := 18) rfl)
theorem hw_179 : (Cond.fieldLink RX12 88 "HandoverhouseModel$Phone" "mast" "I") ∈ hr_wa := hr_in4 _ (List.mem_of_getElem? (i := 19) rfl)
theorem hw_180 : (Cond.arrayClass .int) ∈ hr_wa := hr_in4 _ (List.mem_of_getElem? (i := 20) rfl)
theorem hw_181 : (Cond.fieldLink RX12 196 "HandoverhouseModel$Mast" "place" "I") ∈ hr_wa := hr_in4 _ (List.mem_of_getElem? (i := 21) rfl)
theorem hw_182 : (Cond.fieldLink RX12 199 "HandoverhouseModel$Mast" "power" "I") ∈ hr_wa := hr_in4 _ (List.mem_of_getElem? (i := 22) rfl)
theorem hw_183 : (Cond.fieldLink RX12 202 "HandoverhouseModel$Mast" "frequency" "I") ∈ hr_wa := hr_in4 _ (List.mem_of_getElem? (i := 23) rfl)
theorem hw_184 : (Cond.fieldLink RX12 122 "HandoverhouseModel$Mast" "channels" "I") ∈ hr_wa := hr_in4 _ (List.mem_of_getElem? (i := 24) rfl)
theorem hw_185 : (Cond.fieldLink RX12 205 "HandoverhouseModel$Mast" "area" "I") ∈ hr_wa := hr_in4 _ (List.mem_of_getElem? (i := 25) rfl)
theorem hw_186 : (Cond.fieldLink RX12 208 "HandoverhouseModel$Mast" "operator" "I") ∈ hr_wa := hr_in4 _ (List.mem_of_getElem? (i := 26) rfl)
theorem hw_187 : (Cond.fieldLink RX12 97 "HandoverhouseModel$Mast" "isAwake" "Z") ∈ hr_wa := hr_in4 _ (List.mem_of_getElem? (i := 27) rfl)
theorem hw_188 : (Cond.fieldLink RX12 94 "HandoverhouseModel$Mast" "load" "I") ∈ hr_wa := hr_in4 _ (List.mem_of_getElem? (i := 28) rfl)
theorem hw_189 : (Cond.fieldLink RX12 211 "HandoverhouseModel$Mast" "carried" "I") ∈ hr_wa := hr_in4 _ (List.mem_of_getElem? (i := 29) rfl)
theorem hw_190 : (Cond.methodLink RX12 65 yJx4a65c_get_915e3) ∈ hr_wa := hr_in4 _ (List.mem_of_getElem? (i := 30) rfl)
theorem hw_191 : (Cond.methodLink RX12 100 yJx4a65c_iterator_32c93) ∈ hr_wa := hr_in4 _ (List.mem_of_getElem? (i := 31) rfl)
theorem hw_192 : (Cond.methodLink RX12 104 ⟨"java/util/Iterator", "hasNext", "()Z"⟩) ∈ hr_wa := hr_in4 _ (List.mem_of_getElem? (i := 32) rfl)
theorem hw_193 : (Cond.methodLink RX12 110 ⟨"java/util/Iterator", "next", "()Ljava/lang/Object;"⟩) ∈ hr_wa := hr_in4 _ (List.mem_of_getElem? (i := 33) rfl)
theorem hw_194 : (Cond.initialized RX10) ∈ hr_wa := hr_in4 _ (List.mem_of_getElem? (i := 34) rfl)
theorem hw_195 : (Cond.fieldLink RX10 9 "HandoverhouseModel$Phone" "isOn" "Z") ∈ hr_wa := hr_in4 _ (List.mem_of_getElem? (i := 35) rfl)
theorem hw_196 : (Cond.fieldLink RX10 25 "HandoverhouseModel$Phone" "call" "I") ∈ hr_wa := hr_in4 _ (List.mem_of_getElem? (i := 36) rfl)
theorem hw_197 : (Cond.methodLink RX12 170 yX12_one) ∈ hr_wa := hr_in4 _ (List.mem_of_getElem? (i := 37) rfl)
theorem hw_198 : (Cond.code yX12_count cX12_count 11 (some .int)) ∈ hr_wa := hr_in4 _ (List.mem_of_getElem? (i := 38) rfl)
theorem hw_199 : (Cond.fieldLink RX12 41 "HandoverhouseModel$Road" "calls" "Ljava/util/ArrayList;") ∈ hr_wa := hr_in4 _ (List.mem_of_getElem? (i := 39) rfl)
theorem hw_200 : (Cond.classLink RX12 82 "HandoverhouseModel$Call") ∈ hr_wa := hr_in5 _ (List.mem_of_getElem? (i := 0) rfl)
theorem hw_201 : (Cond.fieldLink RX12 151 "HandoverhouseModel$Call" "end" "I") ∈ hr_wa := hr_in5 _ (List.mem_of_getElem? (i := 1) rfl)
theorem hw_202 : (Cond.fieldLink RX12 239 "HandoverhouseModel$Call" "handovers" "I") ∈ hr_wa := hr_in5 _ (List.mem_of_getElem? (i := 2) rfl)
theorem hw_203 : (Cond.fieldLink RX12 242 "HandoverhouseModel$Call" "backs" "I") ∈ hr_wa := hr_in5 _ (List.mem_of_getElem? (i := 3) rfl)
theorem hw_204 : (Cond.fieldLink RX12 236 "HandoverhouseModel$Call" "paid" "I") ∈ hr_wa := hr_in5 _ (List.mem_of_getElem? (i := 4) rfl)
theorem hw_205 : (Cond.fieldLink RX12 221 "HandoverhouseModel$Phone" "updates" "I") ∈ hr_wa := hr_in5 _ (List.mem_of_getElem? (i := 5) rfl)
theorem hw_206 : (Cond.fieldLink RX12 248 "HandoverhouseModel$Road" "now" "I") ∈ hr_wa := hr_in5 _ (List.mem_of_getElem? (i := 6) rfl)
theorem hw_207 : (Cond.fieldLink RX12 132 "HandoverhouseModel" "pages" "I") ∈ hr_wa := hr_in5 _ (List.mem_of_getElem? (i := 7) rfl)
theorem hw_208 : (Cond.fieldLink RX12 174 "HandoverhouseModel" "texts" "I") ∈ hr_wa := hr_in5 _ (List.mem_of_getElem? (i := 8) rfl)
theorem hw_209 : (Cond.fieldLink RX12 162 "HandoverhouseModel$Road" "texts" "Ljava/util/ArrayList;") ∈ hr_wa := hr_in5 _ (List.mem_of_getElem? (i := 9) rfl)
theorem hw_210 : (Cond.fieldLink RX11 137 "HandoverhouseModel$Phone" "mast" "I") ∈ hr_wa := hr_in5 _ (List.mem_of_getElem? (i := 10) rfl)
theorem hw_211 : (Cond.fieldLink RX11 159 "HandoverhouseModel$Mast" "area" "I") ∈ hr_wa := hr_in5 _ (List.mem_of_getElem? (i := 11) rfl)
theorem hw_212 : (Cond.fieldLink RX11 168 "HandoverhouseModel$Phone" "known" "I") ∈ hr_wa := hr_in5 _ (List.mem_of_getElem? (i := 12) rfl)
theorem hw_213 : (Cond.methodLink RX11 222 Lib.Math.abs.name) ∈ hr_wa := hr_in5 _ (List.mem_of_getElem? (i := 13) rfl)
theorem hw_214 : (Cond.methodLink RX12 251 yX11_covered) ∈ hr_wa := hr_in5 _ (List.mem_of_getElem? (i := 14) rfl)
theorem hw_215 : (Cond.instanceMethod yX11_covered) ∈ hr_wa := hr_in5 _ (List.mem_of_getElem? (i := 15) rfl)
theorem hw_216 : (Cond.selects RX11 yX11_covered yX11_covered) ∈ hr_wa := hr_in5 _ (List.mem_of_getElem? (i := 16) rfl)
theorem hw_217 : (Cond.code yX12_rowsFor cX12_rowsFor 7 (some (.array (.array .int)))) ∈ hr_wa := hr_in5 _ (List.mem_of_getElem? (i := 17) rfl)
theorem hw_218 : (Cond.classLink RX12 138 "[I") ∈ hr_wa := hr_in5 _ (List.mem_of_getElem? (i := 18) rfl)
theorem hw_219 : (Cond.methodLink RX12 270 Lib.Math.max.name) ∈ hr_wa := hr_in5 _ (List.mem_of_getElem? (i := 19) rfl)
theorem hw_220 : (Cond.methodLink RX12 189 yX11_quality) ∈ hr_wa := hr_in5 _ (List.mem_of_getElem? (i := 20) rfl)
theorem hw_221 : (Cond.methodLink RX12 267 yX9_reach) ∈ hr_wa := hr_in5 _ (List.mem_of_getElem? (i := 21) rfl)
theorem hw_222 : (Cond.code yX12_isCovered cX12_isCovered 8 (some .boolean)) ∈ hr_wa := hr_in5 _ (List.mem_of_getElem? (i := 22) rfl)
theorem hw_223 : (Cond.code yX12_bestFor cX12_bestFor 9 (some .int)) ∈ hr_wa := hr_in5 _ (List.mem_of_getElem? (i := 23) rfl)
theorem hw_224 : (Cond.methodLink RX12 279 Lib.Math.abs.name) ∈ hr_wa := hr_in5 _ (List.mem_of_getElem? (i := 24) rfl)
theorem hw_225 : (Cond.methodLink RX12 275 yX12_rowsFor) ∈ hr_wa := hr_in5 _ (List.mem_of_getElem? (i := 25) rfl)
theorem hw_226 : (Cond.instanceMethod yX12_rowsFor) ∈ hr_wa := hr_in5 _ (List.mem_of_getElem? (i := 26) rfl)
theorem hw_227 : (Cond.selects RX12 yX12_rowsFor yX12_rowsFor) ∈ hr_wa := hr_in5 _ (List.mem_of_getElem? (i := 27) rfl)
theorem hw_228 : (Cond.methodLink RX12 282 yX12_isCovered) ∈ hr_wa := hr_in5 _ (List.mem_of_getElem? (i := 28) rfl)
theorem hw_229 : (Cond.instanceMethod yX12_isCovered) ∈ hr_wa := hr_in5 _ (List.mem_of_getElem? (i := 29) rfl)
theorem hw_230 : (Cond.selects RX12 yX12_isCovered yX12_isCovered) ∈ hr_wa := hr_in5 _ (List.mem_of_getElem? (i := 30) rfl)
theorem hw_231 : (Cond.code yX12_add cX12_add 4 (some .long)) ∈ hr_wa := hr_in5 _ (List.mem_of_getElem? (i := 31) rfl)
theorem hw_232 : (Cond.constantLong RX12 289 (31)) ∈ hr_wa := hr_in5 _ (List.mem_of_getElem? (i := 32) rfl)
theorem hw_233 : (Cond.code yX12_digest cX12_digest 5 (some .long)) ∈ hr_wa := hr_in5 _ (List.mem_of_getElem? (i := 33) rfl)
theorem hw_234 : (Cond.constantLong RX12 291 (58188)) ∈ hr_wa := hr_in5 _ (List.mem_of_getElem? (i := 34) rfl)
theorem hw_235 : (Cond.methodLink RX12 254 yX12_count) ∈ hr_wa := hr_in5 _ (List.mem_of_getElem? (i := 35) rfl)
theorem hw_236 : (Cond.instanceMethod yX12_count) ∈ hr_wa := hr_in5 _ (List.mem_of_getElem? (i := 36) rfl)
theorem hw_237 : (Cond.selects RX12 yX12_count yX12_count) ∈ hr_wa := hr_in5 _ (List.mem_of_getElem? (i := 37) rfl)
theorem hw_238 : (Cond.methodLink RX12 293 yX12_add) ∈ hr_wa := hr_in5 _ (List.mem_of_getElem? (i := 38) rfl)
theorem hw_239 : (Cond.static yX12_add) ∈ hr_wa := hr_in5 _ (List.mem_of_getElem? (i := 39) rfl)
theorem hw_240 : (Cond.methodLink RX12 214 yX12_toldOfMast) ∈ hr_wa := hr_in6 _ (List.mem_of_getElem? (i := 0) rfl)
theorem hw_241 : (Cond.instanceMethod yX12_toldOfMast) ∈ hr_wa := hr_in6 _ (List.mem_of_getElem? (i := 1) rfl)
theorem hw_242 : (Cond.selects RX12 yX12_toldOfMast yX12_toldOfMast) ∈ hr_wa := hr_in6 _ (List.mem_of_getElem? (i := 2) rfl)
theorem hw_243 : (Cond.fieldLink RX12 217 "HandoverhouseModel$Phone" "place" "I") ∈ hr_wa := hr_in6 _ (List.mem_of_getElem? (i := 3) rfl)
theorem hw_244 : (Cond.fieldLink RX12 69 "HandoverhouseModel$Phone" "speed" "I") ∈ hr_wa := hr_in6 _ (List.mem_of_getElem? (i := 4) rfl)
theorem hw_245 : (Cond.fieldLink RX12 75 "HandoverhouseModel$Phone" "isOn" "Z") ∈ hr_wa := hr_in6 _ (List.mem_of_getElem? (i := 5) rfl)
theorem hw_246 : (Cond.fieldLink RX12 72 "HandoverhouseModel$Phone" "balance" "I") ∈ hr_wa := hr_in6 _ (List.mem_of_getElem? (i := 6) rfl)
theorem hw_247 : (Cond.fieldLink RX12 183 "HandoverhouseModel$Phone" "known" "I") ∈ hr_wa := hr_in6 _ (List.mem_of_getElem? (i := 7) rfl)
theorem hw_248 : (Cond.fieldLink RX12 218 "HandoverhouseModel$Phone" "told" "I") ∈ hr_wa := hr_in6 _ (List.mem_of_getElem? (i := 8) rfl)
theorem hw_249 : (Cond.fieldLink RX12 79 "HandoverhouseModel$Phone" "call" "I") ∈ hr_wa := hr_in6 _ (List.mem_of_getElem? (i := 9) rfl)
theorem hw_250 : (Cond.fieldLink RX12 224 "HandoverhouseModel$Phone" "got" "I") ∈ hr_wa := hr_in6 _ (List.mem_of_getElem? (i := 10) rfl)
theorem hw_251 : (Cond.initialized RJ6) ∈ hr_wa := hr_in6 _ (List.mem_of_getElem? (i := 11) rfl)
theorem hw_252 : (Cond.classLink RX11 13 RX11) ∈ hr_wa := hr_in6 _ (List.mem_of_getElem? (i := 12) rfl)
theorem hw_253 : (Cond.classLink RX11 52 "HandoverhouseModel$Phone") ∈ hr_wa := hr_in6 _ (List.mem_of_getElem? (i := 13) rfl)
theorem hw_254 : (Cond.classLink RX11 57 "HandoverhouseModel$Call") ∈ hr_wa := hr_in6 _ (List.mem_of_getElem? (i := 14) rfl)
theorem hw_255 : (Cond.fieldLink RX11 62 "HandoverhouseModel$Road" "now" "I") ∈ hr_wa := hr_in6 _ (List.mem_of_getElem? (i := 15) rfl)
theorem hw_256 : (Cond.methodLink RX11 27 yX11_init) ∈ hr_wa := hr_in6 _ (List.mem_of_getElem? (i := 16) rfl)
theorem hw_257 : (Cond.classLink RX9 8 RX9) ∈ hr_wa := hr_in6 _ (List.mem_of_getElem? (i := 17) rfl)
theorem hw_258 : (Cond.fieldLink RX9 35 "HandoverhouseModel$Mast" "load" "I") ∈ hr_wa := hr_in6 _ (List.mem_of_getElem? (i := 18) rfl)
theorem hw_259 : (Cond.methodLink RX9 32 yX9_init) ∈ hr_wa := hr_in6 _ (List.mem_of_getElem? (i := 19) rfl)
theorem hw_260 : (Cond.methodLink RX11 48 yJx4a65c_add_9ea2d) ∈ hr_wa := hr_in6 _ (List.mem_of_getElem? (i := 20) rfl)
theorem hw_261 : (Cond.classLink RX10 10 RX10) ∈ hr_wa := hr_in6 _ (List.mem_of_getElem? (i := 21) rfl)
theorem hw_262 : (Cond.instantiable RX10 12) ∈ hr_wa := hr_in6 _ (List.mem_of_getElem? (i := 22) rfl)
theorem hw_263 : (Cond.fieldLink RX10 28 "HandoverhouseModel$Phone" "operator" "I") ∈ hr_wa := hr_in6 _ (List.mem_of_getElem? (i := 23) rfl)
theorem hw_264 : (Cond.fieldLink RX10 31 "HandoverhouseModel$Phone" "place" "I") ∈ hr_wa := hr_in6 _ (List.mem_of_getElem? (i := 24) rfl)
theorem hw_265 : (Cond.fieldLink RX10 34 "HandoverhouseModel$Phone" "speed" "I") ∈ hr_wa := hr_in6 _ (List.mem_of_getElem? (i := 25) rfl)
theorem hw_266 : (Cond.fieldLink RX10 37 "HandoverhouseModel$Phone" "balance" "I") ∈ hr_wa := hr_in6 _ (List.mem_of_getElem? (i := 26) rfl)
theorem hw_267 : (Cond.fieldLink RX10 15 "HandoverhouseModel$Phone" "mast" "I") ∈ hr_wa := hr_in6 _ (List.mem_of_getElem? (i := 27) rfl)
theorem hw_268 : (Cond.fieldLink RX10 19 "HandoverhouseModel$Phone" "known" "I") ∈ hr_wa := hr_in6 _ (List.mem_of_getElem? (i := 28) rfl)
theorem hw_269 : (Cond.fieldLink RX10 22 "HandoverhouseModel$Phone" "told" "I") ∈ hr_wa := hr_in6 _ (List.mem_of_getElem? (i := 29) rfl)
theorem hw_270 : (Cond.fieldLink RX10 43 "HandoverhouseModel$Phone" "toldAt" "I") ∈ hr_wa := hr_in6 _ (List.mem_of_getElem? (i := 30) rfl)
theorem hw_271 : (Cond.methodLink RX10 3 objectInit) ∈ hr_wa := hr_in6 _ (List.mem_of_getElem? (i := 31) rfl)
theorem hw_272 : (Cond.initialized RX8) ∈ hr_wa := hr_in6 _ (List.mem_of_getElem? (i := 32) rfl)
theorem hw_273 : (Cond.fieldLink RX8 18 "HandoverhouseModel$Call" "legs" "[[I") ∈ hr_wa := hr_in6 _ (List.mem_of_getElem? (i := 33) rfl)
theorem hw_274 : (Cond.classLink RX8 22 "[I") ∈ hr_wa := hr_in6 _ (List.mem_of_getElem? (i := 34) rfl)
theorem hw_275 : (Cond.methodLink RX8 24 ⟨"[I", "clone", "()Ljava/lang/Object;"⟩) ∈ hr_wa := hr_in6 _ (List.mem_of_getElem? (i := 35) rfl)
theorem hw_276 : (Cond.instanceMethod ⟨"java/lang/Object", "clone", "()Ljava/lang/Object;"⟩) ∈ hr_wa := hr_in6 _ (List.mem_of_getElem? (i := 36) rfl)
theorem hw_277 : (Cond.selects "[I" ⟨"[I", "clone", "()Ljava/lang/Object;"⟩ ⟨"java/lang/Object", "clone", "()Ljava/lang/Object;"⟩) ∈ hr_wa := hr_in6 _ (List.mem_of_getElem? (i := 37) rfl)
theorem hw_278 : (Cond.classLink RX8 10 RX8) ∈ hr_wa := hr_in6 _ (List.mem_of_getElem? (i := 38) rfl)
theorem hw_279 : (Cond.instantiable RX8 8) ∈ hr_wa := hr_in6 _ (List.mem_of_getElem? (i := 39) rfl)
theorem hw_280 : (Cond.fieldLink RX8 9 "HandoverhouseModel$Call" "from" "I") ∈ hr_wa := hr_in7 _ (List.mem_of_getElem? (i := 0) rfl)
theorem hw_281 : (Cond.fieldLink RX8 15 "HandoverhouseModel$Call" "to" "I") ∈ hr_wa := hr_in7 _ (List.mem_of_getElem? (i := 1) rfl)
theorem hw_282 : (Cond.fieldLink RX8 31 "HandoverhouseModel$Call" "end" "I") ∈ hr_wa := hr_in7 _ (List.mem_of_getElem? (i := 2) rfl)
theorem hw_283 : (Cond.methodLink RX8 3 objectInit) ∈ hr_wa := hr_in7 _ (List.mem_of_getElem? (i := 3) rfl)
theorem hw_284 : (Cond.fieldLink RX11 118 "HandoverhouseModel$Call" "end" "I") ∈ hr_wa := hr_in7 _ (List.mem_of_getElem? (i := 4) rfl)
theorem hw_285 : (Cond.fieldLink RX11 140 "HandoverhouseModel$Phone" "got" "I") ∈ hr_wa := hr_in7 _ (List.mem_of_getElem? (i := 5) rfl)
theorem hw_286 : (Cond.fieldLink RX11 146 "HandoverhouseModel$Phone" "place" "I") ∈ hr_wa := hr_in7 _ (List.mem_of_getElem? (i := 6) rfl)
theorem hw_287 : (Cond.fieldLink RX11 149 "HandoverhouseModel$Phone" "speed" "I") ∈ hr_wa := hr_in7 _ (List.mem_of_getElem? (i := 7) rfl)
theorem hw_288 : (Cond.fieldLink RX11 162 "HandoverhouseModel$Phone" "told" "I") ∈ hr_wa := hr_in7 _ (List.mem_of_getElem? (i := 8) rfl)
theorem hw_289 : (Cond.fieldLink RX11 165 "HandoverhouseModel$Phone" "toldAt" "I") ∈ hr_wa := hr_in7 _ (List.mem_of_getElem? (i := 9) rfl)
theorem hw_290 : (Cond.fieldLink RX11 171 "HandoverhouseModel$Phone" "updates" "I") ∈ hr_wa := hr_in7 _ (List.mem_of_getElem? (i := 10) rfl)
theorem hw_291 : (Cond.methodLink RX11 156 yX11_bestHeard) ∈ hr_wa := hr_in7 _ (List.mem_of_getElem? (i := 11) rfl)
theorem hw_292 : (Cond.instanceMethod yX11_bestHeard) ∈ hr_wa := hr_in7 _ (List.mem_of_getElem? (i := 12) rfl)
theorem hw_293 : (Cond.selects RX11 yX11_bestHeard yX11_bestHeard) ∈ hr_wa := hr_in7 _ (List.mem_of_getElem? (i := 13) rfl)
theorem hw_294 : (Cond.fieldLink RX11 174 "HandoverhouseModel$Call" "legs" "[[I") ∈ hr_wa := hr_in7 _ (List.mem_of_getElem? (i := 14) rfl)
theorem hw_295 : (Cond.fieldLink RX11 188 "HandoverhouseModel$Call" "handovers" "I") ∈ hr_wa := hr_in7 _ (List.mem_of_getElem? (i := 15) rfl)
theorem hw_296 : (Cond.fieldLink RX11 191 "HandoverhouseModel$Call" "backs" "I") ∈ hr_wa := hr_in7 _ (List.mem_of_getElem? (i := 16) rfl)
theorem hw_297 : (Cond.fieldLink RX11 216 "HandoverhouseModel$Phone" "call" "I") ∈ hr_wa := hr_in7 _ (List.mem_of_getElem? (i := 17) rfl)
theorem hw_298 : (Cond.fieldLink RX11 194 "HandoverhouseModel$Call" "from" "I") ∈ hr_wa := hr_in7 _ (List.mem_of_getElem? (i := 18) rfl)
theorem hw_299 : (Cond.fieldLink RX11 200 "HandoverhouseModel$Mast" "operator" "I") ∈ hr_wa := hr_in7 _ (List.mem_of_getElem? (i := 19) rfl)
theorem hw_300 : (Cond.fieldLink RX11 203 "HandoverhouseModel$Phone" "operator" "I") ∈ hr_wa := hr_in7 _ (List.mem_of_getElem? (i := 20) rfl)
theorem hw_301 : (Cond.fieldLink RX11 204 "HandoverhouseModel$Phone" "balance" "I") ∈ hr_wa := hr_in7 _ (List.mem_of_getElem? (i := 21) rfl)
theorem hw_302 : (Cond.fieldLink RX11 207 "HandoverhouseModel$Call" "paid" "I") ∈ hr_wa := hr_in7 _ (List.mem_of_getElem? (i := 22) rfl)
theorem hw_303 : (Cond.fieldLink RX11 210 "HandoverhouseModel$Call" "seconds" "I") ∈ hr_wa := hr_in7 _ (List.mem_of_getElem? (i := 23) rfl)
theorem hw_304 : (Cond.fieldLink RX11 213 "HandoverhouseModel$Mast" "carried" "I") ∈ hr_wa := hr_in7 _ (List.mem_of_getElem? (i := 24) rfl)
theorem hw_305 : (Cond.fieldLink RX12 230 "HandoverhouseModel$Call" "from" "I") ∈ hr_wa := hr_in7 _ (List.mem_of_getElem? (i := 25) rfl)
theorem hw_306 : (Cond.fieldLink RX12 233 "HandoverhouseModel$Call" "to" "I") ∈ hr_wa := hr_in7 _ (List.mem_of_getElem? (i := 26) rfl)
theorem hw_307 : (Cond.fieldLink RX12 159 "HandoverhouseModel$Call" "seconds" "I") ∈ hr_wa := hr_in7 _ (List.mem_of_getElem? (i := 27) rfl)
theorem hw_308 : (Cond.fieldLink RX12 114 "HandoverhouseModel$Call" "legs" "[[I") ∈ hr_wa := hr_in7 _ (List.mem_of_getElem? (i := 28) rfl)
theorem hw_309 : (Cond.methodLink RX12 193 yX11_bestHeard) ∈ hr_wa := hr_in7 _ (List.mem_of_getElem? (i := 29) rfl)
theorem hw_310 : (Cond.methodLink RX12 286 yX12_bestFor) ∈ hr_wa := hr_in7 _ (List.mem_of_getElem? (i := 30) rfl)
theorem hw_311 : (Cond.instanceMethod yX12_bestFor) ∈ hr_wa := hr_in7 _ (List.mem_of_getElem? (i := 31) rfl)
theorem hw_312 : (Cond.selects RX12 yX12_bestFor yX12_bestFor) ∈ hr_wa := hr_in7 _ (List.mem_of_getElem? (i := 32) rfl)
theorem dX9_init_0 : decode cX9_init 0 = .ok (.aload_n 0, 1) := by decide +kernel
theorem dX9_init_1 : decode cX9_init 1 = .ok (.invokespecial 1, 3) := by decide +kernel
theorem dX9_init_4 : decode cX9_init 4 = .ok (.aload_n 0, 1) := by decide +kernel
theorem dX9_init_5 : decode cX9_init 5 = .ok (.iconst 1, 1) := by decide +kernel
theorem dX9_init_6 : decode cX9_init 6 = .ok (.putfield 7, 3) := by decide +kernel
theorem dX9_init_9 : decode cX9_init 9 = .ok (.aload_n 0, 1) := by decide +kernel
theorem dX9_init_10 : decode cX9_init 10 = .ok (.iload_n 1, 1) := by decide +kernel
theorem dX9_init_11 : decode cX9_init 11 = .ok (.putfield 13, 3) := by decide +kernel
theorem dX9_init_14 : decode cX9_init 14 = .ok (.aload_n 0, 1) := by decide +kernel
theorem dX9_init_15 : decode cX9_init 15 = .ok (.iload_n 2, 1) := by decide +kernel
theorem dX9_init_16 : decode cX9_init 16 = .ok (.putfield 17, 3) := by decide +kernel
theorem dX9_init_19 : decode cX9_init 19 = .ok (.aload_n 0, 1) := by decide +kernel
theorem dX9_init_20 : decode cX9_init 20 = .ok (.iload_n 3, 1) := by decide +kernel
theorem dX9_init_21 : decode cX9_init 21 = .ok (.putfield 20, 3) := by decide +kernel
theorem dX9_init_24 : decode cX9_init 24 = .ok (.aload_n 0, 1) := by decide +kernel
theorem dX9_init_25 : decode cX9_init 25 = .ok (.iload 4, 2) := by decide +kernel
theorem dX9_init_27 : decode cX9_init 27 = .ok (.putfield 23, 3) := by decide +kernel
theorem dX9_init_30 : decode cX9_init 30 = .ok (.aload_n 0, 1) := by decide +kernel
theorem dX9_init_31 : decode cX9_init 31 = .ok (.iload 5, 2) := by decide +kernel
theorem dX9_init_33 : decode cX9_init 33 = .ok (.putfield 26, 3) := by decide +kernel
theorem dX9_init_36 : decode cX9_init 36 = .ok (.aload_n 0, 1) := by decide +kernel
theorem dX9_init_37 : decode cX9_init 37 = .ok (.iload 6, 2) := by decide +kernel
theorem dX9_init_39 : decode cX9_init 39 = .ok (.putfield 29, 3) := by decide +kernel
theorem dX9_init_42 : decode cX9_init 42 = .ok (.return_, 1) := by decide +kernel
theorem dX9_reach_0 : decode cX9_reach 0 = .ok (.aload_n 0, 1) := by decide +kernel
theorem dX9_reach_1 : decode cX9_reach 1 = .ok (.getfield 17, 3) := by decide +kernel
theorem dX9_reach_4 : decode cX9_reach 4 = .ok (.aload_n 0, 1) := by decide +kernel
theorem dX9_reach_5 : decode cX9_reach 5 = .ok (.getfield 13, 3) := by decide +kernel
theorem dX9_reach_8 : decode cX9_reach 8 = .ok (.iload_n 1, 1) := by decide +kernel
theorem dX9_reach_9 : decode cX9_reach 9 = .ok (.isub, 1) := by decide +kernel
theorem dX9_reach_10 : decode cX9_reach 10 = .ok (.invokestatic 38, 3) := by decide +kernel
theorem dX9_reach_13 : decode cX9_reach 13 = .ok (.isub, 1) := by decide +kernel
theorem dX9_reach_14 : decode cX9_reach 14 = .ok (.ireturn, 1) := by decide +kernel
theorem dX11_init_0 : decode cX11_init 0 = .ok (.aload_n 0, 1) := by decide +kernel
theorem dX11_init_1 : decode cX11_init 1 = .ok (.invokespecial 3, 3) := by decide +kernel
theorem dX11_init_4 : decode cX11_init 4 = .ok (.aload_n 0, 1) := by decide +kernel
theorem dX11_init_5 : decode cX11_init 5 = .ok (.new 9, 3) := by decide +kernel
theorem dX11_init_8 : decode cX11_init 8 = .ok (.dup, 1) := by decide +kernel
theorem dX11_init_9 : decode cX11_init 9 = .ok (.invokespecial 11, 3) := by decide +kernel
theorem dX11_init_12 : decode cX11_init 12 = .ok (.putfield 12, 3) := by decide +kernel
theorem dX11_init_15 : decode cX11_init 15 = .ok (.aload_n 0, 1) := by decide +kernel
theorem dX11_init_16 : decode cX11_init 16 = .ok (.new 9, 3) := by decide +kernel
theorem dX11_init_19 : decode cX11_init 19 = .ok (.dup, 1) := by decide +kernel
theorem dX11_init_20 : decode cX11_init 20 = .ok (.invokespecial 11, 3) := by decide +kernel
theorem dX11_init_23 : decode cX11_init 23 = .ok (.putfield 18, 3) := by decide +kernel
theorem dX11_init_26 : decode cX11_init 26 = .ok (.aload_n 0, 1) := by decide +kernel
theorem dX11_init_27 : decode cX11_init 27 = .ok (.new 9, 3) := by decide +kernel
theorem dX11_init_30 : decode cX11_init 30 = .ok (.dup, 1) := by decide +kernel
theorem dX11_init_31 : decode cX11_init 31 = .ok (.invokespecial 11, 3) := by decide +kernel
theorem dX11_init_34 : decode cX11_init 34 = .ok (.putfield 21, 3) := by decide +kernel
theorem dX11_init_37 : decode cX11_init 37 = .ok (.aload_n 0, 1) := by decide +kernel
theorem dX11_init_38 : decode cX11_init 38 = .ok (.new 9, 3) := by decide +kernel
theorem dX11_init_41 : decode cX11_init 41 = .ok (.dup, 1) := by decide +kernel
theorem dX11_init_42 : decode cX11_init 42 = .ok (.invokespecial 11, 3) := by decide +kernel
theorem dX11_init_45 : decode cX11_init 45 = .ok (.putfield 24, 3) := by decide +kernel
theorem dX11_init_48 : decode cX11_init 48 = .ok (.return_, 1) := by decide +kernel
theorem dX11_quality_0 : decode cX11_quality 0 = .ok (.aload_n 0, 1) := by decide +kernel
theorem dX11_quality_1 : decode cX11_quality 1 = .ok (.getfield 12, 3) := by decide +kernel
theorem dX11_quality_4 : decode cX11_quality 4 = .ok (.iload_n 1, 1) := by decide +kernel
theorem dX11_quality_5 : decode cX11_quality 5 = .ok (.invokevirtual 66, 3) := by decide +kernel
theorem dX11_quality_8 : decode cX11_quality 8 = .ok (.checkcast 42, 3) := by decide +kernel
theorem dX11_quality_11 : decode cX11_quality 11 = .ok (.astore_n 3, 1) := by decide +kernel
theorem dX11_quality_12 : decode cX11_quality 12 = .ok (.aload_n 3, 1) := by decide +kernel
theorem dX11_quality_13 : decode cX11_quality 13 = .ok (.getfield 70, 3) := by decide +kernel
theorem dX11_quality_16 : decode cX11_quality 16 = .ok (.ifCond .ne 6, 3) := by decide +kernel
theorem dX11_quality_19 : decode cX11_quality 19 = .ok (.bipush (-99), 2) := by decide +kernel
theorem dX11_quality_21 : decode cX11_quality 21 = .ok (.ireturn, 1) := by decide +kernel
theorem dX11_quality_22 : decode cX11_quality 22 = .ok (.iconst 0, 1) := by decide +kernel
theorem dX11_quality_23 : decode cX11_quality 23 = .ok (.istore 4, 2) := by decide +kernel
theorem dX11_quality_25 : decode cX11_quality 25 = .ok (.aload_n 0, 1) := by decide +kernel
theorem dX11_quality_26 : decode cX11_quality 26 = .ok (.getfield 12, 3) := by decide +kernel
theorem dX11_quality_29 : decode cX11_quality 29 = .ok (.invokevirtual 28, 3) := by decide +kernel
theorem dX11_quality_32 : decode cX11_quality 32 = .ok (.astore 5, 2) := by decide +kernel
theorem dX11_quality_34 : decode cX11_quality 34 = .ok (.aload 5, 2) := by decide +kernel
theorem dX11_quality_36 : decode cX11_quality 36 = .ok (.invokeinterface 32 1, 5) := by decide +kernel
theorem dX11_quality_41 : decode cX11_quality 41 = .ok (.ifCond .eq 61, 3) := by decide +kernel
theorem dX11_quality_44 : decode cX11_quality 44 = .ok (.aload 5, 2) := by decide +kernel
theorem dX11_quality_46 : decode cX11_quality 46 = .ok (.invokeinterface 38 1, 5) := by decide +kernel
theorem dX11_quality_51 : decode cX11_quality 51 = .ok (.checkcast 42, 3) := by decide +kernel
theorem dX11_quality_54 : decode cX11_quality 54 = .ok (.astore 6, 2) := by decide +kernel
theorem dX11_quality_56 : decode cX11_quality 56 = .ok (.aload 6, 2) := by decide +kernel
theorem dX11_quality_58 : decode cX11_quality 58 = .ok (.aload_n 3, 1) := by decide +kernel
theorem dX11_quality_59 : decode cX11_quality 59 = .ok (.if_acmp .eq 40, 3) := by decide +kernel
theorem dX11_quality_62 : decode cX11_quality 62 = .ok (.aload 6, 2) := by decide +kernel
theorem dX11_quality_64 : decode cX11_quality 64 = .ok (.getfield 70, 3) := by decide +kernel
theorem dX11_quality_67 : decode cX11_quality 67 = .ok (.ifCond .eq 32, 3) := by decide +kernel
theorem dX11_quality_70 : decode cX11_quality 70 = .ok (.aload 6, 2) := by decide +kernel
theorem dX11_quality_72 : decode cX11_quality 72 = .ok (.getfield 74, 3) := by decide +kernel
theorem dX11_quality_75 : decode cX11_quality 75 = .ok (.aload_n 3, 1) := by decide +kernel
theorem dX11_quality_76 : decode cX11_quality 76 = .ok (.getfield 74, 3) := by decide +kernel
theorem dX11_quality_79 : decode cX11_quality 79 = .ok (.if_icmp .ne 20, 3) := by decide +kernel
theorem dX11_quality_82 : decode cX11_quality 82 = .ok (.iload 4, 2) := by decide +kernel
theorem dX11_quality_84 : decode cX11_quality 84 = .ok (.iconst 0, 1) := by decide +kernel
theorem dX11_quality_85 : decode cX11_quality 85 = .ok (.aload 6, 2) := by decide +kernel
theorem dX11_quality_87 : decode cX11_quality 87 = .ok (.iload_n 2, 1) := by decide +kernel
theorem dX11_quality_88 : decode cX11_quality 88 = .ok (.invokevirtual 77, 3) := by decide +kernel
theorem dX11_quality_91 : decode cX11_quality 91 = .ok (.invokestatic 81, 3) := by decide +kernel
theorem dX11_quality_94 : decode cX11_quality 94 = .ok (.iconst 3, 1) := by decide +kernel
theorem dX11_quality_95 : decode cX11_quality 95 = .ok (.idiv, 1) := by decide +kernel
theorem dX11_quality_96 : decode cX11_quality 96 = .ok (.iadd, 1) := by decide +kernel
theorem dX11_quality_97 : decode cX11_quality 97 = .ok (.istore 4, 2) := by decide +kernel
theorem dX11_quality_99 : decode cX11_quality 99 = .ok (.goto (-65), 3) := by decide +kernel
theorem dX11_quality_102 : decode cX11_quality 102 = .ok (.aload_n 3, 1) := by decide +kernel
theorem dX11_quality_103 : decode cX11_quality 103 = .ok (.iload_n 2, 1) := by decide +kernel
theorem dX11_quality_104 : decode cX11_quality 104 = .ok (.invokevirtual 77, 3) := by decide +kernel
theorem dX11_quality_107 : decode cX11_quality 107 = .ok (.iconst 2, 1) := by decide +kernel
theorem dX11_quality_108 : decode cX11_quality 108 = .ok (.aload_n 3, 1) := by decide +kernel
theorem dX11_quality_109 : decode cX11_quality 109 = .ok (.getfield 87, 3) := by decide +kernel
theorem dX11_quality_112 : decode cX11_quality 112 = .ok (.imul, 1) := by decide +kernel
theorem dX11_quality_113 : decode cX11_quality 113 = .ok (.isub, 1) := by decide +kernel
theorem dX11_quality_114 : decode cX11_quality 114 = .ok (.iload 4, 2) := by decide +kernel
theorem dX11_quality_116 : decode cX11_quality 116 = .ok (.isub, 1) := by decide +kernel
theorem dX11_quality_117 : decode cX11_quality 117 = .ok (.ireturn, 1) := by decide +kernel
theorem dX11_isHeard_0 : decode cX11_isHeard 0 = .ok (.aload_n 0, 1) := by decide +kernel
theorem dX11_isHeard_1 : decode cX11_isHeard 1 = .ok (.iload_n 1, 1) := by decide +kernel
theorem dX11_isHeard_2 : decode cX11_isHeard 2 = .ok (.iload_n 2, 1) := by decide +kernel
theorem dX11_isHeard_3 : decode cX11_isHeard 3 = .ok (.invokevirtual 90, 3) := by decide +kernel
theorem dX11_isHeard_6 : decode cX11_isHeard 6 = .ok (.iconst 1, 1) := by decide +kernel
theorem dX11_isHeard_7 : decode cX11_isHeard 7 = .ok (.if_icmp .lt 7, 3) := by decide +kernel
theorem dX11_isHeard_10 : decode cX11_isHeard 10 = .ok (.iconst 1, 1) := by decide +kernel
theorem dX11_isHeard_11 : decode cX11_isHeard 11 = .ok (.goto 4, 3) := by decide +kernel
theorem dX11_isHeard_14 : decode cX11_isHeard 14 = .ok (.iconst 0, 1) := by decide +kernel
theorem dX11_isHeard_15 : decode cX11_isHeard 15 = .ok (.ireturn, 1) := by decide +kernel
theorem dX11_best_0 : decode cX11_best 0 = .ok (.iconst (-1), 1) := by decide +kernel
theorem dX11_best_1 : decode cX11_best 1 = .ok (.istore 4, 2) := by decide +kernel
theorem dX11_best_3 : decode cX11_best 3 = .ok (.iconst 0, 1) := by decide +kernel
theorem dX11_best_4 : decode cX11_best 4 = .ok (.istore 5, 2) := by decide +kernel
theorem dX11_best_6 : decode cX11_best 6 = .ok (.iload 5, 2) := by decide +kernel
theorem dX11_best_8 : decode cX11_best 8 = .ok (.aload_n 0, 1) := by decide +kernel
theorem dX11_best_9 : decode cX11_best 9 = .ok (.getfield 12, 3) := by decide +kernel
theorem dX11_best_12 : decode cX11_best 12 = .ok (.invokevirtual 93, 3) := by decide +kernel
theorem dX11_best_15 : decode cX11_best 15 = .ok (.if_icmp .ge 100, 3) := by decide +kernel
theorem dX11_best_18 : decode cX11_best 18 = .ok (.iload 5, 2) := by decide +kernel
theorem dX11_best_20 : decode cX11_best 20 = .ok (.iload_n 2, 1) := by decide +kernel
theorem dX11_best_21 : decode cX11_best 21 = .ok (.if_icmp .eq 88, 3) := by decide +kernel
theorem dX11_best_24 : decode cX11_best 24 = .ok (.iload_n 3, 1) := by decide +kernel
theorem dX11_best_25 : decode cX11_best 25 = .ok (.ifCond .eq 57, 3) := by decide +kernel
theorem dX11_best_28 : decode cX11_best 28 = .ok (.aload_n 0, 1) := by decide +kernel
theorem dX11_best_29 : decode cX11_best 29 = .ok (.getfield 12, 3) := by decide +kernel
theorem dX11_best_32 : decode cX11_best 32 = .ok (.iload 5, 2) := by decide +kernel
theorem dX11_best_34 : decode cX11_best 34 = .ok (.invokevirtual 66, 3) := by decide +kernel
theorem dX11_best_37 : decode cX11_best 37 = .ok (.checkcast 42, 3) := by decide +kernel
theorem dX11_best_40 : decode cX11_best 40 = .ok (.getfield 70, 3) := by decide +kernel
theorem dX11_best_43 : decode cX11_best 43 = .ok (.ifCond .eq 66, 3) := by decide +kernel
theorem dX11_best_46 : decode cX11_best 46 = .ok (.aload_n 0, 1) := by decide +kernel
theorem dX11_best_47 : decode cX11_best 47 = .ok (.getfield 12, 3) := by decide +kernel
theorem dX11_best_50 : decode cX11_best 50 = .ok (.iload 5, 2) := by decide +kernel
theorem dX11_best_52 : decode cX11_best 52 = .ok (.invokevirtual 66, 3) := by decide +kernel
theorem dX11_best_55 : decode cX11_best 55 = .ok (.checkcast 42, 3) := by decide +kernel
theorem dX11_best_58 : decode cX11_best 58 = .ok (.getfield 87, 3) := by decide +kernel
theorem dX11_best_61 : decode cX11_best 61 = .ok (.aload_n 0, 1) := by decide +kernel
theorem dX11_best_62 : decode cX11_best 62 = .ok (.getfield 12, 3) := by decide +kernel
theorem dX11_best_65 : decode cX11_best 65 = .ok (.iload 5, 2) := by decide +kernel
theorem dX11_best_67 : decode cX11_best 67 = .ok (.invokevirtual 66, 3) := by decide +kernel
theorem dX11_best_70 : decode cX11_best 70 = .ok (.checkcast 42, 3) := by decide +kernel
theorem dX11_best_73 : decode cX11_best 73 = .ok (.getfield 97, 3) := by decide +kernel
theorem dX11_best_76 : decode cX11_best 76 = .ok (.if_icmp .lt 6, 3) := by decide +kernel
theorem dX11_best_79 : decode cX11_best 79 = .ok (.goto 30, 3) := by decide +kernel
theorem dX11_best_82 : decode cX11_best 82 = .ok (.iload 4, 2) := by decide +kernel
theorem dX11_best_84 : decode cX11_best 84 = .ok (.iconst (-1), 1) := by decide +kernel
theorem dX11_best_85 : decode cX11_best 85 = .ok (.if_icmp .eq 20, 3) := by decide +kernel
theorem dX11_best_88 : decode cX11_best 88 = .ok (.aload_n 0, 1) := by decide +kernel
theorem dX11_best_89 : decode cX11_best 89 = .ok (.iload 5, 2) := by decide +kernel
theorem dX11_best_91 : decode cX11_best 91 = .ok (.iload_n 1, 1) := by decide +kernel
theorem dX11_best_92 : decode cX11_best 92 = .ok (.invokevirtual 90, 3) := by decide +kernel
theorem dX11_best_95 : decode cX11_best 95 = .ok (.aload_n 0, 1) := by decide +kernel
theorem dX11_best_96 : decode cX11_best 96 = .ok (.iload 4, 2) := by decide +kernel
theorem dX11_best_98 : decode cX11_best 98 = .ok (.iload_n 1, 1) := by decide +kernel
theorem dX11_best_99 : decode cX11_best 99 = .ok (.invokevirtual 90, 3) := by decide +kernel
theorem dX11_best_102 : decode cX11_best 102 = .ok (.if_icmp .le 7, 3) := by decide +kernel
theorem dX11_best_105 : decode cX11_best 105 = .ok (.iload 5, 2) := by decide +kernel
theorem dX11_best_107 : decode cX11_best 107 = .ok (.istore 4, 2) := by decide +kernel
theorem dX11_best_109 : decode cX11_best 109 = .ok (.iinc 5 1, 3) := by decide +kernel
theorem dX11_best_112 : decode cX11_best 112 = .ok (.goto (-106), 3) := by decide +kernel
theorem dX11_best_115 : decode cX11_best 115 = .ok (.iload 4, 2) := by decide +kernel
theorem dX11_best_117 : decode cX11_best 117 = .ok (.ireturn, 1) := by decide +kernel
theorem dX11_bestHeard_0 : decode cX11_bestHeard 0 = .ok (.aload_n 0, 1) := by decide +kernel
theorem dX11_bestHeard_1 : decode cX11_bestHeard 1 = .ok (.iload_n 1, 1) := by decide +kernel
theorem dX11_bestHeard_2 : decode cX11_bestHeard 2 = .ok (.iconst (-1), 1) := by decide +kernel
theorem dX11_bestHeard_3 : decode cX11_bestHeard 3 = .ok (.iconst 0, 1) := by decide +kernel
theorem dX11_bestHeard_4 : decode cX11_bestHeard 4 = .ok (.invokevirtual 100, 3) := by decide +kernel
theorem dX11_bestHeard_7 : decode cX11_bestHeard 7 = .ok (.istore_n 2, 1) := by decide +kernel
theorem dX11_bestHeard_8 : decode cX11_bestHeard 8 = .ok (.iload_n 2, 1) := by decide +kernel
theorem dX11_bestHeard_9 : decode cX11_bestHeard 9 = .ok (.iconst (-1), 1) := by decide +kernel
theorem dX11_bestHeard_10 : decode cX11_bestHeard 10 = .ok (.if_icmp .eq 12, 3) := by decide +kernel
theorem dX11_bestHeard_13 : decode cX11_bestHeard 13 = .ok (.aload_n 0, 1) := by decide +kernel
theorem dX11_bestHeard_14 : decode cX11_bestHeard 14 = .ok (.iload_n 2, 1) := by decide +kernel
theorem dX11_bestHeard_15 : decode cX11_bestHeard 15 = .ok (.iload_n 1, 1) := by decide +kernel
theorem dX11_bestHeard_16 : decode cX11_bestHeard 16 = .ok (.invokevirtual 104, 3) := by decide +kernel
theorem dX11_bestHeard_19 : decode cX11_bestHeard 19 = .ok (.ifCond .ne 7, 3) := by decide +kernel
theorem dX11_bestHeard_22 : decode cX11_bestHeard 22 = .ok (.iconst (-1), 1) := by decide +kernel
theorem dX11_bestHeard_23 : decode cX11_bestHeard 23 = .ok (.goto 4, 3) := by decide +kernel
theorem dX11_bestHeard_26 : decode cX11_bestHeard 26 = .ok (.iload_n 2, 1) := by decide +kernel
theorem dX11_bestHeard_27 : decode cX11_bestHeard 27 = .ok (.ireturn, 1) := by decide +kernel
theorem dX11_covered_0 : decode cX11_covered 0 = .ok (.iconst 0, 1) := by decide +kernel
theorem dX11_covered_1 : decode cX11_covered 1 = .ok (.istore_n 1, 1) := by decide +kernel
theorem dX11_covered_2 : decode cX11_covered 2 = .ok (.iconst 0, 1) := by decide +kernel
theorem dX11_covered_3 : decode cX11_covered 3 = .ok (.istore_n 2, 1) := by decide +kernel
theorem dX11_covered_4 : decode cX11_covered 4 = .ok (.iload_n 2, 1) := by decide +kernel
theorem dX11_covered_5 : decode cX11_covered 5 = .ok (.bipush 100, 2) := by decide +kernel
theorem dX11_covered_7 : decode cX11_covered 7 = .ok (.if_icmp .ge 43, 3) := by decide +kernel
theorem dX11_covered_10 : decode cX11_covered 10 = .ok (.aload_n 0, 1) := by decide +kernel
theorem dX11_covered_11 : decode cX11_covered 11 = .ok (.iload_n 2, 1) := by decide +kernel
theorem dX11_covered_12 : decode cX11_covered 12 = .ok (.iconst (-1), 1) := by decide +kernel
theorem dX11_covered_13 : decode cX11_covered 13 = .ok (.iconst 0, 1) := by decide +kernel
theorem dX11_covered_14 : decode cX11_covered 14 = .ok (.invokevirtual 100, 3) := by decide +kernel
theorem dX11_covered_17 : decode cX11_covered 17 = .ok (.istore_n 3, 1) := by decide +kernel
theorem dX11_covered_18 : decode cX11_covered 18 = .ok (.iload_n 1, 1) := by decide +kernel
theorem dX11_covered_19 : decode cX11_covered 19 = .ok (.iload_n 3, 1) := by decide +kernel
theorem dX11_covered_20 : decode cX11_covered 20 = .ok (.iconst (-1), 1) := by decide +kernel
theorem dX11_covered_21 : decode cX11_covered 21 = .ok (.if_icmp .eq 17, 3) := by decide +kernel
theorem dX11_covered_24 : decode cX11_covered 24 = .ok (.aload_n 0, 1) := by decide +kernel
theorem dX11_covered_25 : decode cX11_covered 25 = .ok (.iload_n 3, 1) := by decide +kernel
theorem dX11_covered_26 : decode cX11_covered 26 = .ok (.iload_n 2, 1) := by decide +kernel
theorem dX11_covered_27 : decode cX11_covered 27 = .ok (.invokevirtual 90, 3) := by decide +kernel
theorem dX11_covered_30 : decode cX11_covered 30 = .ok (.iconst 5, 1) := by decide +kernel
theorem dX11_covered_31 : decode cX11_covered 31 = .ok (.if_icmp .lt 7, 3) := by decide +kernel
theorem dX11_covered_34 : decode cX11_covered 34 = .ok (.iconst 1, 1) := by decide +kernel
theorem dX11_covered_35 : decode cX11_covered 35 = .ok (.goto 4, 3) := by decide +kernel
theorem dX11_covered_38 : decode cX11_covered 38 = .ok (.iconst 0, 1) := by decide +kernel
theorem dX11_covered_39 : decode cX11_covered 39 = .ok (.invokestatic 125, 3) := by decide +kernel
theorem dX11_covered_42 : decode cX11_covered 42 = .ok (.iadd, 1) := by decide +kernel
theorem dX11_covered_43 : decode cX11_covered 43 = .ok (.istore_n 1, 1) := by decide +kernel
theorem dX11_covered_44 : decode cX11_covered 44 = .ok (.iinc 2 1, 3) := by decide +kernel
theorem dX11_covered_47 : decode cX11_covered 47 = .ok (.goto (-43), 3) := by decide +kernel
theorem dX11_covered_50 : decode cX11_covered 50 = .ok (.iload_n 1, 1) := by decide +kernel
theorem dX11_covered_51 : decode cX11_covered 51 = .ok (.ireturn, 1) := by decide +kernel
theorem dX12_isIn_0 : decode cX12_isIn 0 = .ok (.iload_n 0, 1) := by decide +kernel
theorem dX12_isIn_1 : decode cX12_isIn 1 = .ok (.iload_n 1, 1) := by decide +kernel
theorem dX12_isIn_2 : decode cX12_isIn 2 = .ok (.if_icmp .lt 12, 3) := by decide +kernel
theorem dX12_isIn_5 : decode cX12_isIn 5 = .ok (.iload_n 0, 1) := by decide +kernel
theorem dX12_isIn_6 : decode cX12_isIn 6 = .ok (.iload_n 2, 1) := by decide +kernel
theorem dX12_isIn_7 : decode cX12_isIn 7 = .ok (.if_icmp .gt 7, 3) := by decide +kernel
theorem dX12_isIn_10 : decode cX12_isIn 10 = .ok (.iconst 1, 1) := by decide +kernel
theorem dX12_isIn_11 : decode cX12_isIn 11 = .ok (.goto 4, 3) := by decide +kernel
theorem dX12_isIn_14 : decode cX12_isIn 14 = .ok (.iconst 0, 1) := by decide +kernel
theorem dX12_isIn_15 : decode cX12_isIn 15 = .ok (.ireturn, 1) := by decide +kernel
theorem dX12_one_0 : decode cX12_one 0 = .ok (.iload_n 0, 1) := by decide +kernel
theorem dX12_one_1 : decode cX12_one 1 = .ok (.ifCond .eq 7, 3) := by decide +kernel
theorem dX12_one_4 : decode cX12_one 4 = .ok (.iconst 1, 1) := by decide +kernel
theorem dX12_one_5 : decode cX12_one 5 = .ok (.goto 4, 3) := by decide +kernel
theorem dX12_one_8 : decode cX12_one 8 = .ok (.iconst 0, 1) := by decide +kernel
theorem dX12_one_9 : decode cX12_one 9 = .ok (.ireturn, 1) := by decide +kernel
theorem dX12_init_0 : decode cX12_init 0 = .ok (.aload_n 0, 1) := by decide +kernel
theorem dX12_init_1 : decode cX12_init 1 = .ok (.invokespecial 1, 3) := by decide +kernel
theorem dX12_init_4 : decode cX12_init 4 = .ok (.aload_n 0, 1) := by decide +kernel
theorem dX12_init_5 : decode cX12_init 5 = .ok (.new 7, 3) := by decide +kernel
theorem dX12_init_8 : decode cX12_init 8 = .ok (.dup, 1) := by decide +kernel
theorem dX12_init_9 : decode cX12_init 9 = .ok (.invokespecial 9, 3) := by decide +kernel
theorem dX12_init_12 : decode cX12_init 12 = .ok (.putfield 10, 3) := by decide +kernel
theorem dX12_init_15 : decode cX12_init 15 = .ok (.return_, 1) := by decide +kernel
theorem dX12_thrown_0 : decode cX12_thrown 0 = .ok (.aload_n 0, 1) := by decide +kernel
theorem dX12_thrown_1 : decode cX12_thrown 1 = .ok (.getfield 16, 3) := by decide +kernel
theorem dX12_thrown_4 : decode cX12_thrown 4 = .ok (.ireturn, 1) := by decide +kernel
theorem dX12_refuse_0 : decode cX12_refuse 0 = .ok (.iload_n 1, 1) := by decide +kernel
theorem dX12_refuse_1 : decode cX12_refuse 1 = .ok (.ifCond .eq 15, 3) := by decide +kernel
theorem dX12_refuse_4 : decode cX12_refuse 4 = .ok (.aload_n 0, 1) := by decide +kernel
theorem dX12_refuse_5 : decode cX12_refuse 5 = .ok (.getfield 16, 3) := by decide +kernel
theorem dX12_refuse_8 : decode cX12_refuse 8 = .ok (.ifCond .ne 8, 3) := by decide +kernel
theorem dX12_refuse_11 : decode cX12_refuse 11 = .ok (.aload_n 0, 1) := by decide +kernel
theorem dX12_refuse_12 : decode cX12_refuse 12 = .ok (.iload_n 2, 1) := by decide +kernel
theorem dX12_refuse_13 : decode cX12_refuse 13 = .ok (.putfield 16, 3) := by decide +kernel
theorem dX12_refuse_16 : decode cX12_refuse 16 = .ok (.aload_n 0, 1) := by decide +kernel
theorem dX12_refuse_17 : decode cX12_refuse 17 = .ok (.getfield 16, 3) := by decide +kernel
theorem dX12_refuse_20 : decode cX12_refuse 20 = .ok (.ifCond .le 7, 3) := by decide +kernel
theorem dX12_refuse_23 : decode cX12_refuse 23 = .ok (.iconst 1, 1) := by decide +kernel
theorem dX12_refuse_24 : decode cX12_refuse 24 = .ok (.goto 4, 3) := by decide +kernel
theorem dX12_refuse_27 : decode cX12_refuse 27 = .ok (.iconst 0, 1) := by decide +kernel
theorem dX12_refuse_28 : decode cX12_refuse 28 = .ok (.ireturn, 1) := by decide +kernel
theorem dX12_start_0 : decode cX12_start 0 = .ok (.aload_n 0, 1) := by decide +kernel
theorem dX12_start_1 : decode cX12_start 1 = .ok (.iconst 0, 1) := by decide +kernel
theorem dX12_start_2 : decode cX12_start 2 = .ok (.putfield 16, 3) := by decide +kernel
theorem dX12_start_5 : decode cX12_start 5 = .ok (.aload_n 0, 1) := by decide +kernel
theorem dX12_start_6 : decode cX12_start 6 = .ok (.iload_n 1, 1) := by decide +kernel
theorem dX12_start_7 : decode cX12_start 7 = .ok (.iload_n 2, 1) := by decide +kernel
theorem dX12_start_8 : decode cX12_start 8 = .ok (.invokevirtual 20, 3) := by decide +kernel
theorem dX12_start_11 : decode cX12_start 11 = .ok (.ireturn, 1) := by decide +kernel
theorem dX12_mast_0 : decode cX12_mast 0 = .ok (.aload_n 0, 1) := by decide +kernel
theorem dX12_mast_1 : decode cX12_mast 1 = .ok (.iload_n 1, 1) := by decide +kernel
theorem dX12_mast_2 : decode cX12_mast 2 = .ok (.iconst 0, 1) := by decide +kernel
theorem dX12_mast_3 : decode cX12_mast 3 = .ok (.bipush 99, 2) := by decide +kernel
theorem dX12_mast_5 : decode cX12_mast 5 = .ok (.invokestatic 34, 3) := by decide +kernel
theorem dX12_mast_8 : decode cX12_mast 8 = .ok (.ifCond .eq 53, 3) := by decide +kernel
theorem dX12_mast_11 : decode cX12_mast 11 = .ok (.iload_n 2, 1) := by decide +kernel
theorem dX12_mast_12 : decode cX12_mast 12 = .ok (.bipush 10, 2) := by decide +kernel
theorem dX12_mast_14 : decode cX12_mast 14 = .ok (.bipush 60, 2) := by decide +kernel
theorem dX12_mast_16 : decode cX12_mast 16 = .ok (.invokestatic 34, 3) := by decide +kernel
theorem dX12_mast_19 : decode cX12_mast 19 = .ok (.ifCond .eq 42, 3) := by decide +kernel
theorem dX12_mast_22 : decode cX12_mast 22 = .ok (.iload_n 3, 1) := by decide +kernel
theorem dX12_mast_23 : decode cX12_mast 23 = .ok (.iconst 0, 1) := by decide +kernel
theorem dX12_mast_24 : decode cX12_mast 24 = .ok (.iconst 2, 1) := by decide +kernel
theorem dX12_mast_25 : decode cX12_mast 25 = .ok (.invokestatic 34, 3) := by decide +kernel
theorem dX12_mast_28 : decode cX12_mast 28 = .ok (.ifCond .eq 33, 3) := by decide +kernel
theorem dX12_mast_31 : decode cX12_mast 31 = .ok (.iload 4, 2) := by decide +kernel
theorem dX12_mast_33 : decode cX12_mast 33 = .ok (.iconst 1, 1) := by decide +kernel
theorem dX12_mast_34 : decode cX12_mast 34 = .ok (.iconst 4, 1) := by decide +kernel
theorem dX12_mast_35 : decode cX12_mast 35 = .ok (.invokestatic 34, 3) := by decide +kernel
theorem dX12_mast_38 : decode cX12_mast 38 = .ok (.ifCond .eq 23, 3) := by decide +kernel
theorem dX12_mast_41 : decode cX12_mast 41 = .ok (.iload 5, 2) := by decide +kernel
theorem dX12_mast_43 : decode cX12_mast 43 = .ok (.iconst 0, 1) := by decide +kernel
theorem dX12_mast_44 : decode cX12_mast 44 = .ok (.iconst 3, 1) := by decide +kernel
theorem dX12_mast_45 : decode cX12_mast 45 = .ok (.invokestatic 34, 3) := by decide +kernel
theorem dX12_mast_48 : decode cX12_mast 48 = .ok (.ifCond .eq 13, 3) := by decide +kernel
theorem dX12_mast_51 : decode cX12_mast 51 = .ok (.iload 6, 2) := by decide +kernel
theorem dX12_mast_53 : decode cX12_mast 53 = .ok (.iconst 0, 1) := by decide +kernel
theorem dX12_mast_54 : decode cX12_mast 54 = .ok (.iconst 1, 1) := by decide +kernel
theorem dX12_mast_55 : decode cX12_mast 55 = .ok (.invokestatic 34, 3) := by decide +kernel
theorem dX12_mast_58 : decode cX12_mast 58 = .ok (.ifCond .ne 7, 3) := by decide +kernel
theorem dX12_mast_61 : decode cX12_mast 61 = .ok (.iconst 1, 1) := by decide +kernel
theorem dX12_mast_62 : decode cX12_mast 62 = .ok (.goto 4, 3) := by decide +kernel
theorem dX12_mast_65 : decode cX12_mast 65 = .ok (.iconst 0, 1) := by decide +kernel
theorem dX12_mast_66 : decode cX12_mast 66 = .ok (.iconst 1, 1) := by decide +kernel
theorem dX12_mast_67 : decode cX12_mast 67 = .ok (.invokevirtual 44, 3) := by decide +kernel
theorem dX12_mast_70 : decode cX12_mast 70 = .ok (.ifCond .ne 31, 3) := by decide +kernel
theorem dX12_mast_73 : decode cX12_mast 73 = .ok (.aload_n 0, 1) := by decide +kernel
theorem dX12_mast_74 : decode cX12_mast 74 = .ok (.aload_n 0, 1) := by decide +kernel
theorem dX12_mast_75 : decode cX12_mast 75 = .ok (.getfield 10, 3) := by decide +kernel
theorem dX12_mast_78 : decode cX12_mast 78 = .ok (.getfield 24, 3) := by decide +kernel
theorem dX12_mast_81 : decode cX12_mast 81 = .ok (.invokevirtual 28, 3) := by decide +kernel
theorem dX12_mast_84 : decode cX12_mast 84 = .ok (.bipush 6, 2) := by decide +kernel
theorem dX12_mast_86 : decode cX12_mast 86 = .ok (.if_icmp .ne 7, 3) := by decide +kernel
theorem dX12_mast_89 : decode cX12_mast 89 = .ok (.iconst 1, 1) := by decide +kernel
theorem dX12_mast_90 : decode cX12_mast 90 = .ok (.goto 4, 3) := by decide +kernel
theorem dX12_mast_93 : decode cX12_mast 93 = .ok (.iconst 0, 1) := by decide +kernel
theorem dX12_mast_94 : decode cX12_mast 94 = .ok (.iconst 2, 1) := by decide +kernel
theorem dX12_mast_95 : decode cX12_mast 95 = .ok (.invokevirtual 20, 3) := by decide +kernel
theorem dX12_mast_98 : decode cX12_mast 98 = .ok (.ifCond .eq 5, 3) := by decide +kernel
theorem dX12_mast_101 : decode cX12_mast 101 = .ok (.iconst 0, 1) := by decide +kernel
theorem dX12_mast_102 : decode cX12_mast 102 = .ok (.ireturn, 1) := by decide +kernel
theorem dX12_mast_103 : decode cX12_mast 103 = .ok (.aload_n 0, 1) := by decide +kernel
theorem dX12_mast_104 : decode cX12_mast 104 = .ok (.getfield 10, 3) := by decide +kernel
theorem dX12_mast_107 : decode cX12_mast 107 = .ok (.getfield 24, 3) := by decide +kernel
theorem dX12_mast_110 : decode cX12_mast 110 = .ok (.new 47, 3) := by decide +kernel
theorem dX12_mast_113 : decode cX12_mast 113 = .ok (.dup, 1) := by decide +kernel
theorem dX12_mast_114 : decode cX12_mast 114 = .ok (.iload_n 1, 1) := by decide +kernel
theorem dX12_mast_115 : decode cX12_mast 115 = .ok (.iload_n 2, 1) := by decide +kernel
theorem dX12_mast_116 : decode cX12_mast 116 = .ok (.iload_n 3, 1) := by decide +kernel
theorem dX12_mast_117 : decode cX12_mast 117 = .ok (.iload 4, 2) := by decide +kernel
theorem dX12_mast_119 : decode cX12_mast 119 = .ok (.iload 5, 2) := by decide +kernel
theorem dX12_mast_121 : decode cX12_mast 121 = .ok (.iload 6, 2) := by decide +kernel
theorem dX12_mast_123 : decode cX12_mast 123 = .ok (.invokespecial 49, 3) := by decide +kernel
theorem dX12_mast_126 : decode cX12_mast 126 = .ok (.invokevirtual 52, 3) := by decide +kernel
theorem dX12_mast_129 : decode cX12_mast 129 = .ok (.pop, 1) := by decide +kernel
theorem dX12_mast_130 : decode cX12_mast 130 = .ok (.aload_n 0, 1) := by decide +kernel
theorem dX12_mast_131 : decode cX12_mast 131 = .ok (.getfield 10, 3) := by decide +kernel
theorem dX12_mast_134 : decode cX12_mast 134 = .ok (.getfield 24, 3) := by decide +kernel
theorem dX12_mast_137 : decode cX12_mast 137 = .ok (.invokevirtual 28, 3) := by decide +kernel
theorem dX12_mast_140 : decode cX12_mast 140 = .ok (.iconst 1, 1) := by decide +kernel
theorem dX12_mast_141 : decode cX12_mast 141 = .ok (.isub, 1) := by decide +kernel
theorem dX12_mast_142 : decode cX12_mast 142 = .ok (.ireturn, 1) := by decide +kernel
theorem dX12_toldOfMast_0 : decode cX12_toldOfMast 0 = .ok (.aload_n 0, 1) := by decide +kernel
theorem dX12_toldOfMast_1 : decode cX12_toldOfMast 1 = .ok (.getfield 10, 3) := by decide +kernel
theorem dX12_toldOfMast_4 : decode cX12_toldOfMast 4 = .ok (.getfield 24, 3) := by decide +kernel
theorem dX12_toldOfMast_7 : decode cX12_toldOfMast 7 = .ok (.iload_n 1, 1) := by decide +kernel
theorem dX12_toldOfMast_8 : decode cX12_toldOfMast 8 = .ok (.invokevirtual 65, 3) := by decide +kernel
theorem dX12_toldOfMast_11 : decode cX12_toldOfMast 11 = .ok (.checkcast 47, 3) := by decide +kernel
theorem dX12_toldOfMast_14 : decode cX12_toldOfMast 14 = .ok (.astore_n 3, 1) := by decide +kernel
theorem dX12_toldOfMast_15 : decode cX12_toldOfMast 15 = .ok (.iconst 0, 1) := by decide +kernel
theorem dX12_toldOfMast_16 : decode cX12_toldOfMast 16 = .ok (.istore 4, 2) := by decide +kernel
theorem dX12_toldOfMast_18 : decode cX12_toldOfMast 18 = .ok (.aload_n 0, 1) := by decide +kernel
theorem dX12_toldOfMast_19 : decode cX12_toldOfMast 19 = .ok (.getfield 10, 3) := by decide +kernel
theorem dX12_toldOfMast_22 : decode cX12_toldOfMast 22 = .ok (.getfield 38, 3) := by decide +kernel
theorem dX12_toldOfMast_25 : decode cX12_toldOfMast 25 = .ok (.invokevirtual 100, 3) := by decide +kernel
theorem dX12_toldOfMast_28 : decode cX12_toldOfMast 28 = .ok (.astore 5, 2) := by decide +kernel
theorem dX12_toldOfMast_30 : decode cX12_toldOfMast 30 = .ok (.aload 5, 2) := by decide +kernel
theorem dX12_toldOfMast_32 : decode cX12_toldOfMast 32 = .ok (.invokeinterface 104 1, 5) := by decide +kernel
theorem dX12_toldOfMast_37 : decode cX12_toldOfMast 37 = .ok (.ifCond .eq 48, 3) := by decide +kernel
theorem dX12_toldOfMast_40 : decode cX12_toldOfMast 40 = .ok (.aload 5, 2) := by decide +kernel
theorem dX12_toldOfMast_42 : decode cX12_toldOfMast 42 = .ok (.invokeinterface 110 1, 5) := by decide +kernel
theorem dX12_toldOfMast_47 : decode cX12_toldOfMast 47 = .ok (.checkcast 56, 3) := by decide +kernel
theorem dX12_toldOfMast_50 : decode cX12_toldOfMast 50 = .ok (.astore 6, 2) := by decide +kernel
theorem dX12_toldOfMast_52 : decode cX12_toldOfMast 52 = .ok (.iload 4, 2) := by decide +kernel
theorem dX12_toldOfMast_54 : decode cX12_toldOfMast 54 = .ok (.aload 6, 2) := by decide +kernel
theorem dX12_toldOfMast_56 : decode cX12_toldOfMast 56 = .ok (.invokevirtual 125, 3) := by decide +kernel
theorem dX12_toldOfMast_59 : decode cX12_toldOfMast 59 = .ok (.ifCond .eq 16, 3) := by decide +kernel
theorem dX12_toldOfMast_62 : decode cX12_toldOfMast 62 = .ok (.aload 6, 2) := by decide +kernel
theorem dX12_toldOfMast_64 : decode cX12_toldOfMast 64 = .ok (.getfield 88, 3) := by decide +kernel
theorem dX12_toldOfMast_67 : decode cX12_toldOfMast 67 = .ok (.iload_n 1, 1) := by decide +kernel
theorem dX12_toldOfMast_68 : decode cX12_toldOfMast 68 = .ok (.if_icmp .ne 7, 3) := by decide +kernel
theorem dX12_toldOfMast_71 : decode cX12_toldOfMast 71 = .ok (.iconst 1, 1) := by decide +kernel
theorem dX12_toldOfMast_72 : decode cX12_toldOfMast 72 = .ok (.goto 4, 3) := by decide +kernel
theorem dX12_toldOfMast_75 : decode cX12_toldOfMast 75 = .ok (.iconst 0, 1) := by decide +kernel
theorem dX12_toldOfMast_76 : decode cX12_toldOfMast 76 = .ok (.invokestatic 170, 3) := by decide +kernel
theorem dX12_toldOfMast_79 : decode cX12_toldOfMast 79 = .ok (.iadd, 1) := by decide +kernel
theorem dX12_toldOfMast_80 : decode cX12_toldOfMast 80 = .ok (.istore 4, 2) := by decide +kernel
theorem dX12_toldOfMast_82 : decode cX12_toldOfMast 82 = .ok (.goto (-52), 3) := by decide +kernel
theorem dX12_toldOfMast_85 : decode cX12_toldOfMast 85 = .ok (.bipush 10, 2) := by decide +kernel
theorem dX12_toldOfMast_87 : decode cX12_toldOfMast 87 = .ok (.newarray .int, 2) := by decide +kernel
theorem dX12_toldOfMast_89 : decode cX12_toldOfMast 89 = .ok (.dup, 1) := by decide +kernel
theorem dX12_toldOfMast_90 : decode cX12_toldOfMast 90 = .ok (.iconst 0, 1) := by decide +kernel
theorem dX12_toldOfMast_91 : decode cX12_toldOfMast 91 = .ok (.aload_n 3, 1) := by decide +kernel
theorem dX12_toldOfMast_92 : decode cX12_toldOfMast 92 = .ok (.getfield 196, 3) := by decide +kernel
theorem dX12_toldOfMast_95 : decode cX12_toldOfMast 95 = .ok (.iastore, 1) := by decide +kernel
theorem dX12_toldOfMast_96 : decode cX12_toldOfMast 96 = .ok (.dup, 1) := by decide +kernel
theorem dX12_toldOfMast_97 : decode cX12_toldOfMast 97 = .ok (.iconst 1, 1) := by decide +kernel
theorem dX12_toldOfMast_98 : decode cX12_toldOfMast 98 = .ok (.aload_n 3, 1) := by decide +kernel
theorem dX12_toldOfMast_99 : decode cX12_toldOfMast 99 = .ok (.getfield 199, 3) := by decide +kernel
theorem dX12_toldOfMast_102 : decode cX12_toldOfMast 102 = .ok (.iastore, 1) := by decide +kernel
theorem dX12_toldOfMast_103 : decode cX12_toldOfMast 103 = .ok (.dup, 1) := by decide +kernel
theorem dX12_toldOfMast_104 : decode cX12_toldOfMast 104 = .ok (.iconst 2, 1) := by decide +kernel
theorem dX12_toldOfMast_105 : decode cX12_toldOfMast 105 = .ok (.aload_n 3, 1) := by decide +kernel
theorem dX12_toldOfMast_106 : decode cX12_toldOfMast 106 = .ok (.getfield 202, 3) := by decide +kernel
theorem dX12_toldOfMast_109 : decode cX12_toldOfMast 109 = .ok (.iastore, 1) := by decide +kernel
theorem dX12_toldOfMast_110 : decode cX12_toldOfMast 110 = .ok (.dup, 1) := by decide +kernel
theorem dX12_toldOfMast_111 : decode cX12_toldOfMast 111 = .ok (.iconst 3, 1) := by decide +kernel
theorem dX12_toldOfMast_112 : decode cX12_toldOfMast 112 = .ok (.aload_n 3, 1) := by decide +kernel
theorem dX12_toldOfMast_113 : decode cX12_toldOfMast 113 = .ok (.getfield 122, 3) := by decide +kernel
theorem dX12_toldOfMast_116 : decode cX12_toldOfMast 116 = .ok (.iastore, 1) := by decide +kernel
theorem dX12_toldOfMast_117 : decode cX12_toldOfMast 117 = .ok (.dup, 1) := by decide +kernel
theorem dX12_toldOfMast_118 : decode cX12_toldOfMast 118 = .ok (.iconst 4, 1) := by decide +kernel
theorem dX12_toldOfMast_119 : decode cX12_toldOfMast 119 = .ok (.aload_n 3, 1) := by decide +kernel
theorem dX12_toldOfMast_120 : decode cX12_toldOfMast 120 = .ok (.getfield 205, 3) := by decide +kernel
theorem dX12_toldOfMast_123 : decode cX12_toldOfMast 123 = .ok (.iastore, 1) := by decide +kernel
theorem dX12_toldOfMast_124 : decode cX12_toldOfMast 124 = .ok (.dup, 1) := by decide +kernel
theorem dX12_toldOfMast_125 : decode cX12_toldOfMast 125 = .ok (.iconst 5, 1) := by decide +kernel
theorem dX12_toldOfMast_126 : decode cX12_toldOfMast 126 = .ok (.aload_n 3, 1) := by decide +kernel
theorem dX12_toldOfMast_127 : decode cX12_toldOfMast 127 = .ok (.getfield 208, 3) := by decide +kernel
theorem dX12_toldOfMast_130 : decode cX12_toldOfMast 130 = .ok (.iastore, 1) := by decide +kernel
theorem dX12_toldOfMast_131 : decode cX12_toldOfMast 131 = .ok (.dup, 1) := by decide +kernel
theorem dX12_toldOfMast_132 : decode cX12_toldOfMast 132 = .ok (.bipush 6, 2) := by decide +kernel
theorem dX12_toldOfMast_134 : decode cX12_toldOfMast 134 = .ok (.aload_n 3, 1) := by decide +kernel
theorem dX12_toldOfMast_135 : decode cX12_toldOfMast 135 = .ok (.getfield 97, 3) := by decide +kernel
theorem dX12_toldOfMast_138 : decode cX12_toldOfMast 138 = .ok (.invokestatic 170, 3) := by decide +kernel
theorem dX12_toldOfMast_141 : decode cX12_toldOfMast 141 = .ok (.iastore, 1) := by decide +kernel
theorem dX12_toldOfMast_142 : decode cX12_toldOfMast 142 = .ok (.dup, 1) := by decide +kernel
theorem dX12_toldOfMast_143 : decode cX12_toldOfMast 143 = .ok (.bipush 7, 2) := by decide +kernel
theorem dX12_toldOfMast_145 : decode cX12_toldOfMast 145 = .ok (.aload_n 3, 1) := by decide +kernel
theorem dX12_toldOfMast_146 : decode cX12_toldOfMast 146 = .ok (.getfield 94, 3) := by decide +kernel
theorem dX12_toldOfMast_149 : decode cX12_toldOfMast 149 = .ok (.iastore, 1) := by decide +kernel
theorem dX12_toldOfMast_150 : decode cX12_toldOfMast 150 = .ok (.dup, 1) := by decide +kernel
theorem dX12_toldOfMast_151 : decode cX12_toldOfMast 151 = .ok (.bipush 8, 2) := by decide +kernel
theorem dX12_toldOfMast_153 : decode cX12_toldOfMast 153 = .ok (.iload 4, 2) := by decide +kernel
theorem dX12_toldOfMast_155 : decode cX12_toldOfMast 155 = .ok (.iastore, 1) := by decide +kernel
theorem dX12_toldOfMast_156 : decode cX12_toldOfMast 156 = .ok (.dup, 1) := by decide +kernel
theorem dX12_toldOfMast_157 : decode cX12_toldOfMast 157 = .ok (.bipush 9, 2) := by decide +kernel
theorem dX12_toldOfMast_159 : decode cX12_toldOfMast 159 = .ok (.aload_n 3, 1) := by decide +kernel
theorem dX12_toldOfMast_160 : decode cX12_toldOfMast 160 = .ok (.getfield 211, 3) := by decide +kernel
theorem dX12_toldOfMast_163 : decode cX12_toldOfMast 163 = .ok (.iastore, 1) := by decide +kernel
theorem dX12_toldOfMast_164 : decode cX12_toldOfMast 164 = .ok (.astore 5, 2) := by decide +kernel
theorem dX12_toldOfMast_166 : decode cX12_toldOfMast 166 = .ok (.aload 5, 2) := by decide +kernel
theorem dX12_toldOfMast_168 : decode cX12_toldOfMast 168 = .ok (.iload_n 2, 1) := by decide +kernel
theorem dX12_toldOfMast_169 : decode cX12_toldOfMast 169 = .ok (.iaload, 1) := by decide +kernel
theorem dX12_toldOfMast_170 : decode cX12_toldOfMast 170 = .ok (.ireturn, 1) := by decide +kernel
theorem dX12_count_0 : decode cX12_count 0 = .ok (.iconst 0, 1) := by decide +kernel
theorem dX12_count_1 : decode cX12_count 1 = .ok (.istore_n 2, 1) := by decide +kernel
theorem dX12_count_2 : decode cX12_count 2 = .ok (.iconst 0, 1) := by decide +kernel
theorem dX12_count_3 : decode cX12_count 3 = .ok (.istore_n 3, 1) := by decide +kernel
theorem dX12_count_4 : decode cX12_count 4 = .ok (.iconst 0, 1) := by decide +kernel
theorem dX12_count_5 : decode cX12_count 5 = .ok (.istore 4, 2) := by decide +kernel
theorem dX12_count_7 : decode cX12_count 7 = .ok (.iconst 0, 1) := by decide +kernel
theorem dX12_count_8 : decode cX12_count 8 = .ok (.istore 5, 2) := by decide +kernel
theorem dX12_count_10 : decode cX12_count 10 = .ok (.iconst 0, 1) := by decide +kernel
theorem dX12_count_11 : decode cX12_count 11 = .ok (.istore 6, 2) := by decide +kernel
theorem dX12_count_13 : decode cX12_count 13 = .ok (.aload_n 0, 1) := by decide +kernel
theorem dX12_count_14 : decode cX12_count 14 = .ok (.getfield 10, 3) := by decide +kernel
theorem dX12_count_17 : decode cX12_count 17 = .ok (.getfield 41, 3) := by decide +kernel
theorem dX12_count_20 : decode cX12_count 20 = .ok (.invokevirtual 100, 3) := by decide +kernel
theorem dX12_count_23 : decode cX12_count 23 = .ok (.astore 7, 2) := by decide +kernel
theorem dX12_count_25 : decode cX12_count 25 = .ok (.aload 7, 2) := by decide +kernel
theorem dX12_count_27 : decode cX12_count 27 = .ok (.invokeinterface 104 1, 5) := by decide +kernel
theorem dX12_count_32 : decode cX12_count 32 = .ok (.ifCond .eq 87, 3) := by decide +kernel
theorem dX12_count_35 : decode cX12_count 35 = .ok (.aload 7, 2) := by decide +kernel
theorem dX12_count_37 : decode cX12_count 37 = .ok (.invokeinterface 110 1, 5) := by decide +kernel
theorem dX12_count_42 : decode cX12_count 42 = .ok (.checkcast 82, 3) := by decide +kernel
theorem dX12_count_45 : decode cX12_count 45 = .ok (.astore 8, 2) := by decide +kernel
theorem dX12_count_47 : decode cX12_count 47 = .ok (.iload_n 2, 1) := by decide +kernel
theorem dX12_count_48 : decode cX12_count 48 = .ok (.aload 8, 2) := by decide +kernel
theorem dX12_count_50 : decode cX12_count 50 = .ok (.getfield 151, 3) := by decide +kernel
theorem dX12_count_53 : decode cX12_count 53 = .ok (.ifCond .ne 7, 3) := by decide +kernel
theorem dX12_count_56 : decode cX12_count 56 = .ok (.iconst 1, 1) := by decide +kernel
theorem dX12_count_57 : decode cX12_count 57 = .ok (.goto 4, 3) := by decide +kernel
theorem dX12_count_60 : decode cX12_count 60 = .ok (.iconst 0, 1) := by decide +kernel
theorem dX12_count_61 : decode cX12_count 61 = .ok (.invokestatic 170, 3) := by decide +kernel
theorem dX12_count_64 : decode cX12_count 64 = .ok (.iadd, 1) := by decide +kernel
theorem dX12_count_65 : decode cX12_count 65 = .ok (.istore_n 2, 1) := by decide +kernel
theorem dX12_count_66 : decode cX12_count 66 = .ok (.iload_n 3, 1) := by decide +kernel
theorem dX12_count_67 : decode cX12_count 67 = .ok (.aload 8, 2) := by decide +kernel
theorem dX12_count_69 : decode cX12_count 69 = .ok (.getfield 151, 3) := by decide +kernel
theorem dX12_count_72 : decode cX12_count 72 = .ok (.iconst 2, 1) := by decide +kernel
theorem dX12_count_73 : decode cX12_count 73 = .ok (.if_icmp .ne 7, 3) := by decide +kernel
theorem dX12_count_76 : decode cX12_count 76 = .ok (.iconst 1, 1) := by decide +kernel
theorem dX12_count_77 : decode cX12_count 77 = .ok (.goto 4, 3) := by decide +kernel
theorem dX12_count_80 : decode cX12_count 80 = .ok (.iconst 0, 1) := by decide +kernel
theorem dX12_count_81 : decode cX12_count 81 = .ok (.invokestatic 170, 3) := by decide +kernel
theorem dX12_count_84 : decode cX12_count 84 = .ok (.iadd, 1) := by decide +kernel
theorem dX12_count_85 : decode cX12_count 85 = .ok (.istore_n 3, 1) := by decide +kernel
theorem dX12_count_86 : decode cX12_count 86 = .ok (.iload 4, 2) := by decide +kernel
theorem dX12_count_88 : decode cX12_count 88 = .ok (.aload 8, 2) := by decide +kernel
theorem dX12_count_90 : decode cX12_count 90 = .ok (.getfield 239, 3) := by decide +kernel
theorem dX12_count_93 : decode cX12_count 93 = .ok (.iadd, 1) := by decide +kernel
theorem dX12_count_94 : decode cX12_count 94 = .ok (.istore 4, 2) := by decide +kernel
theorem dX12_count_96 : decode cX12_count 96 = .ok (.iload 5, 2) := by decide +kernel
theorem dX12_count_98 : decode cX12_count 98 = .ok (.aload 8, 2) := by decide +kernel
theorem dX12_count_100 : decode cX12_count 100 = .ok (.getfield 242, 3) := by decide +kernel
theorem dX12_count_103 : decode cX12_count 103 = .ok (.iadd, 1) := by decide +kernel
theorem dX12_count_104 : decode cX12_count 104 = .ok (.istore 5, 2) := by decide +kernel
theorem dX12_count_106 : decode cX12_count 106 = .ok (.iload 6, 2) := by decide +kernel
theorem dX12_count_108 : decode cX12_count 108 = .ok (.aload 8, 2) := by decide +kernel
theorem dX12_count_110 : decode cX12_count 110 = .ok (.getfield 236, 3) := by decide +kernel
theorem dX12_count_113 : decode cX12_count 113 = .ok (.iadd, 1) := by decide +kernel
theorem dX12_count_114 : decode cX12_count 114 = .ok (.istore 6, 2) := by decide +kernel
theorem dX12_count_116 : decode cX12_count 116 = .ok (.goto (-91), 3) := by decide +kernel
theorem dX12_count_119 : decode cX12_count 119 = .ok (.iconst 0, 1) := by decide +kernel
theorem dX12_count_120 : decode cX12_count 120 = .ok (.istore 7, 2) := by decide +kernel
theorem dX12_count_122 : decode cX12_count 122 = .ok (.iconst 0, 1) := by decide +kernel
theorem dX12_count_123 : decode cX12_count 123 = .ok (.istore 8, 2) := by decide +kernel
theorem dX12_count_125 : decode cX12_count 125 = .ok (.aload_n 0, 1) := by decide +kernel
theorem dX12_count_126 : decode cX12_count 126 = .ok (.getfield 10, 3) := by decide +kernel
theorem dX12_count_129 : decode cX12_count 129 = .ok (.getfield 38, 3) := by decide +kernel
theorem dX12_count_132 : decode cX12_count 132 = .ok (.invokevirtual 100, 3) := by decide +kernel
theorem dX12_count_135 : decode cX12_count 135 = .ok (.astore 9, 2) := by decide +kernel
theorem dX12_count_137 : decode cX12_count 137 = .ok (.aload 9, 2) := by decide +kernel
theorem dX12_count_139 : decode cX12_count 139 = .ok (.invokeinterface 104 1, 5) := by decide +kernel
theorem dX12_count_144 : decode cX12_count 144 = .ok (.ifCond .eq 53, 3) := by decide +kernel
theorem dX12_count_147 : decode cX12_count 147 = .ok (.aload 9, 2) := by decide +kernel
theorem dX12_count_149 : decode cX12_count 149 = .ok (.invokeinterface 110 1, 5) := by decide +kernel
theorem dX12_count_154 : decode cX12_count 154 = .ok (.checkcast 56, 3) := by decide +kernel
theorem dX12_count_157 : decode cX12_count 157 = .ok (.astore 10, 2) := by decide +kernel
theorem dX12_count_159 : decode cX12_count 159 = .ok (.iload 7, 2) := by decide +kernel
theorem dX12_count_161 : decode cX12_count 161 = .ok (.aload 10, 2) := by decide +kernel
theorem dX12_count_163 : decode cX12_count 163 = .ok (.getfield 221, 3) := by decide +kernel
theorem dX12_count_166 : decode cX12_count 166 = .ok (.iadd, 1) := by decide +kernel
theorem dX12_count_167 : decode cX12_count 167 = .ok (.istore 7, 2) := by decide +kernel
theorem dX12_count_169 : decode cX12_count 169 = .ok (.iload 8, 2) := by decide +kernel
theorem dX12_count_171 : decode cX12_count 171 = .ok (.aload_n 0, 1) := by decide +kernel
theorem dX12_count_172 : decode cX12_count 172 = .ok (.getfield 10, 3) := by decide +kernel
theorem dX12_count_175 : decode cX12_count 175 = .ok (.aload 10, 2) := by decide +kernel
theorem dX12_count_177 : decode cX12_count 177 = .ok (.invokevirtual 128, 3) := by decide +kernel
theorem dX12_count_180 : decode cX12_count 180 = .ok (.ifCond .lt 7, 3) := by decide +kernel
theorem dX12_count_183 : decode cX12_count 183 = .ok (.iconst 1, 1) := by decide +kernel
theorem dX12_count_184 : decode cX12_count 184 = .ok (.goto 4, 3) := by decide +kernel
theorem dX12_count_187 : decode cX12_count 187 = .ok (.iconst 0, 1) := by decide +kernel
theorem dX12_count_188 : decode cX12_count 188 = .ok (.invokestatic 170, 3) := by decide +kernel
theorem dX12_count_191 : decode cX12_count 191 = .ok (.iadd, 1) := by decide +kernel
theorem dX12_count_192 : decode cX12_count 192 = .ok (.istore 8, 2) := by decide +kernel
theorem dX12_count_194 : decode cX12_count 194 = .ok (.goto (-57), 3) := by decide +kernel
theorem dX12_count_197 : decode cX12_count 197 = .ok (.bipush 15, 2) := by decide +kernel
theorem dX12_count_199 : decode cX12_count 199 = .ok (.newarray .int, 2) := by decide +kernel
theorem dX12_count_201 : decode cX12_count 201 = .ok (.dup, 1) := by decide +kernel
theorem dX12_count_202 : decode cX12_count 202 = .ok (.iconst 0, 1) := by decide +kernel
theorem dX12_count_203 : decode cX12_count 203 = .ok (.aload_n 0, 1) := by decide +kernel
theorem dX12_count_204 : decode cX12_count 204 = .ok (.getfield 10, 3) := by decide +kernel
theorem dX12_count_207 : decode cX12_count 207 = .ok (.getfield 248, 3) := by decide +kernel
theorem dX12_count_210 : decode cX12_count 210 = .ok (.iastore, 1) := by decide +kernel
theorem dX12_count_211 : decode cX12_count 211 = .ok (.dup, 1) := by decide +kernel
theorem dX12_count_212 : decode cX12_count 212 = .ok (.iconst 1, 1) := by decide +kernel
theorem dX12_count_213 : decode cX12_count 213 = .ok (.aload_n 0, 1) := by decide +kernel
theorem dX12_count_214 : decode cX12_count 214 = .ok (.getfield 10, 3) := by decide +kernel
theorem dX12_count_217 : decode cX12_count 217 = .ok (.getfield 24, 3) := by decide +kernel
theorem dX12_count_220 : decode cX12_count 220 = .ok (.invokevirtual 28, 3) := by decide +kernel
theorem dX12_count_223 : decode cX12_count 223 = .ok (.iastore, 1) := by decide +kernel
theorem dX12_count_224 : decode cX12_count 224 = .ok (.dup, 1) := by decide +kernel
theorem dX12_count_225 : decode cX12_count 225 = .ok (.iconst 2, 1) := by decide +kernel
theorem dX12_count_226 : decode cX12_count 226 = .ok (.aload_n 0, 1) := by decide +kernel
theorem dX12_count_227 : decode cX12_count 227 = .ok (.getfield 10, 3) := by decide +kernel
theorem dX12_count_230 : decode cX12_count 230 = .ok (.getfield 38, 3) := by decide +kernel
theorem dX12_count_233 : decode cX12_count 233 = .ok (.invokevirtual 28, 3) := by decide +kernel
theorem dX12_count_236 : decode cX12_count 236 = .ok (.iastore, 1) := by decide +kernel
theorem dX12_count_237 : decode cX12_count 237 = .ok (.dup, 1) := by decide +kernel
theorem dX12_count_238 : decode cX12_count 238 = .ok (.iconst 3, 1) := by decide +kernel
theorem dX12_count_239 : decode cX12_count 239 = .ok (.aload_n 0, 1) := by decide +kernel
theorem dX12_count_240 : decode cX12_count 240 = .ok (.getfield 10, 3) := by decide +kernel
theorem dX12_count_243 : decode cX12_count 243 = .ok (.getfield 41, 3) := by decide +kernel
theorem dX12_count_246 : decode cX12_count 246 = .ok (.invokevirtual 28, 3) := by decide +kernel
theorem dX12_count_249 : decode cX12_count 249 = .ok (.iastore, 1) := by decide +kernel
theorem dX12_count_250 : decode cX12_count 250 = .ok (.dup, 1) := by decide +kernel
theorem dX12_count_251 : decode cX12_count 251 = .ok (.iconst 4, 1) := by decide +kernel
theorem dX12_count_252 : decode cX12_count 252 = .ok (.iload_n 2, 1) := by decide +kernel
theorem dX12_count_253 : decode cX12_count 253 = .ok (.iastore, 1) := by decide +kernel
theorem dX12_count_254 : decode cX12_count 254 = .ok (.dup, 1) := by decide +kernel
theorem dX12_count_255 : decode cX12_count 255 = .ok (.iconst 5, 1) := by decide +kernel
theorem dX12_count_256 : decode cX12_count 256 = .ok (.iload_n 3, 1) := by decide +kernel
theorem dX12_count_257 : decode cX12_count 257 = .ok (.iastore, 1) := by decide +kernel
theorem dX12_count_258 : decode cX12_count 258 = .ok (.dup, 1) := by decide +kernel
theorem dX12_count_259 : decode cX12_count 259 = .ok (.bipush 6, 2) := by decide +kernel
theorem dX12_count_261 : decode cX12_count 261 = .ok (.iload 4, 2) := by decide +kernel
theorem dX12_count_263 : decode cX12_count 263 = .ok (.iastore, 1) := by decide +kernel
theorem dX12_count_264 : decode cX12_count 264 = .ok (.dup, 1) := by decide +kernel
theorem dX12_count_265 : decode cX12_count 265 = .ok (.bipush 7, 2) := by decide +kernel
theorem dX12_count_267 : decode cX12_count 267 = .ok (.iload 5, 2) := by decide +kernel
theorem dX12_count_269 : decode cX12_count 269 = .ok (.iastore, 1) := by decide +kernel
theorem dX12_count_270 : decode cX12_count 270 = .ok (.dup, 1) := by decide +kernel
theorem dX12_count_271 : decode cX12_count 271 = .ok (.bipush 8, 2) := by decide +kernel
theorem dX12_count_273 : decode cX12_count 273 = .ok (.aload_n 0, 1) := by decide +kernel
theorem dX12_count_274 : decode cX12_count 274 = .ok (.getfield 132, 3) := by decide +kernel
theorem dX12_count_277 : decode cX12_count 277 = .ok (.iastore, 1) := by decide +kernel
theorem dX12_count_278 : decode cX12_count 278 = .ok (.dup, 1) := by decide +kernel
theorem dX12_count_279 : decode cX12_count 279 = .ok (.bipush 9, 2) := by decide +kernel
theorem dX12_count_281 : decode cX12_count 281 = .ok (.aload_n 0, 1) := by decide +kernel
theorem dX12_count_282 : decode cX12_count 282 = .ok (.getfield 174, 3) := by decide +kernel
theorem dX12_count_285 : decode cX12_count 285 = .ok (.iastore, 1) := by decide +kernel
theorem dX12_count_286 : decode cX12_count 286 = .ok (.dup, 1) := by decide +kernel
theorem dX12_count_287 : decode cX12_count 287 = .ok (.bipush 10, 2) := by decide +kernel
theorem dX12_count_289 : decode cX12_count 289 = .ok (.aload_n 0, 1) := by decide +kernel
theorem dX12_count_290 : decode cX12_count 290 = .ok (.getfield 10, 3) := by decide +kernel
theorem dX12_count_293 : decode cX12_count 293 = .ok (.getfield 162, 3) := by decide +kernel
theorem dX12_count_296 : decode cX12_count 296 = .ok (.invokevirtual 28, 3) := by decide +kernel
theorem dX12_count_299 : decode cX12_count 299 = .ok (.iastore, 1) := by decide +kernel
theorem dX12_count_300 : decode cX12_count 300 = .ok (.dup, 1) := by decide +kernel
theorem dX12_count_301 : decode cX12_count 301 = .ok (.bipush 11, 2) := by decide +kernel
theorem dX12_count_303 : decode cX12_count 303 = .ok (.iload 7, 2) := by decide +kernel
theorem dX12_count_305 : decode cX12_count 305 = .ok (.iastore, 1) := by decide +kernel
theorem dX12_count_306 : decode cX12_count 306 = .ok (.dup, 1) := by decide +kernel
theorem dX12_count_307 : decode cX12_count 307 = .ok (.bipush 12, 2) := by decide +kernel
theorem dX12_count_309 : decode cX12_count 309 = .ok (.iload 6, 2) := by decide +kernel
theorem dX12_count_311 : decode cX12_count 311 = .ok (.iastore, 1) := by decide +kernel
theorem dX12_count_312 : decode cX12_count 312 = .ok (.dup, 1) := by decide +kernel
theorem dX12_count_313 : decode cX12_count 313 = .ok (.bipush 13, 2) := by decide +kernel
theorem dX12_count_315 : decode cX12_count 315 = .ok (.iload 8, 2) := by decide +kernel
theorem dX12_count_317 : decode cX12_count 317 = .ok (.iastore, 1) := by decide +kernel
theorem dX12_count_318 : decode cX12_count 318 = .ok (.dup, 1) := by decide +kernel
theorem dX12_count_319 : decode cX12_count 319 = .ok (.bipush 14, 2) := by decide +kernel
theorem dX12_count_321 : decode cX12_count 321 = .ok (.aload_n 0, 1) := by decide +kernel
theorem dX12_count_322 : decode cX12_count 322 = .ok (.getfield 10, 3) := by decide +kernel
theorem dX12_count_325 : decode cX12_count 325 = .ok (.invokevirtual 251, 3) := by decide +kernel
theorem dX12_count_328 : decode cX12_count 328 = .ok (.iastore, 1) := by decide +kernel
theorem dX12_count_329 : decode cX12_count 329 = .ok (.astore 9, 2) := by decide +kernel
theorem dX12_count_331 : decode cX12_count 331 = .ok (.aload 9, 2) := by decide +kernel
theorem dX12_count_333 : decode cX12_count 333 = .ok (.iload_n 1, 1) := by decide +kernel
theorem dX12_count_334 : decode cX12_count 334 = .ok (.iaload, 1) := by decide +kernel
theorem dX12_count_335 : decode cX12_count 335 = .ok (.ireturn, 1) := by decide +kernel
theorem dX12_rowsFor_0 : decode cX12_rowsFor 0 = .ok (.bipush 100, 2) := by decide +kernel
theorem dX12_rowsFor_2 : decode cX12_rowsFor 2 = .ok (.anewarray 138, 3) := by decide +kernel
theorem dX12_rowsFor_5 : decode cX12_rowsFor 5 = .ok (.astore_n 2, 1) := by decide +kernel
theorem dX12_rowsFor_6 : decode cX12_rowsFor 6 = .ok (.iconst 0, 1) := by decide +kernel
theorem dX12_rowsFor_7 : decode cX12_rowsFor 7 = .ok (.istore_n 3, 1) := by decide +kernel
theorem dX12_rowsFor_8 : decode cX12_rowsFor 8 = .ok (.iload_n 3, 1) := by decide +kernel
theorem dX12_rowsFor_9 : decode cX12_rowsFor 9 = .ok (.bipush 100, 2) := by decide +kernel
theorem dX12_rowsFor_11 : decode cX12_rowsFor 11 = .ok (.if_icmp .ge 131, 3) := by decide +kernel
theorem dX12_rowsFor_14 : decode cX12_rowsFor 14 = .ok (.aload_n 0, 1) := by decide +kernel
theorem dX12_rowsFor_15 : decode cX12_rowsFor 15 = .ok (.getfield 10, 3) := by decide +kernel
theorem dX12_rowsFor_18 : decode cX12_rowsFor 18 = .ok (.getfield 24, 3) := by decide +kernel
theorem dX12_rowsFor_21 : decode cX12_rowsFor 21 = .ok (.invokevirtual 28, 3) := by decide +kernel
theorem dX12_rowsFor_24 : decode cX12_rowsFor 24 = .ok (.iconst 1, 1) := by decide +kernel
theorem dX12_rowsFor_25 : decode cX12_rowsFor 25 = .ok (.iadd, 1) := by decide +kernel
theorem dX12_rowsFor_26 : decode cX12_rowsFor 26 = .ok (.newarray .int, 2) := by decide +kernel
theorem dX12_rowsFor_28 : decode cX12_rowsFor 28 = .ok (.astore 4, 2) := by decide +kernel
theorem dX12_rowsFor_30 : decode cX12_rowsFor 30 = .ok (.iconst 0, 1) := by decide +kernel
theorem dX12_rowsFor_31 : decode cX12_rowsFor 31 = .ok (.istore 5, 2) := by decide +kernel
theorem dX12_rowsFor_33 : decode cX12_rowsFor 33 = .ok (.iload 5, 2) := by decide +kernel
theorem dX12_rowsFor_35 : decode cX12_rowsFor 35 = .ok (.aload_n 0, 1) := by decide +kernel
theorem dX12_rowsFor_36 : decode cX12_rowsFor 36 = .ok (.getfield 10, 3) := by decide +kernel
theorem dX12_rowsFor_39 : decode cX12_rowsFor 39 = .ok (.getfield 24, 3) := by decide +kernel
theorem dX12_rowsFor_42 : decode cX12_rowsFor 42 = .ok (.invokevirtual 28, 3) := by decide +kernel
theorem dX12_rowsFor_45 : decode cX12_rowsFor 45 = .ok (.if_icmp .ge 86, 3) := by decide +kernel
theorem dX12_rowsFor_48 : decode cX12_rowsFor 48 = .ok (.aload_n 0, 1) := by decide +kernel
theorem dX12_rowsFor_49 : decode cX12_rowsFor 49 = .ok (.getfield 10, 3) := by decide +kernel
theorem dX12_rowsFor_52 : decode cX12_rowsFor 52 = .ok (.getfield 24, 3) := by decide +kernel
theorem dX12_rowsFor_55 : decode cX12_rowsFor 55 = .ok (.iload 5, 2) := by decide +kernel
theorem dX12_rowsFor_57 : decode cX12_rowsFor 57 = .ok (.invokevirtual 65, 3) := by decide +kernel
theorem dX12_rowsFor_60 : decode cX12_rowsFor 60 = .ok (.checkcast 47, 3) := by decide +kernel
theorem dX12_rowsFor_63 : decode cX12_rowsFor 63 = .ok (.astore 6, 2) := by decide +kernel
theorem dX12_rowsFor_65 : decode cX12_rowsFor 65 = .ok (.aload 4, 2) := by decide +kernel
theorem dX12_rowsFor_67 : decode cX12_rowsFor 67 = .ok (.iload 5, 2) := by decide +kernel
theorem dX12_rowsFor_69 : decode cX12_rowsFor 69 = .ok (.aload_n 0, 1) := by decide +kernel
theorem dX12_rowsFor_70 : decode cX12_rowsFor 70 = .ok (.getfield 10, 3) := by decide +kernel
theorem dX12_rowsFor_73 : decode cX12_rowsFor 73 = .ok (.iload 5, 2) := by decide +kernel
theorem dX12_rowsFor_75 : decode cX12_rowsFor 75 = .ok (.iload_n 3, 1) := by decide +kernel
theorem dX12_rowsFor_76 : decode cX12_rowsFor 76 = .ok (.invokevirtual 189, 3) := by decide +kernel
theorem dX12_rowsFor_79 : decode cX12_rowsFor 79 = .ok (.iastore, 1) := by decide +kernel
theorem dX12_rowsFor_80 : decode cX12_rowsFor 80 = .ok (.aload 6, 2) := by decide +kernel
theorem dX12_rowsFor_82 : decode cX12_rowsFor 82 = .ok (.getfield 97, 3) := by decide +kernel
theorem dX12_rowsFor_85 : decode cX12_rowsFor 85 = .ok (.ifCond .eq 40, 3) := by decide +kernel
theorem dX12_rowsFor_88 : decode cX12_rowsFor 88 = .ok (.aload 6, 2) := by decide +kernel
theorem dX12_rowsFor_90 : decode cX12_rowsFor 90 = .ok (.getfield 202, 3) := by decide +kernel
theorem dX12_rowsFor_93 : decode cX12_rowsFor 93 = .ok (.iload_n 1, 1) := by decide +kernel
theorem dX12_rowsFor_94 : decode cX12_rowsFor 94 = .ok (.if_icmp .ne 31, 3) := by decide +kernel
theorem dX12_rowsFor_97 : decode cX12_rowsFor 97 = .ok (.aload 4, 2) := by decide +kernel
theorem dX12_rowsFor_99 : decode cX12_rowsFor 99 = .ok (.aload_n 0, 1) := by decide +kernel
theorem dX12_rowsFor_100 : decode cX12_rowsFor 100 = .ok (.getfield 10, 3) := by decide +kernel
theorem dX12_rowsFor_103 : decode cX12_rowsFor 103 = .ok (.getfield 24, 3) := by decide +kernel
theorem dX12_rowsFor_106 : decode cX12_rowsFor 106 = .ok (.invokevirtual 28, 3) := by decide +kernel
theorem dX12_rowsFor_109 : decode cX12_rowsFor 109 = .ok (.dup2, 1) := by decide +kernel
theorem dX12_rowsFor_110 : decode cX12_rowsFor 110 = .ok (.iaload, 1) := by decide +kernel
theorem dX12_rowsFor_111 : decode cX12_rowsFor 111 = .ok (.iconst 0, 1) := by decide +kernel
theorem dX12_rowsFor_112 : decode cX12_rowsFor 112 = .ok (.aload 6, 2) := by decide +kernel
theorem dX12_rowsFor_114 : decode cX12_rowsFor 114 = .ok (.iload_n 3, 1) := by decide +kernel
theorem dX12_rowsFor_115 : decode cX12_rowsFor 115 = .ok (.invokevirtual 267, 3) := by decide +kernel
theorem dX12_rowsFor_118 : decode cX12_rowsFor 118 = .ok (.invokestatic 270, 3) := by decide +kernel
theorem dX12_rowsFor_121 : decode cX12_rowsFor 121 = .ok (.iconst 3, 1) := by decide +kernel
theorem dX12_rowsFor_122 : decode cX12_rowsFor 122 = .ok (.idiv, 1) := by decide +kernel
theorem dX12_rowsFor_123 : decode cX12_rowsFor 123 = .ok (.iadd, 1) := by decide +kernel
theorem dX12_rowsFor_124 : decode cX12_rowsFor 124 = .ok (.iastore, 1) := by decide +kernel
theorem dX12_rowsFor_125 : decode cX12_rowsFor 125 = .ok (.iinc 5 1, 3) := by decide +kernel
theorem dX12_rowsFor_128 : decode cX12_rowsFor 128 = .ok (.goto (-95), 3) := by decide +kernel
theorem dX12_rowsFor_131 : decode cX12_rowsFor 131 = .ok (.aload_n 2, 1) := by decide +kernel
theorem dX12_rowsFor_132 : decode cX12_rowsFor 132 = .ok (.iload_n 3, 1) := by decide +kernel
theorem dX12_rowsFor_133 : decode cX12_rowsFor 133 = .ok (.aload 4, 2) := by decide +kernel
theorem dX12_rowsFor_135 : decode cX12_rowsFor 135 = .ok (.aastore, 1) := by decide +kernel
theorem dX12_rowsFor_136 : decode cX12_rowsFor 136 = .ok (.iinc 3 1, 3) := by decide +kernel
theorem dX12_rowsFor_139 : decode cX12_rowsFor 139 = .ok (.goto (-131), 3) := by decide +kernel
theorem dX12_rowsFor_142 : decode cX12_rowsFor 142 = .ok (.aload_n 2, 1) := by decide +kernel
theorem dX12_rowsFor_143 : decode cX12_rowsFor 143 = .ok (.areturn, 1) := by decide +kernel
theorem dX12_isCovered_0 : decode cX12_isCovered 0 = .ok (.aload_n 0, 1) := by decide +kernel
theorem dX12_isCovered_1 : decode cX12_isCovered 1 = .ok (.getfield 10, 3) := by decide +kernel
theorem dX12_isCovered_4 : decode cX12_isCovered 4 = .ok (.getfield 24, 3) := by decide +kernel
theorem dX12_isCovered_7 : decode cX12_isCovered 7 = .ok (.invokevirtual 28, 3) := by decide +kernel
theorem dX12_isCovered_10 : decode cX12_isCovered 10 = .ok (.istore 4, 2) := by decide +kernel
theorem dX12_isCovered_12 : decode cX12_isCovered 12 = .ok (.iload_n 2, 1) := by decide +kernel
theorem dX12_isCovered_13 : decode cX12_isCovered 13 = .ok (.aload_n 1, 1) := by decide +kernel
theorem dX12_isCovered_14 : decode cX12_isCovered 14 = .ok (.iload 4, 2) := by decide +kernel
theorem dX12_isCovered_16 : decode cX12_isCovered 16 = .ok (.iaload, 1) := by decide +kernel
theorem dX12_isCovered_17 : decode cX12_isCovered 17 = .ok (.isub, 1) := by decide +kernel
theorem dX12_isCovered_18 : decode cX12_isCovered 18 = .ok (.iconst 5, 1) := by decide +kernel
theorem dX12_isCovered_19 : decode cX12_isCovered 19 = .ok (.if_icmp .lt 5, 3) := by decide +kernel
theorem dX12_isCovered_22 : decode cX12_isCovered 22 = .ok (.iconst 1, 1) := by decide +kernel
theorem dX12_isCovered_23 : decode cX12_isCovered 23 = .ok (.ireturn, 1) := by decide +kernel
theorem dX12_isCovered_24 : decode cX12_isCovered 24 = .ok (.iconst 0, 1) := by decide +kernel
theorem dX12_isCovered_25 : decode cX12_isCovered 25 = .ok (.istore 5, 2) := by decide +kernel
theorem dX12_isCovered_27 : decode cX12_isCovered 27 = .ok (.iload 5, 2) := by decide +kernel
theorem dX12_isCovered_29 : decode cX12_isCovered 29 = .ok (.iload 4, 2) := by decide +kernel
theorem dX12_isCovered_31 : decode cX12_isCovered 31 = .ok (.if_icmp .ge 69, 3) := by decide +kernel
theorem dX12_isCovered_34 : decode cX12_isCovered 34 = .ok (.aload_n 0, 1) := by decide +kernel
theorem dX12_isCovered_35 : decode cX12_isCovered 35 = .ok (.getfield 10, 3) := by decide +kernel
theorem dX12_isCovered_38 : decode cX12_isCovered 38 = .ok (.getfield 24, 3) := by decide +kernel
theorem dX12_isCovered_41 : decode cX12_isCovered 41 = .ok (.iload 5, 2) := by decide +kernel
theorem dX12_isCovered_43 : decode cX12_isCovered 43 = .ok (.invokevirtual 65, 3) := by decide +kernel
theorem dX12_isCovered_46 : decode cX12_isCovered 46 = .ok (.checkcast 47, 3) := by decide +kernel
theorem dX12_isCovered_49 : decode cX12_isCovered 49 = .ok (.astore 6, 2) := by decide +kernel
theorem dX12_isCovered_51 : decode cX12_isCovered 51 = .ok (.aload 6, 2) := by decide +kernel
theorem dX12_isCovered_53 : decode cX12_isCovered 53 = .ok (.getfield 97, 3) := by decide +kernel
theorem dX12_isCovered_56 : decode cX12_isCovered 56 = .ok (.ifCond .eq 22, 3) := by decide +kernel
theorem dX12_isCovered_59 : decode cX12_isCovered 59 = .ok (.aload 6, 2) := by decide +kernel
theorem dX12_isCovered_61 : decode cX12_isCovered 61 = .ok (.getfield 202, 3) := by decide +kernel
theorem dX12_isCovered_64 : decode cX12_isCovered 64 = .ok (.iload_n 3, 1) := by decide +kernel
theorem dX12_isCovered_65 : decode cX12_isCovered 65 = .ok (.if_icmp .ne 13, 3) := by decide +kernel
theorem dX12_isCovered_68 : decode cX12_isCovered 68 = .ok (.iconst 0, 1) := by decide +kernel
theorem dX12_isCovered_69 : decode cX12_isCovered 69 = .ok (.iload_n 2, 1) := by decide +kernel
theorem dX12_isCovered_70 : decode cX12_isCovered 70 = .ok (.invokestatic 270, 3) := by decide +kernel
theorem dX12_isCovered_73 : decode cX12_isCovered 73 = .ok (.iconst 3, 1) := by decide +kernel
theorem dX12_isCovered_74 : decode cX12_isCovered 74 = .ok (.idiv, 1) := by decide +kernel
theorem dX12_isCovered_75 : decode cX12_isCovered 75 = .ok (.goto 4, 3) := by decide +kernel
theorem dX12_isCovered_78 : decode cX12_isCovered 78 = .ok (.iconst 0, 1) := by decide +kernel
theorem dX12_isCovered_79 : decode cX12_isCovered 79 = .ok (.istore 7, 2) := by decide +kernel
theorem dX12_isCovered_81 : decode cX12_isCovered 81 = .ok (.aload_n 1, 1) := by decide +kernel
theorem dX12_isCovered_82 : decode cX12_isCovered 82 = .ok (.iload 5, 2) := by decide +kernel
theorem dX12_isCovered_84 : decode cX12_isCovered 84 = .ok (.iaload, 1) := by decide +kernel
theorem dX12_isCovered_85 : decode cX12_isCovered 85 = .ok (.iload 7, 2) := by decide +kernel
theorem dX12_isCovered_87 : decode cX12_isCovered 87 = .ok (.isub, 1) := by decide +kernel
theorem dX12_isCovered_88 : decode cX12_isCovered 88 = .ok (.iconst 5, 1) := by decide +kernel
theorem dX12_isCovered_89 : decode cX12_isCovered 89 = .ok (.if_icmp .lt 5, 3) := by decide +kernel
theorem dX12_isCovered_92 : decode cX12_isCovered 92 = .ok (.iconst 1, 1) := by decide +kernel
theorem dX12_isCovered_93 : decode cX12_isCovered 93 = .ok (.ireturn, 1) := by decide +kernel
theorem dX12_isCovered_94 : decode cX12_isCovered 94 = .ok (.iinc 5 1, 3) := by decide +kernel
theorem dX12_isCovered_97 : decode cX12_isCovered 97 = .ok (.goto (-70), 3) := by decide +kernel
theorem dX12_isCovered_100 : decode cX12_isCovered 100 = .ok (.iconst 0, 1) := by decide +kernel
theorem dX12_isCovered_101 : decode cX12_isCovered 101 = .ok (.ireturn, 1) := by decide +kernel
theorem dX12_bestFor_0 : decode cX12_bestFor 0 = .ok (.aload_n 0, 1) := by decide +kernel
theorem dX12_bestFor_1 : decode cX12_bestFor 1 = .ok (.getfield 10, 3) := by decide +kernel
theorem dX12_bestFor_4 : decode cX12_bestFor 4 = .ok (.getfield 24, 3) := by decide +kernel
theorem dX12_bestFor_7 : decode cX12_bestFor 7 = .ok (.invokevirtual 28, 3) := by decide +kernel
theorem dX12_bestFor_10 : decode cX12_bestFor 10 = .ok (.bipush 6, 2) := by decide +kernel
theorem dX12_bestFor_12 : decode cX12_bestFor 12 = .ok (.if_icmp .ne 5, 3) := by decide +kernel
theorem dX12_bestFor_15 : decode cX12_bestFor 15 = .ok (.iconst (-1), 1) := by decide +kernel
theorem dX12_bestFor_16 : decode cX12_bestFor 16 = .ok (.ireturn, 1) := by decide +kernel
theorem dX12_bestFor_17 : decode cX12_bestFor 17 = .ok (.aload_n 0, 1) := by decide +kernel
theorem dX12_bestFor_18 : decode cX12_bestFor 18 = .ok (.iload_n 2, 1) := by decide +kernel
theorem dX12_bestFor_19 : decode cX12_bestFor 19 = .ok (.invokevirtual 275, 3) := by decide +kernel
theorem dX12_bestFor_22 : decode cX12_bestFor 22 = .ok (.astore_n 3, 1) := by decide +kernel
theorem dX12_bestFor_23 : decode cX12_bestFor 23 = .ok (.iconst (-1), 1) := by decide +kernel
theorem dX12_bestFor_24 : decode cX12_bestFor 24 = .ok (.istore 4, 2) := by decide +kernel
theorem dX12_bestFor_26 : decode cX12_bestFor 26 = .ok (.iconst (-1), 1) := by decide +kernel
theorem dX12_bestFor_27 : decode cX12_bestFor 27 = .ok (.istore 5, 2) := by decide +kernel
theorem dX12_bestFor_29 : decode cX12_bestFor 29 = .ok (.iconst 0, 1) := by decide +kernel
theorem dX12_bestFor_30 : decode cX12_bestFor 30 = .ok (.istore 6, 2) := by decide +kernel
theorem dX12_bestFor_32 : decode cX12_bestFor 32 = .ok (.iload 6, 2) := by decide +kernel
theorem dX12_bestFor_34 : decode cX12_bestFor 34 = .ok (.bipush 100, 2) := by decide +kernel
theorem dX12_bestFor_36 : decode cX12_bestFor 36 = .ok (.if_icmp .ge 73, 3) := by decide +kernel
theorem dX12_bestFor_39 : decode cX12_bestFor 39 = .ok (.iconst 0, 1) := by decide +kernel
theorem dX12_bestFor_40 : decode cX12_bestFor 40 = .ok (.istore 7, 2) := by decide +kernel
theorem dX12_bestFor_42 : decode cX12_bestFor 42 = .ok (.iconst 0, 1) := by decide +kernel
theorem dX12_bestFor_43 : decode cX12_bestFor 43 = .ok (.istore 8, 2) := by decide +kernel
theorem dX12_bestFor_45 : decode cX12_bestFor 45 = .ok (.iload 8, 2) := by decide +kernel
theorem dX12_bestFor_47 : decode cX12_bestFor 47 = .ok (.bipush 100, 2) := by decide +kernel
theorem dX12_bestFor_49 : decode cX12_bestFor 49 = .ok (.if_icmp .ge 36, 3) := by decide +kernel
theorem dX12_bestFor_52 : decode cX12_bestFor 52 = .ok (.iload 7, 2) := by decide +kernel
theorem dX12_bestFor_54 : decode cX12_bestFor 54 = .ok (.aload_n 0, 1) := by decide +kernel
theorem dX12_bestFor_55 : decode cX12_bestFor 55 = .ok (.aload_n 3, 1) := by decide +kernel
theorem dX12_bestFor_56 : decode cX12_bestFor 56 = .ok (.iload 8, 2) := by decide +kernel
theorem dX12_bestFor_58 : decode cX12_bestFor 58 = .ok (.aaload, 1) := by decide +kernel
theorem dX12_bestFor_59 : decode cX12_bestFor 59 = .ok (.iload_n 1, 1) := by decide +kernel
theorem dX12_bestFor_60 : decode cX12_bestFor 60 = .ok (.iload 6, 2) := by decide +kernel
theorem dX12_bestFor_62 : decode cX12_bestFor 62 = .ok (.iload 8, 2) := by decide +kernel
theorem dX12_bestFor_64 : decode cX12_bestFor 64 = .ok (.isub, 1) := by decide +kernel
theorem dX12_bestFor_65 : decode cX12_bestFor 65 = .ok (.invokestatic 279, 3) := by decide +kernel
theorem dX12_bestFor_68 : decode cX12_bestFor 68 = .ok (.isub, 1) := by decide +kernel
theorem dX12_bestFor_69 : decode cX12_bestFor 69 = .ok (.iload_n 2, 1) := by decide +kernel
theorem dX12_bestFor_70 : decode cX12_bestFor 70 = .ok (.invokevirtual 282, 3) := by decide +kernel
theorem dX12_bestFor_73 : decode cX12_bestFor 73 = .ok (.invokestatic 170, 3) := by decide +kernel
theorem dX12_bestFor_76 : decode cX12_bestFor 76 = .ok (.iadd, 1) := by decide +kernel
theorem dX12_bestFor_77 : decode cX12_bestFor 77 = .ok (.istore 7, 2) := by decide +kernel
theorem dX12_bestFor_79 : decode cX12_bestFor 79 = .ok (.iinc 8 1, 3) := by decide +kernel
theorem dX12_bestFor_82 : decode cX12_bestFor 82 = .ok (.goto (-37), 3) := by decide +kernel
theorem dX12_bestFor_85 : decode cX12_bestFor 85 = .ok (.iload 7, 2) := by decide +kernel
theorem dX12_bestFor_87 : decode cX12_bestFor 87 = .ok (.iload 5, 2) := by decide +kernel
theorem dX12_bestFor_89 : decode cX12_bestFor 89 = .ok (.if_icmp .gt 6, 3) := by decide +kernel
theorem dX12_bestFor_92 : decode cX12_bestFor 92 = .ok (.goto 11, 3) := by decide +kernel
theorem dX12_bestFor_95 : decode cX12_bestFor 95 = .ok (.iload 7, 2) := by decide +kernel
theorem dX12_bestFor_97 : decode cX12_bestFor 97 = .ok (.istore 5, 2) := by decide +kernel
theorem dX12_bestFor_99 : decode cX12_bestFor 99 = .ok (.iload 6, 2) := by decide +kernel
theorem dX12_bestFor_101 : decode cX12_bestFor 101 = .ok (.istore 4, 2) := by decide +kernel
theorem dX12_bestFor_103 : decode cX12_bestFor 103 = .ok (.iinc 6 1, 3) := by decide +kernel
theorem dX12_bestFor_106 : decode cX12_bestFor 106 = .ok (.goto (-74), 3) := by decide +kernel
theorem dX12_bestFor_109 : decode cX12_bestFor 109 = .ok (.iload 4, 2) := by decide +kernel
theorem dX12_bestFor_111 : decode cX12_bestFor 111 = .ok (.ireturn, 1) := by decide +kernel
theorem dX12_add_0 : decode cX12_add 0 = .ok (.lload_n 0, 1) := by decide +kernel
theorem dX12_add_1 : decode cX12_add 1 = .ok (.ldc2_w 289, 3) := by decide +kernel
theorem dX12_add_4 : decode cX12_add 4 = .ok (.lmul, 1) := by decide +kernel
theorem dX12_add_5 : decode cX12_add 5 = .ok (.lload_n 2, 1) := by decide +kernel
theorem dX12_add_6 : decode cX12_add 6 = .ok (.ladd, 1) := by decide +kernel
theorem dX12_add_7 : decode cX12_add 7 = .ok (.lreturn, 1) := by decide +kernel
theorem dX12_digest_0 : decode cX12_digest 0 = .ok (.aload_n 0, 1) := by decide +kernel
theorem dX12_digest_1 : decode cX12_digest 1 = .ok (.iconst 0, 1) := by decide +kernel
theorem dX12_digest_2 : decode cX12_digest 2 = .ok (.putfield 16, 3) := by decide +kernel
theorem dX12_digest_5 : decode cX12_digest 5 = .ok (.ldc2_w 291, 3) := by decide +kernel
theorem dX12_digest_8 : decode cX12_digest 8 = .ok (.lstore_n 1, 1) := by decide +kernel
theorem dX12_digest_9 : decode cX12_digest 9 = .ok (.iconst 0, 1) := by decide +kernel
theorem dX12_digest_10 : decode cX12_digest 10 = .ok (.istore_n 3, 1) := by decide +kernel
theorem dX12_digest_11 : decode cX12_digest 11 = .ok (.iload_n 3, 1) := by decide +kernel
theorem dX12_digest_12 : decode cX12_digest 12 = .ok (.bipush 15, 2) := by decide +kernel
theorem dX12_digest_14 : decode cX12_digest 14 = .ok (.if_icmp .ge 20, 3) := by decide +kernel
theorem dX12_digest_17 : decode cX12_digest 17 = .ok (.lload_n 1, 1) := by decide +kernel
theorem dX12_digest_18 : decode cX12_digest 18 = .ok (.aload_n 0, 1) := by decide +kernel
theorem dX12_digest_19 : decode cX12_digest 19 = .ok (.iload_n 3, 1) := by decide +kernel
theorem dX12_digest_20 : decode cX12_digest 20 = .ok (.invokevirtual 254, 3) := by decide +kernel
theorem dX12_digest_23 : decode cX12_digest 23 = .ok (.i2l, 1) := by decide +kernel
theorem dX12_digest_24 : decode cX12_digest 24 = .ok (.invokestatic 293, 3) := by decide +kernel
theorem dX12_digest_27 : decode cX12_digest 27 = .ok (.lstore_n 1, 1) := by decide +kernel
theorem dX12_digest_28 : decode cX12_digest 28 = .ok (.iinc 3 1, 3) := by decide +kernel
theorem dX12_digest_31 : decode cX12_digest 31 = .ok (.goto (-20), 3) := by decide +kernel
theorem dX12_digest_34 : decode cX12_digest 34 = .ok (.iconst 0, 1) := by decide +kernel
theorem dX12_digest_35 : decode cX12_digest 35 = .ok (.istore_n 3, 1) := by decide +kernel
theorem dX12_digest_36 : decode cX12_digest 36 = .ok (.iload_n 3, 1) := by decide +kernel
theorem dX12_digest_37 : decode cX12_digest 37 = .ok (.aload_n 0, 1) := by decide +kernel
theorem dX12_digest_38 : decode cX12_digest 38 = .ok (.getfield 10, 3) := by decide +kernel
theorem dX12_digest_41 : decode cX12_digest 41 = .ok (.getfield 24, 3) := by decide +kernel
theorem dX12_digest_44 : decode cX12_digest 44 = .ok (.invokevirtual 28, 3) := by decide +kernel
theorem dX12_digest_47 : decode cX12_digest 47 = .ok (.if_icmp .ge 67, 3) := by decide +kernel
theorem dX12_digest_50 : decode cX12_digest 50 = .ok (.iconst 0, 1) := by decide +kernel
theorem dX12_digest_51 : decode cX12_digest 51 = .ok (.istore 4, 2) := by decide +kernel
theorem dX12_digest_53 : decode cX12_digest 53 = .ok (.iload 4, 2) := by decide +kernel
theorem dX12_digest_55 : decode cX12_digest 55 = .ok (.bipush 10, 2) := by decide +kernel
theorem dX12_digest_57 : decode cX12_digest 57 = .ok (.if_icmp .ge 22, 3) := by decide +kernel
theorem dX12_digest_60 : decode cX12_digest 60 = .ok (.lload_n 1, 1) := by decide +kernel
theorem dX12_digest_61 : decode cX12_digest 61 = .ok (.aload_n 0, 1) := by decide +kernel
theorem dX12_digest_62 : decode cX12_digest 62 = .ok (.iload_n 3, 1) := by decide +kernel
theorem dX12_digest_63 : decode cX12_digest 63 = .ok (.iload 4, 2) := by decide +kernel
theorem dX12_digest_65 : decode cX12_digest 65 = .ok (.invokevirtual 214, 3) := by decide +kernel
theorem dX12_digest_68 : decode cX12_digest 68 = .ok (.i2l, 1) := by decide +kernel
theorem dX12_digest_69 : decode cX12_digest 69 = .ok (.invokestatic 293, 3) := by decide +kernel
theorem dX12_digest_72 : decode cX12_digest 72 = .ok (.lstore_n 1, 1) := by decide +kernel
theorem dX12_digest_73 : decode cX12_digest 73 = .ok (.iinc 4 1, 3) := by decide +kernel
theorem dX12_digest_76 : decode cX12_digest 76 = .ok (.goto (-23), 3) := by decide +kernel
theorem dX12_digest_79 : decode cX12_digest 79 = .ok (.lload_n 1, 1) := by decide +kernel
theorem dX12_digest_80 : decode cX12_digest 80 = .ok (.aload_n 0, 1) := by decide +kernel
theorem dX12_digest_81 : decode cX12_digest 81 = .ok (.getfield 10, 3) := by decide +kernel
theorem dX12_digest_84 : decode cX12_digest 84 = .ok (.iload_n 3, 1) := by decide +kernel
theorem dX12_digest_85 : decode cX12_digest 85 = .ok (.iconst 0, 1) := by decide +kernel
theorem dX12_digest_86 : decode cX12_digest 86 = .ok (.invokevirtual 189, 3) := by decide +kernel
theorem dX12_digest_89 : decode cX12_digest 89 = .ok (.i2l, 1) := by decide +kernel
theorem dX12_digest_90 : decode cX12_digest 90 = .ok (.invokestatic 293, 3) := by decide +kernel
theorem dX12_digest_93 : decode cX12_digest 93 = .ok (.aload_n 0, 1) := by decide +kernel
theorem dX12_digest_94 : decode cX12_digest 94 = .ok (.getfield 10, 3) := by decide +kernel
theorem dX12_digest_97 : decode cX12_digest 97 = .ok (.iload_n 3, 1) := by decide +kernel
theorem dX12_digest_98 : decode cX12_digest 98 = .ok (.bipush 50, 2) := by decide +kernel
theorem dX12_digest_100 : decode cX12_digest 100 = .ok (.invokevirtual 189, 3) := by decide +kernel
theorem dX12_digest_103 : decode cX12_digest 103 = .ok (.i2l, 1) := by decide +kernel
theorem dX12_digest_104 : decode cX12_digest 104 = .ok (.invokestatic 293, 3) := by decide +kernel
theorem dX12_digest_107 : decode cX12_digest 107 = .ok (.lstore_n 1, 1) := by decide +kernel
theorem dX12_digest_108 : decode cX12_digest 108 = .ok (.iinc 3 1, 3) := by decide +kernel
theorem dX12_digest_111 : decode cX12_digest 111 = .ok (.goto (-75), 3) := by decide +kernel
theorem dX12_digest_114 : decode cX12_digest 114 = .ok (.iconst 0, 1) := by decide +kernel
theorem dX12_digest_115 : decode cX12_digest 115 = .ok (.istore_n 3, 1) := by decide +kernel
theorem dX12_digest_116 : decode cX12_digest 116 = .ok (.iload_n 3, 1) := by decide +kernel
theorem dX12_digest_117 : decode cX12_digest 117 = .ok (.aload_n 0, 1) := by decide +kernel
theorem dX12_digest_118 : decode cX12_digest 118 = .ok (.getfield 10, 3) := by decide +kernel
theorem dX12_digest_121 : decode cX12_digest 121 = .ok (.getfield 38, 3) := by decide +kernel
theorem dX12_digest_124 : decode cX12_digest 124 = .ok (.invokevirtual 28, 3) := by decide +kernel
theorem dX12_digest_127 : decode cX12_digest 127 = .ok (.if_icmp .ge 51, 3) := by decide +kernel
theorem dX12_digest_130 : decode cX12_digest 130 = .ok (.iconst 0, 1) := by decide +kernel
theorem dX12_digest_131 : decode cX12_digest 131 = .ok (.istore 4, 2) := by decide +kernel
theorem dX12_digest_133 : decode cX12_digest 133 = .ok (.iload 4, 2) := by decide +kernel
theorem dX12_digest_135 : decode cX12_digest 135 = .ok (.bipush 11, 2) := by decide +kernel
theorem dX12_digest_137 : decode cX12_digest 137 = .ok (.if_icmp .ge 22, 3) := by decide +kernel
theorem dX12_digest_140 : decode cX12_digest 140 = .ok (.lload_n 1, 1) := by decide +kernel
theorem dX12_digest_141 : decode cX12_digest 141 = .ok (.aload_n 0, 1) := by decide +kernel
theorem dX12_digest_142 : decode cX12_digest 142 = .ok (.iload_n 3, 1) := by decide +kernel
theorem dX12_digest_143 : decode cX12_digest 143 = .ok (.iload 4, 2) := by decide +kernel
theorem dX12_digest_145 : decode cX12_digest 145 = .ok (.invokevirtual 227, 3) := by decide +kernel
theorem dX12_digest_148 : decode cX12_digest 148 = .ok (.i2l, 1) := by decide +kernel
theorem dX12_digest_149 : decode cX12_digest 149 = .ok (.invokestatic 293, 3) := by decide +kernel
theorem dX12_digest_152 : decode cX12_digest 152 = .ok (.lstore_n 1, 1) := by decide +kernel
theorem dX12_digest_153 : decode cX12_digest 153 = .ok (.iinc 4 1, 3) := by decide +kernel
theorem dX12_digest_156 : decode cX12_digest 156 = .ok (.goto (-23), 3) := by decide +kernel
theorem dX12_digest_159 : decode cX12_digest 159 = .ok (.lload_n 1, 1) := by decide +kernel
theorem dX12_digest_160 : decode cX12_digest 160 = .ok (.aload_n 0, 1) := by decide +kernel
theorem dX12_digest_161 : decode cX12_digest 161 = .ok (.iload_n 3, 1) := by decide +kernel
theorem dX12_digest_162 : decode cX12_digest 162 = .ok (.bipush 8, 2) := by decide +kernel
theorem dX12_digest_164 : decode cX12_digest 164 = .ok (.invokevirtual 264, 3) := by decide +kernel
theorem dX12_digest_167 : decode cX12_digest 167 = .ok (.i2l, 1) := by decide +kernel
theorem dX12_digest_168 : decode cX12_digest 168 = .ok (.invokestatic 293, 3) := by decide +kernel
theorem dX12_digest_171 : decode cX12_digest 171 = .ok (.lstore_n 1, 1) := by decide +kernel
theorem dX12_digest_172 : decode cX12_digest 172 = .ok (.iinc 3 1, 3) := by decide +kernel
theorem dX12_digest_175 : decode cX12_digest 175 = .ok (.goto (-59), 3) := by decide +kernel
theorem dX12_digest_178 : decode cX12_digest 178 = .ok (.iconst 0, 1) := by decide +kernel
theorem dX12_digest_179 : decode cX12_digest 179 = .ok (.istore_n 3, 1) := by decide +kernel
theorem dX12_digest_180 : decode cX12_digest 180 = .ok (.iload_n 3, 1) := by decide +kernel
theorem dX12_digest_181 : decode cX12_digest 181 = .ok (.aload_n 0, 1) := by decide +kernel
theorem dX12_digest_182 : decode cX12_digest 182 = .ok (.getfield 10, 3) := by decide +kernel
theorem dX12_digest_185 : decode cX12_digest 185 = .ok (.getfield 41, 3) := by decide +kernel
theorem dX12_digest_188 : decode cX12_digest 188 = .ok (.invokevirtual 28, 3) := by decide +kernel
theorem dX12_digest_191 : decode cX12_digest 191 = .ok (.if_icmp .ge 63, 3) := by decide +kernel
theorem dX12_digest_194 : decode cX12_digest 194 = .ok (.iconst 0, 1) := by decide +kernel
theorem dX12_digest_195 : decode cX12_digest 195 = .ok (.istore 4, 2) := by decide +kernel
theorem dX12_digest_197 : decode cX12_digest 197 = .ok (.iload 4, 2) := by decide +kernel
theorem dX12_digest_199 : decode cX12_digest 199 = .ok (.bipush 9, 2) := by decide +kernel
theorem dX12_digest_201 : decode cX12_digest 201 = .ok (.if_icmp .ge 34, 3) := by decide +kernel
theorem dX12_digest_204 : decode cX12_digest 204 = .ok (.lload_n 1, 1) := by decide +kernel
theorem dX12_digest_205 : decode cX12_digest 205 = .ok (.aload_n 0, 1) := by decide +kernel
theorem dX12_digest_206 : decode cX12_digest 206 = .ok (.getfield 10, 3) := by decide +kernel
theorem dX12_digest_209 : decode cX12_digest 209 = .ok (.getfield 41, 3) := by decide +kernel
theorem dX12_digest_212 : decode cX12_digest 212 = .ok (.iload_n 3, 1) := by decide +kernel
theorem dX12_digest_213 : decode cX12_digest 213 = .ok (.invokevirtual 65, 3) := by decide +kernel
theorem dX12_digest_216 : decode cX12_digest 216 = .ok (.checkcast 82, 3) := by decide +kernel
theorem dX12_digest_219 : decode cX12_digest 219 = .ok (.iload 4, 2) := by decide +kernel
theorem dX12_digest_221 : decode cX12_digest 221 = .ok (.invokestatic 245, 3) := by decide +kernel
theorem dX12_digest_224 : decode cX12_digest 224 = .ok (.i2l, 1) := by decide +kernel
theorem dX12_digest_225 : decode cX12_digest 225 = .ok (.invokestatic 293, 3) := by decide +kernel
theorem dX12_digest_228 : decode cX12_digest 228 = .ok (.lstore_n 1, 1) := by decide +kernel
theorem dX12_digest_229 : decode cX12_digest 229 = .ok (.iinc 4 1, 3) := by decide +kernel
theorem dX12_digest_232 : decode cX12_digest 232 = .ok (.goto (-35), 3) := by decide +kernel
theorem dX12_digest_235 : decode cX12_digest 235 = .ok (.lload_n 1, 1) := by decide +kernel
theorem dX12_digest_236 : decode cX12_digest 236 = .ok (.aload_n 0, 1) := by decide +kernel
theorem dX12_digest_237 : decode cX12_digest 237 = .ok (.iload_n 3, 1) := by decide +kernel
theorem dX12_digest_238 : decode cX12_digest 238 = .ok (.bipush 20, 2) := by decide +kernel
theorem dX12_digest_240 : decode cX12_digest 240 = .ok (.invokevirtual 261, 3) := by decide +kernel
theorem dX12_digest_243 : decode cX12_digest 243 = .ok (.i2l, 1) := by decide +kernel
theorem dX12_digest_244 : decode cX12_digest 244 = .ok (.invokestatic 293, 3) := by decide +kernel
theorem dX12_digest_247 : decode cX12_digest 247 = .ok (.lstore_n 1, 1) := by decide +kernel
theorem dX12_digest_248 : decode cX12_digest 248 = .ok (.iinc 3 1, 3) := by decide +kernel
theorem dX12_digest_251 : decode cX12_digest 251 = .ok (.goto (-71), 3) := by decide +kernel
theorem dX12_digest_254 : decode cX12_digest 254 = .ok (.lload_n 1, 1) := by decide +kernel
theorem dX12_digest_255 : decode cX12_digest 255 = .ok (.aload_n 0, 1) := by decide +kernel
theorem dX12_digest_256 : decode cX12_digest 256 = .ok (.getfield 10, 3) := by decide +kernel
theorem dX12_digest_259 : decode cX12_digest 259 = .ok (.bipush 33, 2) := by decide +kernel
theorem dX12_digest_261 : decode cX12_digest 261 = .ok (.invokevirtual 193, 3) := by decide +kernel
theorem dX12_digest_264 : decode cX12_digest 264 = .ok (.i2l, 1) := by decide +kernel
theorem dX12_digest_265 : decode cX12_digest 265 = .ok (.invokestatic 293, 3) := by decide +kernel
theorem dX12_digest_268 : decode cX12_digest 268 = .ok (.aload_n 0, 1) := by decide +kernel
theorem dX12_digest_269 : decode cX12_digest 269 = .ok (.getfield 10, 3) := by decide +kernel
theorem dX12_digest_272 : decode cX12_digest 272 = .ok (.bipush 66, 2) := by decide +kernel
theorem dX12_digest_274 : decode cX12_digest 274 = .ok (.invokevirtual 193, 3) := by decide +kernel
theorem dX12_digest_277 : decode cX12_digest 277 = .ok (.i2l, 1) := by decide +kernel
theorem dX12_digest_278 : decode cX12_digest 278 = .ok (.invokestatic 293, 3) := by decide +kernel
theorem dX12_digest_281 : decode cX12_digest 281 = .ok (.aload_n 0, 1) := by decide +kernel
theorem dX12_digest_282 : decode cX12_digest 282 = .ok (.bipush 30, 2) := by decide +kernel
theorem dX12_digest_284 : decode cX12_digest 284 = .ok (.iconst 1, 1) := by decide +kernel
theorem dX12_digest_285 : decode cX12_digest 285 = .ok (.invokevirtual 286, 3) := by decide +kernel
theorem dX12_digest_288 : decode cX12_digest 288 = .ok (.i2l, 1) := by decide +kernel
theorem dX12_digest_289 : decode cX12_digest 289 = .ok (.invokestatic 293, 3) := by decide +kernel
theorem dX12_digest_292 : decode cX12_digest 292 = .ok (.lreturn, 1) := by decide +kernel
theorem dJxa1e45_init_da8c8_0 : decode cJxa1e45_init_da8c8 0 = .ok (.aload_n 0, 1) := by decide +kernel
theorem dJxa1e45_init_da8c8_1 : decode cJxa1e45_init_da8c8 1 = .ok (.invokespecial 1, 3) := by decide +kernel
theorem dJxa1e45_init_da8c8_4 : decode cJxa1e45_init_da8c8 4 = .ok (.return_, 1) := by decide +kernel
theorem dJxc12de_init_da8c8_0 : decode cJxc12de_init_da8c8 0 = .ok (.aload_n 0, 1) := by decide +kernel
theorem dJxc12de_init_da8c8_1 : decode cJxc12de_init_da8c8 1 = .ok (.invokespecial 1, 3) := by decide +kernel
theorem dJxc12de_init_da8c8_4 : decode cJxc12de_init_da8c8 4 = .ok (.aload_n 0, 1) := by decide +kernel
theorem dJxc12de_init_da8c8_5 : decode cJxc12de_init_da8c8 5 = .ok (.iconst 0, 1) := by decide +kernel
theorem dJxc12de_init_da8c8_6 : decode cJxc12de_init_da8c8 6 = .ok (.putfield 7, 3) := by decide +kernel
theorem dJxc12de_init_da8c8_9 : decode cJxc12de_init_da8c8 9 = .ok (.return_, 1) := by decide +kernel
theorem dJx35411_init_45d68_0 : decode cJx35411_init_45d68 0 = .ok (.aload_n 0, 1) := by decide +kernel
theorem dJx35411_init_45d68_1 : decode cJx35411_init_45d68 1 = .ok (.aload_n 1, 1) := by decide +kernel
theorem dJx35411_init_45d68_2 : decode cJx35411_init_45d68 2 = .ok (.putfield 1, 3) := by decide +kernel
theorem dJx35411_init_45d68_5 : decode cJx35411_init_45d68 5 = .ok (.aload_n 0, 1) := by decide +kernel
theorem dJx35411_init_45d68_6 : decode cJx35411_init_45d68 6 = .ok (.invokespecial 7, 3) := by decide +kernel
theorem dJx35411_init_45d68_9 : decode cJx35411_init_45d68 9 = .ok (.aload_n 0, 1) := by decide +kernel
theorem dJx35411_init_45d68_10 : decode cJx35411_init_45d68 10 = .ok (.iconst (-1), 1) := by decide +kernel
theorem dJx35411_init_45d68_11 : decode cJx35411_init_45d68 11 = .ok (.putfield 13, 3) := by decide +kernel
theorem dJx35411_init_45d68_14 : decode cJx35411_init_45d68 14 = .ok (.aload_n 0, 1) := by decide +kernel
theorem dJx35411_init_45d68_15 : decode cJx35411_init_45d68 15 = .ok (.aload_n 0, 1) := by decide +kernel
theorem dJx35411_init_45d68_16 : decode cJx35411_init_45d68 16 = .ok (.getfield 1, 3) := by decide +kernel
theorem dJx35411_init_45d68_19 : decode cJx35411_init_45d68 19 = .ok (.getfield 17, 3) := by decide +kernel
theorem dJx35411_init_45d68_22 : decode cJx35411_init_45d68 22 = .ok (.putfield 22, 3) := by decide +kernel
theorem dJx35411_init_45d68_25 : decode cJx35411_init_45d68 25 = .ok (.return_, 1) := by decide +kernel
theorem dJx35411_hasNext_aae02_0 : decode cJx35411_hasNext_aae02 0 = .ok (.aload_n 0, 1) := by decide +kernel
theorem dJx35411_hasNext_aae02_1 : decode cJx35411_hasNext_aae02 1 = .ok (.getfield 25, 3) := by decide +kernel
theorem dJx35411_hasNext_aae02_4 : decode cJx35411_hasNext_aae02 4 = .ok (.aload_n 0, 1) := by decide +kernel
theorem dJx35411_hasNext_aae02_5 : decode cJx35411_hasNext_aae02 5 = .ok (.getfield 1, 3) := by decide +kernel
theorem dJx35411_hasNext_aae02_8 : decode cJx35411_hasNext_aae02 8 = .ok (.getfield 28, 3) := by decide +kernel
theorem dJx35411_hasNext_aae02_11 : decode cJx35411_hasNext_aae02 11 = .ok (.if_icmp .eq 7, 3) := by decide +kernel
theorem dJx35411_hasNext_aae02_14 : decode cJx35411_hasNext_aae02 14 = .ok (.iconst 1, 1) := by decide +kernel
theorem dJx35411_hasNext_aae02_15 : decode cJx35411_hasNext_aae02 15 = .ok (.goto 4, 3) := by decide +kernel
theorem dJx35411_hasNext_aae02_18 : decode cJx35411_hasNext_aae02 18 = .ok (.iconst 0, 1) := by decide +kernel
theorem dJx35411_hasNext_aae02_19 : decode cJx35411_hasNext_aae02 19 = .ok (.ireturn, 1) := by decide +kernel
theorem dJx35411_next_0502b_0 : decode cJx35411_next_0502b 0 = .ok (.aload_n 0, 1) := by decide +kernel
theorem dJx35411_next_0502b_1 : decode cJx35411_next_0502b 1 = .ok (.invokevirtual 31, 3) := by decide +kernel
theorem dJx35411_next_0502b_4 : decode cJx35411_next_0502b 4 = .ok (.aload_n 0, 1) := by decide +kernel
theorem dJx35411_next_0502b_5 : decode cJx35411_next_0502b 5 = .ok (.getfield 25, 3) := by decide +kernel
theorem dJx35411_next_0502b_8 : decode cJx35411_next_0502b 8 = .ok (.istore_n 1, 1) := by decide +kernel
theorem dJx35411_next_0502b_9 : decode cJx35411_next_0502b 9 = .ok (.iload_n 1, 1) := by decide +kernel
theorem dJx35411_next_0502b_10 : decode cJx35411_next_0502b 10 = .ok (.aload_n 0, 1) := by decide +kernel
theorem dJx35411_next_0502b_11 : decode cJx35411_next_0502b 11 = .ok (.getfield 1, 3) := by decide +kernel
theorem dJx35411_next_0502b_14 : decode cJx35411_next_0502b 14 = .ok (.getfield 28, 3) := by decide +kernel
theorem dJx35411_next_0502b_17 : decode cJx35411_next_0502b 17 = .ok (.if_icmp .lt 11, 3) := by decide +kernel
theorem dJx35411_next_0502b_20 : decode cJx35411_next_0502b 20 = .ok (.new 34, 3) := by decide +kernel
theorem dJx35411_next_0502b_23 : decode cJx35411_next_0502b 23 = .ok (.dup, 1) := by decide +kernel
theorem dJx35411_next_0502b_24 : decode cJx35411_next_0502b 24 = .ok (.invokespecial 36, 3) := by decide +kernel
theorem dJx35411_next_0502b_27 : decode cJx35411_next_0502b 27 = .ok (.athrow, 1) := by decide +kernel
theorem dJx35411_next_0502b_28 : decode cJx35411_next_0502b 28 = .ok (.aload_n 0, 1) := by decide +kernel
theorem dJx35411_next_0502b_29 : decode cJx35411_next_0502b 29 = .ok (.getfield 1, 3) := by decide +kernel
theorem dJx35411_next_0502b_32 : decode cJx35411_next_0502b 32 = .ok (.getfield 37, 3) := by decide +kernel
theorem dJx35411_next_0502b_35 : decode cJx35411_next_0502b 35 = .ok (.astore_n 2, 1) := by decide +kernel
theorem dJx35411_next_0502b_36 : decode cJx35411_next_0502b 36 = .ok (.iload_n 1, 1) := by decide +kernel
theorem dJx35411_next_0502b_37 : decode cJx35411_next_0502b 37 = .ok (.aload_n 2, 1) := by decide +kernel
theorem dJx35411_next_0502b_38 : decode cJx35411_next_0502b 38 = .ok (.arraylength, 1) := by decide +kernel
theorem dJx35411_next_0502b_39 : decode cJx35411_next_0502b 39 = .ok (.if_icmp .lt 11, 3) := by decide +kernel
theorem dJx35411_next_0502b_42 : decode cJx35411_next_0502b 42 = .ok (.new 41, 3) := by decide +kernel
theorem dJx35411_next_0502b_45 : decode cJx35411_next_0502b 45 = .ok (.dup, 1) := by decide +kernel
theorem dJx35411_next_0502b_46 : decode cJx35411_next_0502b 46 = .ok (.invokespecial 43, 3) := by decide +kernel
theorem dJx35411_next_0502b_49 : decode cJx35411_next_0502b 49 = .ok (.athrow, 1) := by decide +kernel
theorem dJx35411_next_0502b_50 : decode cJx35411_next_0502b 50 = .ok (.aload_n 0, 1) := by decide +kernel
theorem dJx35411_next_0502b_51 : decode cJx35411_next_0502b 51 = .ok (.iload_n 1, 1) := by decide +kernel
theorem dJx35411_next_0502b_52 : decode cJx35411_next_0502b 52 = .ok (.iconst 1, 1) := by decide +kernel
theorem dJx35411_next_0502b_53 : decode cJx35411_next_0502b 53 = .ok (.iadd, 1) := by decide +kernel
theorem dJx35411_next_0502b_54 : decode cJx35411_next_0502b 54 = .ok (.putfield 25, 3) := by decide +kernel
theorem dJx35411_next_0502b_57 : decode cJx35411_next_0502b 57 = .ok (.aload_n 2, 1) := by decide +kernel
theorem dJx35411_next_0502b_58 : decode cJx35411_next_0502b 58 = .ok (.aload_n 0, 1) := by decide +kernel
theorem dJx35411_next_0502b_59 : decode cJx35411_next_0502b 59 = .ok (.iload_n 1, 1) := by decide +kernel
theorem dJx35411_next_0502b_60 : decode cJx35411_next_0502b 60 = .ok (.dup_x1, 1) := by decide +kernel
theorem dJx35411_next_0502b_61 : decode cJx35411_next_0502b 61 = .ok (.putfield 13, 3) := by decide +kernel
theorem dJx35411_next_0502b_64 : decode cJx35411_next_0502b 64 = .ok (.aaload, 1) := by decide +kernel
theorem dJx35411_next_0502b_65 : decode cJx35411_next_0502b 65 = .ok (.areturn, 1) := by decide +kernel
theorem dJx35411_checkForComodification_da8c8_0 : decode cJx35411_checkForComodification_da8c8 0 = .ok (.aload_n 0, 1) := by decide +kernel
theorem dJx35411_checkForComodification_da8c8_1 : decode cJx35411_checkForComodification_da8c8 1 = .ok (.getfield 1, 3) := by decide +kernel
theorem dJx35411_checkForComodification_da8c8_4 : decode cJx35411_checkForComodification_da8c8 4 = .ok (.getfield 17, 3) := by decide +kernel
theorem dJx35411_checkForComodification_da8c8_7 : decode cJx35411_checkForComodification_da8c8 7 = .ok (.aload_n 0, 1) := by decide +kernel
theorem dJx35411_checkForComodification_da8c8_8 : decode cJx35411_checkForComodification_da8c8 8 = .ok (.getfield 22, 3) := by decide +kernel
theorem dJx35411_checkForComodification_da8c8_11 : decode cJx35411_checkForComodification_da8c8 11 = .ok (.if_icmp .eq 11, 3) := by decide +kernel
theorem dJx35411_checkForComodification_da8c8_14 : decode cJx35411_checkForComodification_da8c8 14 = .ok (.new 41, 3) := by decide +kernel
theorem dJx35411_checkForComodification_da8c8_17 : decode cJx35411_checkForComodification_da8c8 17 = .ok (.dup, 1) := by decide +kernel
theorem dJx35411_checkForComodification_da8c8_18 : decode cJx35411_checkForComodification_da8c8 18 = .ok (.invokespecial 43, 3) := by decide +kernel
theorem dJx35411_checkForComodification_da8c8_21 : decode cJx35411_checkForComodification_da8c8 21 = .ok (.athrow, 1) := by decide +kernel
theorem dJx35411_checkForComodification_da8c8_22 : decode cJx35411_checkForComodification_da8c8 22 = .ok (.return_, 1) := by decide +kernel
theorem dJx4a65c_init_da8c8_0 : decode cJx4a65c_init_da8c8 0 = .ok (.aload_n 0, 1) := by decide +kernel
theorem dJx4a65c_init_da8c8_1 : decode cJx4a65c_init_da8c8 1 = .ok (.invokespecial 1, 3) := by decide +kernel
theorem dJx4a65c_init_da8c8_4 : decode cJx4a65c_init_da8c8 4 = .ok (.aload_n 0, 1) := by decide +kernel
theorem dJx4a65c_init_da8c8_5 : decode cJx4a65c_init_da8c8 5 = .ok (.getstatic 39, 3) := by decide +kernel
theorem dJx4a65c_init_da8c8_8 : decode cJx4a65c_init_da8c8 8 = .ok (.putfield 9, 3) := by decide +kernel
theorem dJx4a65c_init_da8c8_11 : decode cJx4a65c_init_da8c8 11 = .ok (.return_, 1) := by decide +kernel
theorem dJx4a65c_grow_92f84_0 : decode cJx4a65c_grow_92f84 0 = .ok (.aload_n 0, 1) := by decide +kernel
theorem dJx4a65c_grow_92f84_1 : decode cJx4a65c_grow_92f84 1 = .ok (.getfield 9, 3) := by decide +kernel
theorem dJx4a65c_grow_92f84_4 : decode cJx4a65c_grow_92f84 4 = .ok (.arraylength, 1) := by decide +kernel
theorem dJx4a65c_grow_92f84_5 : decode cJx4a65c_grow_92f84 5 = .ok (.istore_n 2, 1) := by decide +kernel
theorem dJx4a65c_grow_92f84_6 : decode cJx4a65c_grow_92f84 6 = .ok (.iload_n 2, 1) := by decide +kernel
theorem dJx4a65c_grow_92f84_7 : decode cJx4a65c_grow_92f84 7 = .ok (.ifCond .gt 13, 3) := by decide +kernel
theorem dJx4a65c_grow_92f84_10 : decode cJx4a65c_grow_92f84 10 = .ok (.aload_n 0, 1) := by decide +kernel
theorem dJx4a65c_grow_92f84_11 : decode cJx4a65c_grow_92f84 11 = .ok (.getfield 9, 3) := by decide +kernel
theorem dJx4a65c_grow_92f84_14 : decode cJx4a65c_grow_92f84 14 = .ok (.getstatic 39, 3) := by decide +kernel
theorem dJx4a65c_grow_92f84_17 : decode cJx4a65c_grow_92f84 17 = .ok (.if_acmp .eq 28, 3) := by decide +kernel
theorem dJx4a65c_grow_92f84_20 : decode cJx4a65c_grow_92f84 20 = .ok (.iload_n 2, 1) := by decide +kernel
theorem dJx4a65c_grow_92f84_21 : decode cJx4a65c_grow_92f84 21 = .ok (.iload_n 1, 1) := by decide +kernel
theorem dJx4a65c_grow_92f84_22 : decode cJx4a65c_grow_92f84 22 = .ok (.iload_n 2, 1) := by decide +kernel
theorem dJx4a65c_grow_92f84_23 : decode cJx4a65c_grow_92f84 23 = .ok (.isub, 1) := by decide +kernel
theorem dJx4a65c_grow_92f84_24 : decode cJx4a65c_grow_92f84 24 = .ok (.iload_n 2, 1) := by decide +kernel
theorem dJx4a65c_grow_92f84_25 : decode cJx4a65c_grow_92f84 25 = .ok (.iconst 1, 1) := by decide +kernel
theorem dJx4a65c_grow_92f84_26 : decode cJx4a65c_grow_92f84 26 = .ok (.ishr, 1) := by decide +kernel
theorem dJx4a65c_grow_92f84_27 : decode cJx4a65c_grow_92f84 27 = .ok (.invokestatic 73, 3) := by decide +kernel
theorem dJx4a65c_grow_92f84_30 : decode cJx4a65c_grow_92f84 30 = .ok (.istore_n 3, 1) := by decide +kernel
theorem dJx4a65c_grow_92f84_31 : decode cJx4a65c_grow_92f84 31 = .ok (.aload_n 0, 1) := by decide +kernel
theorem dJx4a65c_grow_92f84_32 : decode cJx4a65c_grow_92f84 32 = .ok (.aload_n 0, 1) := by decide +kernel
theorem dJx4a65c_grow_92f84_33 : decode cJx4a65c_grow_92f84 33 = .ok (.getfield 9, 3) := by decide +kernel
theorem dJx4a65c_grow_92f84_36 : decode cJx4a65c_grow_92f84 36 = .ok (.iload_n 3, 1) := by decide +kernel
theorem dJx4a65c_grow_92f84_37 : decode cJx4a65c_grow_92f84 37 = .ok (.invokestatic 66, 3) := by decide +kernel
theorem dJx4a65c_grow_92f84_40 : decode cJx4a65c_grow_92f84 40 = .ok (.dup_x1, 1) := by decide +kernel
theorem dJx4a65c_grow_92f84_41 : decode cJx4a65c_grow_92f84 41 = .ok (.putfield 9, 3) := by decide +kernel
theorem dJx4a65c_grow_92f84_44 : decode cJx4a65c_grow_92f84 44 = .ok (.areturn, 1) := by decide +kernel
theorem dJx4a65c_grow_92f84_45 : decode cJx4a65c_grow_92f84 45 = .ok (.aload_n 0, 1) := by decide +kernel
theorem dJx4a65c_grow_92f84_46 : decode cJx4a65c_grow_92f84 46 = .ok (.bipush 10, 2) := by decide +kernel
theorem dJx4a65c_grow_92f84_48 : decode cJx4a65c_grow_92f84 48 = .ok (.iload_n 1, 1) := by decide +kernel
theorem dJx4a65c_grow_92f84_49 : decode cJx4a65c_grow_92f84 49 = .ok (.invokestatic 79, 3) := by decide +kernel
theorem dJx4a65c_grow_92f84_52 : decode cJx4a65c_grow_92f84 52 = .ok (.anewarray 7, 3) := by decide +kernel
theorem dJx4a65c_grow_92f84_55 : decode cJx4a65c_grow_92f84 55 = .ok (.dup_x1, 1) := by decide +kernel
theorem dJx4a65c_grow_92f84_56 : decode cJx4a65c_grow_92f84 56 = .ok (.putfield 9, 3) := by decide +kernel
theorem dJx4a65c_grow_92f84_59 : decode cJx4a65c_grow_92f84 59 = .ok (.areturn, 1) := by decide +kernel
theorem dJx4a65c_grow_d5877_0 : decode cJx4a65c_grow_d5877 0 = .ok (.aload_n 0, 1) := by decide +kernel
theorem dJx4a65c_grow_d5877_1 : decode cJx4a65c_grow_d5877 1 = .ok (.aload_n 0, 1) := by decide +kernel
theorem dJx4a65c_grow_d5877_2 : decode cJx4a65c_grow_d5877 2 = .ok (.getfield 48, 3) := by decide +kernel
theorem dJx4a65c_grow_d5877_5 : decode cJx4a65c_grow_d5877 5 = .ok (.iconst 1, 1) := by decide +kernel
theorem dJx4a65c_grow_d5877_6 : decode cJx4a65c_grow_d5877 6 = .ok (.iadd, 1) := by decide +kernel
theorem dJx4a65c_grow_d5877_7 : decode cJx4a65c_grow_d5877 7 = .ok (.invokevirtual 69, 3) := by decide +kernel
theorem dJx4a65c_grow_d5877_10 : decode cJx4a65c_grow_d5877 10 = .ok (.areturn, 1) := by decide +kernel
theorem dJx4a65c_size_8abf5_0 : decode cJx4a65c_size_8abf5 0 = .ok (.aload_n 0, 1) := by decide +kernel
theorem dJx4a65c_size_8abf5_1 : decode cJx4a65c_size_8abf5 1 = .ok (.getfield 48, 3) := by decide +kernel
theorem dJx4a65c_size_8abf5_4 : decode cJx4a65c_size_8abf5 4 = .ok (.ireturn, 1) := by decide +kernel
theorem dJx4a65c_elementData_915e3_0 : decode cJx4a65c_elementData_915e3 0 = .ok (.aload_n 0, 1) := by decide +kernel
theorem dJx4a65c_elementData_915e3_1 : decode cJx4a65c_elementData_915e3 1 = .ok (.getfield 9, 3) := by decide +kernel
theorem dJx4a65c_elementData_915e3_4 : decode cJx4a65c_elementData_915e3 4 = .ok (.iload_n 1, 1) := by decide +kernel
theorem dJx4a65c_elementData_915e3_5 : decode cJx4a65c_elementData_915e3 5 = .ok (.aaload, 1) := by decide +kernel
theorem dJx4a65c_elementData_915e3_6 : decode cJx4a65c_elementData_915e3 6 = .ok (.areturn, 1) := by decide +kernel
theorem dJx4a65c_get_915e3_0 : decode cJx4a65c_get_915e3 0 = .ok (.iload_n 1, 1) := by decide +kernel
theorem dJx4a65c_get_915e3_1 : decode cJx4a65c_get_915e3 1 = .ok (.aload_n 0, 1) := by decide +kernel
theorem dJx4a65c_get_915e3_2 : decode cJx4a65c_get_915e3 2 = .ok (.getfield 48, 3) := by decide +kernel
theorem dJx4a65c_get_915e3_5 : decode cJx4a65c_get_915e3 5 = .ok (.invokestatic 118, 3) := by decide +kernel
theorem dJx4a65c_get_915e3_8 : decode cJx4a65c_get_915e3 8 = .ok (.pop, 1) := by decide +kernel
theorem dJx4a65c_get_915e3_9 : decode cJx4a65c_get_915e3 9 = .ok (.aload_n 0, 1) := by decide +kernel
theorem dJx4a65c_get_915e3_10 : decode cJx4a65c_get_915e3 10 = .ok (.iload_n 1, 1) := by decide +kernel
theorem dJx4a65c_get_915e3_11 : decode cJx4a65c_get_915e3 11 = .ok (.invokevirtual 123, 3) := by decide +kernel
theorem dJx4a65c_get_915e3_14 : decode cJx4a65c_get_915e3 14 = .ok (.areturn, 1) := by decide +kernel
theorem dJx4a65c_add_72be8_0 : decode cJx4a65c_add_72be8 0 = .ok (.iload_n 3, 1) := by decide +kernel
theorem dJx4a65c_add_72be8_1 : decode cJx4a65c_add_72be8 1 = .ok (.aload_n 2, 1) := by decide +kernel
theorem dJx4a65c_add_72be8_2 : decode cJx4a65c_add_72be8 2 = .ok (.arraylength, 1) := by decide +kernel
theorem dJx4a65c_add_72be8_3 : decode cJx4a65c_add_72be8 3 = .ok (.if_icmp .ne 8, 3) := by decide +kernel
theorem dJx4a65c_add_72be8_6 : decode cJx4a65c_add_72be8 6 = .ok (.aload_n 0, 1) := by decide +kernel
theorem dJx4a65c_add_72be8_7 : decode cJx4a65c_add_72be8 7 = .ok (.invokevirtual 129, 3) := by decide +kernel
theorem dJx4a65c_add_72be8_10 : decode cJx4a65c_add_72be8 10 = .ok (.astore_n 2, 1) := by decide +kernel
theorem dJx4a65c_add_72be8_11 : decode cJx4a65c_add_72be8 11 = .ok (.aload_n 2, 1) := by decide +kernel
theorem dJx4a65c_add_72be8_12 : decode cJx4a65c_add_72be8 12 = .ok (.iload_n 3, 1) := by decide +kernel
theorem dJx4a65c_add_72be8_13 : decode cJx4a65c_add_72be8 13 = .ok (.aload_n 1, 1) := by decide +kernel
theorem dJx4a65c_add_72be8_14 : decode cJx4a65c_add_72be8 14 = .ok (.aastore, 1) := by decide +kernel
theorem dJx4a65c_add_72be8_15 : decode cJx4a65c_add_72be8 15 = .ok (.aload_n 0, 1) := by decide +kernel
theorem dJx4a65c_add_72be8_16 : decode cJx4a65c_add_72be8 16 = .ok (.iload_n 3, 1) := by decide +kernel
theorem dJx4a65c_add_72be8_17 : decode cJx4a65c_add_72be8 17 = .ok (.iconst 1, 1) := by decide +kernel
theorem dJx4a65c_add_72be8_18 : decode cJx4a65c_add_72be8 18 = .ok (.iadd, 1) := by decide +kernel
theorem dJx4a65c_add_72be8_19 : decode cJx4a65c_add_72be8 19 = .ok (.putfield 48, 3) := by decide +kernel
theorem dJx4a65c_add_72be8_22 : decode cJx4a65c_add_72be8 22 = .ok (.return_, 1) := by decide +kernel
theorem dJx4a65c_add_9ea2d_0 : decode cJx4a65c_add_9ea2d 0 = .ok (.aload_n 0, 1) := by decide +kernel
theorem dJx4a65c_add_9ea2d_1 : decode cJx4a65c_add_9ea2d 1 = .ok (.dup, 1) := by decide +kernel
theorem dJx4a65c_add_9ea2d_2 : decode cJx4a65c_add_9ea2d 2 = .ok (.getfield 63, 3) := by decide +kernel
theorem dJx4a65c_add_9ea2d_5 : decode cJx4a65c_add_9ea2d 5 = .ok (.iconst 1, 1) := by decide +kernel
theorem dJx4a65c_add_9ea2d_6 : decode cJx4a65c_add_9ea2d 6 = .ok (.iadd, 1) := by decide +kernel
theorem dJx4a65c_add_9ea2d_7 : decode cJx4a65c_add_9ea2d 7 = .ok (.putfield 63, 3) := by decide +kernel
theorem dJx4a65c_add_9ea2d_10 : decode cJx4a65c_add_9ea2d 10 = .ok (.aload_n 0, 1) := by decide +kernel
theorem dJx4a65c_add_9ea2d_11 : decode cJx4a65c_add_9ea2d 11 = .ok (.aload_n 1, 1) := by decide +kernel
theorem dJx4a65c_add_9ea2d_12 : decode cJx4a65c_add_9ea2d 12 = .ok (.aload_n 0, 1) := by decide +kernel
theorem dJx4a65c_add_9ea2d_13 : decode cJx4a65c_add_9ea2d 13 = .ok (.getfield 9, 3) := by decide +kernel
theorem dJx4a65c_add_9ea2d_16 : decode cJx4a65c_add_9ea2d 16 = .ok (.aload_n 0, 1) := by decide +kernel
theorem dJx4a65c_add_9ea2d_17 : decode cJx4a65c_add_9ea2d 17 = .ok (.getfield 48, 3) := by decide +kernel
theorem dJx4a65c_add_9ea2d_20 : decode cJx4a65c_add_9ea2d 20 = .ok (.invokevirtual 131, 3) := by decide +kernel
theorem dJx4a65c_add_9ea2d_23 : decode cJx4a65c_add_9ea2d 23 = .ok (.iconst 1, 1) := by decide +kernel
theorem dJx4a65c_add_9ea2d_24 : decode cJx4a65c_add_9ea2d 24 = .ok (.ireturn, 1) := by decide +kernel
theorem dJx4a65c_iterator_32c93_0 : decode cJx4a65c_iterator_32c93 0 = .ok (.new 267, 3) := by decide +kernel
theorem dJx4a65c_iterator_32c93_3 : decode cJx4a65c_iterator_32c93 3 = .ok (.dup, 1) := by decide +kernel
theorem dJx4a65c_iterator_32c93_4 : decode cJx4a65c_iterator_32c93 4 = .ok (.aload_n 0, 1) := by decide +kernel
theorem dJx4a65c_iterator_32c93_5 : decode cJx4a65c_iterator_32c93 5 = .ok (.invokespecial 269, 3) := by decide +kernel
theorem dJx4a65c_iterator_32c93_8 : decode cJx4a65c_iterator_32c93 8 = .ok (.areturn, 1) := by decide +kernel
theorem dJ15_checkIndex_7cf53_0 : decode cJ15_checkIndex_7cf53 0 = .ok (.iload_n 0, 1) := by decide +kernel
theorem dJ15_checkIndex_7cf53_1 : decode cJ15_checkIndex_7cf53 1 = .ok (.iload_n 1, 1) := by decide +kernel
theorem dJ15_checkIndex_7cf53_2 : decode cJ15_checkIndex_7cf53 2 = .ok (.aconst_null, 1) := by decide +kernel
theorem dJ15_checkIndex_7cf53_3 : decode cJ15_checkIndex_7cf53 3 = .ok (.invokestatic 105, 3) := by decide +kernel
theorem dJ15_checkIndex_7cf53_6 : decode cJ15_checkIndex_7cf53 6 = .ok (.ireturn, 1) := by decide +kernel
theorem dJ3_checkIndex_8e157_0 : decode cJ3_checkIndex_8e157 0 = .ok (.iload_n 0, 1) := by decide +kernel
theorem dJ3_checkIndex_8e157_1 : decode cJ3_checkIndex_8e157 1 = .ok (.ifCond .lt 8, 3) := by decide +kernel
theorem dJ3_checkIndex_8e157_4 : decode cJ3_checkIndex_8e157 4 = .ok (.iload_n 0, 1) := by decide +kernel
theorem dJ3_checkIndex_8e157_5 : decode cJ3_checkIndex_8e157 5 = .ok (.iload_n 1, 1) := by decide +kernel
theorem dJ3_checkIndex_8e157_6 : decode cJ3_checkIndex_8e157 6 = .ok (.if_icmp .lt 10, 3) := by decide +kernel
theorem dJ3_checkIndex_8e157_9 : decode cJ3_checkIndex_8e157 9 = .ok (.aload_n 2, 1) := by decide +kernel
theorem dJ3_checkIndex_8e157_10 : decode cJ3_checkIndex_8e157 10 = .ok (.iload_n 0, 1) := by decide +kernel
theorem dJ3_checkIndex_8e157_11 : decode cJ3_checkIndex_8e157 11 = .ok (.iload_n 1, 1) := by decide +kernel
theorem dJ3_checkIndex_8e157_12 : decode cJ3_checkIndex_8e157 12 = .ok (.invokestatic 95, 3) := by decide +kernel
theorem dJ3_checkIndex_8e157_15 : decode cJ3_checkIndex_8e157 15 = .ok (.athrow, 1) := by decide +kernel
theorem dJ3_checkIndex_8e157_16 : decode cJ3_checkIndex_8e157 16 = .ok (.iload_n 0, 1) := by decide +kernel
theorem dJ3_checkIndex_8e157_17 : decode cJ3_checkIndex_8e157 17 = .ok (.ireturn, 1) := by decide +kernel
