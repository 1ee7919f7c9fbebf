def RX0 : String := "FogBridge$Bridge"
def TX0 : u_T := fun k => match k with
  | 0 => ("FogBridge$Bridge", "tick", "I", false)
  | 1 => ("FogBridge$Bridge", "direction", "I", false)
  | 2 => ("FogBridge$Bridge", "places", "I", false)
  | 3 => ("FogBridge$Bridge", "bears", "I", false)
  | 4 => ("FogBridge$Bridge", "axleToll", "I", false)
  | 5 => ("FogBridge$Bridge", "tenToll", "I", false)
  | 6 => ("FogBridge$Bridge", "cartCount", "I", false)
  | 7 => ("FogBridge$Bridge", "carts", "[LFogBridge$Cart;", true)
  | 8 => ("FogBridge$Bridge", "firstGate", "LFogBridge$Gate;", true)
  | 9 => ("FogBridge$Bridge", "secondGate", "LFogBridge$Gate;", true)
  | _ => ("FogBridge$Bridge", "crossing", "LFogBridge$Row;", true)
def tyX0 : Nat → FieldType := fun k => match k with
  | 0 => .int
  | 1 => .int
  | 2 => .int
  | 3 => .int
  | 4 => .int
  | 5 => .int
  | 6 => .int
  | 7 => .array (.object "FogBridge$Cart")
  | 8 => .object "FogBridge$Gate"
  | 9 => .object "FogBridge$Gate"
  | _ => .object "FogBridge$Row"
abbrev wsX00 : List Cond := u_ws RX0 TX0 11
theorem nmX0 : ∀ a, a < 11 → ∀ b, b < 11 → a ≠ b → (TX0 a).2.1 ≠ (TX0 b).2.1 := by decide +kernel
theorem tyX0_ok : ∀ k, k < 11 → parseFieldDescriptor (TX0 k).2.2.1 = some (tyX0 k) := by decide +kernel
abbrev cX0_init : ByteArray := prog_2_method_1_code
def yX0_init : MethodName := ⟨RX0, "<init>", "()V"⟩
abbrev cX0_gateAt : ByteArray := prog_2_method_2_code
def yX0_gateAt : MethodName := ⟨RX0, "gateAt", "(I)LFogBridge$Gate;"⟩
abbrev cX0_cartAt : ByteArray := prog_2_method_3_code
def yX0_cartAt : MethodName := ⟨RX0, "cartAt", "(I)LFogBridge$Cart;"⟩
abbrev cX0_newCart : ByteArray := prog_2_method_4_code
def yX0_newCart : MethodName := ⟨RX0, "newCart", "()LFogBridge$Cart;"⟩
abbrev cX0_turn : ByteArray := prog_2_method_5_code
def yX0_turn : MethodName := ⟨RX0, "turn", "()V"⟩
abbrev cX0_run : ByteArray := prog_2_method_6_code
def yX0_run : MethodName := ⟨RX0, "run", "(I)I"⟩
abbrev cX0_isOver : ByteArray := prog_2_method_7_code
def yX0_isOver : MethodName := ⟨RX0, "isOver", "(I)Z"⟩
abbrev cX0_coinsInBoxes : ByteArray := prog_2_method_8_code
def yX0_coinsInBoxes : MethodName := ⟨RX0, "coinsInBoxes", "()I"⟩
abbrev cX0_cartsIn : ByteArray := prog_2_method_9_code
def yX0_cartsIn : MethodName := ⟨RX0, "cartsIn", "(I)I"⟩
abbrev cX0_weightOnBridge : ByteArray := prog_2_method_10_code
def yX0_weightOnBridge : MethodName := ⟨RX0, "weightOnBridge", "()I"⟩
abbrev cX0_meanOverTick : ByteArray := prog_2_method_11_code
def yX0_meanOverTick : MethodName := ⟨RX0, "meanOverTick", "()D"⟩
abbrev cX0_tellCart : ByteArray := prog_2_method_12_code
def yX0_tellCart : MethodName := ⟨RX0, "tellCart", "(LFogBridge$Cart;I)I"⟩
abbrev cX0_mixedInto : ByteArray := prog_2_method_13_code
def yX0_mixedInto : MethodName := ⟨RX0, "mixedInto", "(J)J"⟩
abbrev cX0_copyFrom : ByteArray := prog_2_method_14_code
def yX0_copyFrom : MethodName := ⟨RX0, "copyFrom", "(LFogBridge$Bridge;)V"⟩
abbrev cX0_placeOf : ByteArray := prog_2_method_15_code
def yX0_placeOf : MethodName := ⟨RX0, "placeOf", "(LFogBridge$Cart;)I"⟩
abbrev cX0_tollFor : ByteArray := prog_2_method_16_code
def yX0_tollFor : MethodName := ⟨RX0, "tollFor", "(II)I"⟩
abbrev cX0_move : ByteArray := prog_2_method_17_code
def yX0_move : MethodName := ⟨RX0, "move", "()I"⟩
abbrev cX0_goOn : ByteArray := prog_2_method_18_code
def yX0_goOn : MethodName := ⟨RX0, "goOn", "()I"⟩
abbrev cX0_goBack : ByteArray := prog_2_method_19_code
def yX0_goBack : MethodName := ⟨RX0, "goBack", "()V"⟩
abbrev cX0_comeOn : ByteArray := prog_2_method_20_code
def yX0_comeOn : MethodName := ⟨RX0, "comeOn", "()V"⟩
abbrev cX0_hasRoomFor : ByteArray := prog_2_method_21_code
def yX0_hasRoomFor : MethodName := ⟨RX0, "hasRoomFor", "(LFogBridge$Cart;)Z"⟩
abbrev cX0_pays : ByteArray := prog_2_method_22_code
def yX0_pays : MethodName := ⟨RX0, "pays", "(LFogBridge$Cart;LFogBridge$Gate;)Z"⟩
def RX1 : String := "FogBridge$Cart"
def TX1 : u_T := fun k => match k with
  | 0 => ("FogBridge$Cart", "number", "I", true)
  | 1 => ("FogBridge$Cart", "end", "I", false)
  | 2 => ("FogBridge$Cart", "axles", "I", false)
  | 3 => ("FogBridge$Cart", "weight", "I", false)
  | 4 => ("FogBridge$Cart", "pace", "I", false)
  | 5 => ("FogBridge$Cart", "coins", "I", false)
  | 6 => ("FogBridge$Cart", "isCheat", "Z", false)
  | 7 => ("FogBridge$Cart", "hasPaid", "Z", false)
  | 8 => ("FogBridge$Cart", "state", "I", false)
  | 9 => ("FogBridge$Cart", "way", "I", false)
  | _ => ("FogBridge$Cart", "overTick", "I", false)
def tyX1 : Nat → FieldType := fun k => match k with
  | 0 => .int
  | 1 => .int
  | 2 => .int
  | 3 => .int
  | 4 => .int
  | 5 => .int
  | 6 => .boolean
  | 7 => .boolean
  | 8 => .int
  | 9 => .int
  | _ => .int
abbrev wsX10 : List Cond := u_ws RX1 TX1 11
theorem nmX1 : ∀ a, a < 11 → ∀ b, b < 11 → a ≠ b → (TX1 a).2.1 ≠ (TX1 b).2.1 := by decide +kernel
theorem tyX1_ok : ∀ k, k < 11 → parseFieldDescriptor (TX1 k).2.2.1 = some (tyX1 k) := by decide +kernel
abbrev cX1_init : ByteArray := prog_3_method_1_code
def yX1_init : MethodName := ⟨RX1, "<init>", "(I)V"⟩
abbrev cX1_copyFrom : ByteArray := prog_3_method_2_code
def yX1_copyFrom : MethodName := ⟨RX1, "copyFrom", "(LFogBridge$Cart;)V"⟩
def RX2 : String := "FogBridge$Code"
def TX2 : u_T := fun k => match k with
  | 0 => ("FogBridge$Code", "signals", "[I", true)
  | 1 => ("FogBridge$Code", "rowsOfLength", "[I", true)
  | _ => ("FogBridge$Code", "size", "I", false)
def tyX2 : Nat → FieldType := fun k => match k with
  | 0 => .array .int
  | 1 => .array .int
  | _ => .int
abbrev wsX20 : List Cond := u_ws RX2 TX2 3
theorem nmX2 : ∀ a, a < 3 → ∀ b, b < 3 → a ≠ b → (TX2 a).2.1 ≠ (TX2 b).2.1 := by decide +kernel
theorem tyX2_ok : ∀ k, k < 3 → parseFieldDescriptor (TX2 k).2.2.1 = some (tyX2 k) := by decide +kernel
abbrev cX2_init : ByteArray := prog_4_method_1_code
def yX2_init : MethodName := ⟨RX2, "<init>", "()V"⟩
abbrev cX2_isFull : ByteArray := prog_4_method_2_code
def yX2_isFull : MethodName := ⟨RX2, "isFull", "()Z"⟩
abbrev cX2_isAmbiguousWith : ByteArray := prog_4_method_3_code
def yX2_isAmbiguousWith : MethodName := ⟨RX2, "isAmbiguousWith", "(I)Z"⟩
abbrev cX2_add : ByteArray := prog_4_method_4_code
def yX2_add : MethodName := ⟨RX2, "add", "(I)I"⟩
abbrev cX2_ringsOf : ByteArray := prog_4_method_5_code
def yX2_ringsOf : MethodName := ⟨RX2, "ringsOf", "(I)I"⟩
abbrev cX2_readRow : ByteArray := prog_4_method_6_code
def yX2_readRow : MethodName := ⟨RX2, "readRow", "(II)I"⟩
abbrev cX2_safeRings : ByteArray := prog_4_method_7_code
def yX2_safeRings : MethodName := ⟨RX2, "safeRings", "(I)I"⟩
abbrev cX2_wholeRows : ByteArray := prog_4_method_8_code
def yX2_wholeRows : MethodName := ⟨RX2, "wholeRows", "(I)I"⟩
abbrev cX2_mixedInto : ByteArray := prog_4_method_9_code
def yX2_mixedInto : MethodName := ⟨RX2, "mixedInto", "(J)J"⟩
abbrev cX2_signalAtBeginningOf : ByteArray := prog_4_method_10_code
def yX2_signalAtBeginningOf : MethodName := ⟨RX2, "signalAtBeginningOf", "(I)I"⟩
abbrev cX2_rowsByLastSignal : ByteArray := prog_4_method_11_code
def yX2_rowsByLastSignal : MethodName := ⟨RX2, "rowsByLastSignal", "(I)I"⟩
def RX3 : String := "FogBridge$Gate"
def TX3 : u_T := fun k => match k with
  | 0 => ("FogBridge$Gate", "waiting", "LFogBridge$Row;", true)
  | 1 => ("FogBridge$Gate", "coins", "I", false)
  | 2 => ("FogBridge$Gate", "payers", "I", false)
  | 3 => ("FogBridge$Gate", "axles", "I", false)
  | _ => ("FogBridge$Gate", "keptByCheats", "I", false)
def tyX3 : Nat → FieldType := fun k => match k with
  | 0 => .object "FogBridge$Row"
  | 1 => .int
  | 2 => .int
  | 3 => .int
  | _ => .int
abbrev wsX30 : List Cond := u_ws RX3 TX3 5
theorem nmX3 : ∀ a, a < 5 → ∀ b, b < 5 → a ≠ b → (TX3 a).2.1 ≠ (TX3 b).2.1 := by decide +kernel
theorem tyX3_ok : ∀ k, k < 5 → parseFieldDescriptor (TX3 k).2.2.1 = some (tyX3 k) := by decide +kernel
abbrev cX3_init : ByteArray := prog_5_method_1_code
def yX3_init : MethodName := ⟨RX3, "<init>", "()V"⟩
abbrev cX3_take : ByteArray := prog_5_method_2_code
def yX3_take : MethodName := ⟨RX3, "take", "(LFogBridge$Cart;II)V"⟩
abbrev cX3_tell : ByteArray := prog_5_method_3_code
def yX3_tell : MethodName := ⟨RX3, "tell", "(I)I"⟩
abbrev cX3_mixedInto : ByteArray := prog_5_method_4_code
def yX3_mixedInto : MethodName := ⟨RX3, "mixedInto", "(J)J"⟩
abbrev cX3_copyFrom : ByteArray := prog_5_method_5_code
def yX3_copyFrom : MethodName := ⟨RX3, "copyFrom", "(LFogBridge$Gate;)V"⟩
def RX4 : String := "FogBridge$Rings"
def TX4 : u_T := fun k => match k with
  | _ => ("", "", "", false)
def tyX4 : Nat → FieldType := fun k => match k with
  | _ => .int
abbrev wsX40 : List Cond := u_ws RX4 TX4 0
theorem nmX4 : ∀ a, a < 0 → ∀ b, b < 0 → a ≠ b → (TX4 a).2.1 ≠ (TX4 b).2.1 := by decide +kernel
theorem tyX4_ok : ∀ k, k < 0 → parseFieldDescriptor (TX4 k).2.2.1 = some (tyX4 k) := by decide +kernel
abbrev cX4_lengthOf : ByteArray := prog_6_method_2_code
def yX4_lengthOf : MethodName := ⟨RX4, "lengthOf", "(I)I"⟩
abbrev cX4_ringAt : ByteArray := prog_6_method_3_code
def yX4_ringAt : MethodName := ⟨RX4, "ringAt", "(II)I"⟩
abbrev cX4_withoutLast : ByteArray := prog_6_method_4_code
def yX4_withoutLast : MethodName := ⟨RX4, "withoutLast", "(II)I"⟩
abbrev cX4_withoutRing : ByteArray := prog_6_method_5_code
def yX4_withoutRing : MethodName := ⟨RX4, "withoutRing", "(II)I"⟩
abbrev cX4_isBeginning : ByteArray := prog_6_method_6_code
def yX4_isBeginning : MethodName := ⟨RX4, "isBeginning", "(II)Z"⟩
abbrev cX4_behindBeginning : ByteArray := prog_6_method_7_code
def yX4_behindBeginning : MethodName := ⟨RX4, "behindBeginning", "(II)I"⟩
abbrev cX4_followedBy : ByteArray := prog_6_method_8_code
def yX4_followedBy : MethodName := ⟨RX4, "followedBy", "(II)I"⟩
def RX5 : String := "FogBridge$Row"
def TX5 : u_T := fun k => match k with
  | 0 => ("FogBridge$Row", "carts", "[I", true)
  | _ => ("FogBridge$Row", "size", "I", false)
def tyX5 : Nat → FieldType := fun k => match k with
  | 0 => .array .int
  | _ => .int
abbrev wsX50 : List Cond := u_ws RX5 TX5 2
theorem nmX5 : ∀ a, a < 2 → ∀ b, b < 2 → a ≠ b → (TX5 a).2.1 ≠ (TX5 b).2.1 := by decide +kernel
theorem tyX5_ok : ∀ k, k < 2 → parseFieldDescriptor (TX5 k).2.2.1 = some (tyX5 k) := by decide +kernel
abbrev cX5_init : ByteArray := prog_7_method_1_code
def yX5_init : MethodName := ⟨RX5, "<init>", "()V"⟩
abbrev cX5_at : ByteArray := prog_7_method_2_code
def yX5_at : MethodName := ⟨RX5, "at", "(I)I"⟩
abbrev cX5_last : ByteArray := prog_7_method_3_code
def yX5_last : MethodName := ⟨RX5, "last", "()I"⟩
abbrev cX5_addLast : ByteArray := prog_7_method_4_code
def yX5_addLast : MethodName := ⟨RX5, "addLast", "(I)V"⟩
abbrev cX5_addFirst : ByteArray := prog_7_method_5_code
def yX5_addFirst : MethodName := ⟨RX5, "addFirst", "(I)V"⟩
abbrev cX5_removeFirst : ByteArray := prog_7_method_6_code
def yX5_removeFirst : MethodName := ⟨RX5, "removeFirst", "()V"⟩
abbrev cX5_removeLast : ByteArray := prog_7_method_7_code
def yX5_removeLast : MethodName := ⟨RX5, "removeLast", "()V"⟩
abbrev cX5_copyFrom : ByteArray := prog_7_method_8_code
def yX5_copyFrom : MethodName := ⟨RX5, "copyFrom", "(LFogBridge$Row;)V"⟩
def RX6 : String := "FogBridge"
def TX6 : u_T := fun k => match k with
  | 0 => ("FogBridge", "code", "LFogBridge$Code;", true)
  | 1 => ("FogBridge", "fog", "[I", true)
  | 2 => ("FogBridge", "bridge", "LFogBridge$Bridge;", true)
  | 3 => ("FogBridge", "ahead", "LFogBridge$Bridge;", true)
  | _ => ("FogBridge", "branch", "LFogBridge$Bridge;", true)
def tyX6 : Nat → FieldType := fun k => match k with
  | 0 => .object "FogBridge$Code"
  | 1 => .array .int
  | 2 => .object "FogBridge$Bridge"
  | 3 => .object "FogBridge$Bridge"
  | _ => .object "FogBridge$Bridge"
abbrev wsX60 : List Cond := u_ws RX6 TX6 5
theorem nmX6 : ∀ a, a < 5 → ∀ b, b < 5 → a ≠ b → (TX6 a).2.1 ≠ (TX6 b).2.1 := by decide +kernel
theorem tyX6_ok : ∀ k, k < 5 → parseFieldDescriptor (TX6 k).2.2.1 = some (tyX6 k) := by decide +kernel
abbrev cX6_init : ByteArray := prog_1_method_1_code
def yX6_init : MethodName := ⟨RX6, "<init>", "()V"⟩
abbrev cX6_addSignal : ByteArray := prog_1_method_2_code
def yX6_addSignal : MethodName := ⟨RX6, "addSignal", "(I)I"⟩
abbrev cX6_read : ByteArray := prog_1_method_3_code
def yX6_read : MethodName := ⟨RX6, "read", "(II)I"⟩
abbrev cX6_heard : ByteArray := prog_1_method_4_code
def yX6_heard : MethodName := ⟨RX6, "heard", "(I)I"⟩
abbrev cX6_safe : ByteArray := prog_1_method_5_code
def yX6_safe : MethodName := ⟨RX6, "safe", "(I)I"⟩
abbrev cX6_rows : ByteArray := prog_1_method_6_code
def yX6_rows : MethodName := ⟨RX6, "rows", "(I)I"⟩
abbrev cX6_setFog : ByteArray := prog_1_method_7_code
def yX6_setFog : MethodName := ⟨RX6, "setFog", "(II)I"⟩
abbrev cX6_rebuild : ByteArray := prog_1_method_8_code
def yX6_rebuild : MethodName := ⟨RX6, "rebuild", "(II)I"⟩
abbrev cX6_setToll : ByteArray := prog_1_method_9_code
def yX6_setToll : MethodName := ⟨RX6, "setToll", "(II)I"⟩
abbrev cX6_change : ByteArray := prog_1_method_10_code
def yX6_change : MethodName := ⟨RX6, "change", "()I"⟩
abbrev cX6_come : ByteArray := prog_1_method_11_code
def yX6_come : MethodName := ⟨RX6, "come", "(IIIIIZ)I"⟩
abbrev cX6_cart : ByteArray := prog_1_method_12_code
def yX6_cart : MethodName := ⟨RX6, "cart", "(II)I"⟩
abbrev cX6_queue : ByteArray := prog_1_method_13_code
def yX6_queue : MethodName := ⟨RX6, "queue", "(II)I"⟩
abbrev cX6_box : ByteArray := prog_1_method_14_code
def yX6_box : MethodName := ⟨RX6, "box", "(II)I"⟩
abbrev cX6_empty : ByteArray := prog_1_method_15_code
def yX6_empty : MethodName := ⟨RX6, "empty", "(I)I"⟩
abbrev cX6_pass : ByteArray := prog_1_method_16_code
def yX6_pass : MethodName := ⟨RX6, "pass", "(I)I"⟩
abbrev cX6_count : ByteArray := prog_1_method_17_code
def yX6_count : MethodName := ⟨RX6, "count", "(I)I"⟩
abbrev cX6_over : ByteArray := prog_1_method_18_code
def yX6_over : MethodName := ⟨RX6, "over", "(I)I"⟩
abbrev cX6_keep : ByteArray := prog_1_method_19_code
def yX6_keep : MethodName := ⟨RX6, "keep", "()I"⟩
abbrev cX6_foresee : ByteArray := prog_1_method_20_code
def yX6_foresee : MethodName := ⟨RX6, "foresee", "(II)I"⟩
abbrev cX6_mean : ByteArray := prog_1_method_21_code
def yX6_mean : MethodName := ⟨RX6, "mean", "()D"⟩
abbrev cX6_digest : ByteArray := prog_1_method_22_code
def yX6_digest : MethodName := ⟨RX6, "digest", "()J"⟩
abbrev cX6_isBetween : ByteArray := prog_1_method_23_code
def yX6_isBetween : MethodName := ⟨RX6, "isBetween", "(III)Z"⟩
abbrev cX6_isIndex : ByteArray := prog_1_method_24_code
def yX6_isIndex : MethodName := ⟨RX6, "isIndex", "(II)Z"⟩
abbrev cX6_mixed : ByteArray := prog_1_method_25_code
def yX6_mixed : MethodName := ⟨RX6, "mixed", "(JI)J"⟩
abbrev cX6_ringsHeard : ByteArray := prog_1_method_26_code
def yX6_ringsHeard : MethodName := ⟨RX6, "ringsHeard", "(II)I"⟩
abbrev cX6_fogIn : ByteArray := prog_1_method_27_code
def yX6_fogIn : MethodName := ⟨RX6, "fogIn", "(I)I"⟩
abbrev cX6_countOf : ByteArray := prog_1_method_28_code
def yX6_countOf : MethodName := ⟨RX6, "countOf", "(I)I"⟩
def RX7 : String := "FogBridgeModel$State"
def TX7 : u_T := fun k => match k with
  | 0 => ("FogBridgeModel$State", "tick", "I", false)
  | 1 => ("FogBridgeModel$State", "open", "I", false)
  | 2 => ("FogBridgeModel$State", "carts", "I", false)
  | 3 => ("FogBridgeModel$State", "of", "[I", true)
  | 4 => ("FogBridgeModel$State", "at", "[I", true)
  | 5 => ("FogBridgeModel$State", "row", "[I", true)
  | 6 => ("FogBridgeModel$State", "box", "[I", true)
  | _ => ("FogBridgeModel$State", "this$0", "LFogBridgeModel;", true)
def tyX7 : Nat → FieldType := fun k => match k with
  | 0 => .int
  | 1 => .int
  | 2 => .int
  | 3 => .array .int
  | 4 => .array .int
  | 5 => .array .int
  | 6 => .array .int
  | _ => .object "FogBridgeModel"
abbrev wsX70 : List Cond := u_ws RX7 TX7 8
theorem nmX7 : ∀ a, a < 8 → ∀ b, b < 8 → a ≠ b → (TX7 a).2.1 ≠ (TX7 b).2.1 := by decide +kernel
theorem tyX7_ok : ∀ k, k < 8 → parseFieldDescriptor (TX7 k).2.2.1 = some (tyX7 k) := by decide +kernel
abbrev cX7_init : ByteArray := prog_10_method_1_code
def yX7_init : MethodName := ⟨RX7, "<init>", "(LFogBridgeModel;)V"⟩
abbrev cX7_copy : ByteArray := prog_10_method_2_code
def yX7_copy : MethodName := ⟨RX7, "copy", "([I[I)V"⟩
abbrev cX7_become : ByteArray := prog_10_method_3_code
def yX7_become : MethodName := ⟨RX7, "become", "(LFogBridgeModel$State;)V"⟩
abbrev cX7_own : ByteArray := prog_10_method_4_code
def yX7_own : MethodName := ⟨RX7, "own", "(II)I"⟩
abbrev cX7_set : ByteArray := prog_10_method_5_code
def yX7_set : MethodName := ⟨RX7, "set", "(III)V"⟩
abbrev cX7_line : ByteArray := prog_10_method_6_code
def yX7_line : MethodName := ⟨RX7, "line", "(III)V"⟩
abbrev cX7_first : ByteArray := prog_10_method_7_code
def yX7_first : MethodName := ⟨RX7, "first", "(I)I"⟩
abbrev cX7_leave : ByteArray := prog_10_method_8_code
def yX7_leave : MethodName := ⟨RX7, "leave", "(I)V"⟩
abbrev cX7_move : ByteArray := prog_10_method_9_code
def yX7_move : MethodName := ⟨RX7, "move", "(I)V"⟩
abbrev cX7_weight : ByteArray := prog_10_method_10_code
def yX7_weight : MethodName := ⟨RX7, "weight", "()I"⟩
abbrev cX7_isBack : ByteArray := prog_10_method_11_code
def yX7_isBack : MethodName := ⟨RX7, "isBack", "()Z"⟩
abbrev cX7_comeOn : ByteArray := prog_10_method_12_code
def yX7_comeOn : MethodName := ⟨RX7, "comeOn", "()V"⟩
abbrev cX7_pass : ByteArray := prog_10_method_13_code
def yX7_pass : MethodName := ⟨RX7, "pass", "()I"⟩
abbrev cX7_how : ByteArray := prog_10_method_14_code
def yX7_how : MethodName := ⟨RX7, "how", "(I)I"⟩
def RX8 : String := "FogBridgeModel"
def TX8 : u_T := fun k => match k with
  | 0 => ("FogBridgeModel", "thrown", "I", false)
  | 1 => ("FogBridgeModel", "signals", "I", false)
  | 2 => ("FogBridgeModel", "signal", "[I", true)
  | 3 => ("FogBridgeModel", "fog", "[I", true)
  | 4 => ("FogBridgeModel", "places", "I", false)
  | 5 => ("FogBridgeModel", "bears", "I", false)
  | 6 => ("FogBridgeModel", "axleToll", "I", false)
  | 7 => ("FogBridgeModel", "tenToll", "I", false)
  | 8 => ("FogBridgeModel", "s", "LFogBridgeModel$State;", true)
  | _ => ("FogBridgeModel", "ahead", "LFogBridgeModel$State;", true)
def tyX8 : Nat → FieldType := fun k => match k with
  | 0 => .int
  | 1 => .int
  | 2 => .array .int
  | 3 => .array .int
  | 4 => .int
  | 5 => .int
  | 6 => .int
  | 7 => .int
  | 8 => .object "FogBridgeModel$State"
  | _ => .object "FogBridgeModel$State"
abbrev wsX80 : List Cond := u_ws RX8 TX8 10
theorem nmX8 : ∀ a, a < 10 → ∀ b, b < 10 → a ≠ b → (TX8 a).2.1 ≠ (TX8 b).2.1 := by decide +kernel
theorem tyX8_ok : ∀ k, k < 10 → parseFieldDescriptor (TX8 k).2.2.1 = some (tyX8 k) := by decide +kernel
abbrev cX8_init : ByteArray := prog_9_method_1_code
def yX8_init : MethodName := ⟨RX8, "<init>", "()V"⟩
abbrev cX8_thrown : ByteArray := prog_9_method_2_code
def yX8_thrown : MethodName := ⟨RX8, "thrown", "()I"⟩
abbrev cX8_no : ByteArray := prog_9_method_3_code
def yX8_no : MethodName := ⟨RX8, "no", "(I)I"⟩
abbrev cX8_isIn : ByteArray := prog_9_method_4_code
def yX8_isIn : MethodName := ⟨RX8, "isIn", "(III)Z"⟩
abbrev cX8_length : ByteArray := prog_9_method_5_code
def yX8_length : MethodName := ⟨RX8, "length", "(I)I"⟩
abbrev cX8_isRow : ByteArray := prog_9_method_6_code
def yX8_isRow : MethodName := ⟨RX8, "isRow", "(II)Z"⟩
abbrev cX8_ten : ByteArray := prog_9_method_7_code
def yX8_ten : MethodName := ⟨RX8, "ten", "(I)I"⟩
abbrev cX8_begins : ByteArray := prog_9_method_8_code
def yX8_begins : MethodName := ⟨RX8, "begins", "(II)Z"⟩
abbrev cX8_addSignal : ByteArray := prog_9_method_9_code
def yX8_addSignal : MethodName := ⟨RX8, "addSignal", "(I)I"⟩
abbrev cX8_beginning : ByteArray := prog_9_method_10_code
def yX8_beginning : MethodName := ⟨RX8, "beginning", "(I)I"⟩
abbrev cX8_behind : ByteArray := prog_9_method_11_code
def yX8_behind : MethodName := ⟨RX8, "behind", "(II)I"⟩
abbrev cX8_isWhole : ByteArray := prog_9_method_12_code
def yX8_isWhole : MethodName := ⟨RX8, "isWhole", "(I)Z"⟩
abbrev cX8_read : ByteArray := prog_9_method_13_code
def yX8_read : MethodName := ⟨RX8, "read", "(II)I"⟩
abbrev cX8_isSignal : ByteArray := prog_9_method_14_code
def yX8_isSignal : MethodName := ⟨RX8, "isSignal", "(I)Z"⟩
abbrev cX8_heard : ByteArray := prog_9_method_15_code
def yX8_heard : MethodName := ⟨RX8, "heard", "(I)I"⟩
abbrev cX8_safe : ByteArray := prog_9_method_16_code
def yX8_safe : MethodName := ⟨RX8, "safe", "(I)I"⟩
abbrev cX8_rows : ByteArray := prog_9_method_17_code
def yX8_rows : MethodName := ⟨RX8, "rows", "(I)I"⟩
abbrev cX8_setFog : ByteArray := prog_9_method_18_code
def yX8_setFog : MethodName := ⟨RX8, "setFog", "(II)I"⟩
abbrev cX8_rebuild : ByteArray := prog_9_method_19_code
def yX8_rebuild : MethodName := ⟨RX8, "rebuild", "(II)I"⟩
abbrev cX8_setToll : ByteArray := prog_9_method_20_code
def yX8_setToll : MethodName := ⟨RX8, "setToll", "(II)I"⟩
abbrev cX8_change : ByteArray := prog_9_method_21_code
def yX8_change : MethodName := ⟨RX8, "change", "()I"⟩
abbrev cX8_come : ByteArray := prog_9_method_22_code
def yX8_come : MethodName := ⟨RX8, "come", "(IIIIIZ)I"⟩
abbrev cX8_cartTold : ByteArray := prog_9_method_23_code
def yX8_cartTold : MethodName := ⟨RX8, "cartTold", "(II)I"⟩
abbrev cX8_isCart : ByteArray := prog_9_method_24_code
def yX8_isCart : MethodName := ⟨RX8, "isCart", "(I)Z"⟩
abbrev cX8_cart : ByteArray := prog_9_method_25_code
def yX8_cart : MethodName := ⟨RX8, "cart", "(II)I"⟩
abbrev cX8_queue : ByteArray := prog_9_method_26_code
def yX8_queue : MethodName := ⟨RX8, "queue", "(II)I"⟩
abbrev cX8_box : ByteArray := prog_9_method_27_code
def yX8_box : MethodName := ⟨RX8, "box", "(II)I"⟩
abbrev cX8_empty : ByteArray := prog_9_method_28_code
def yX8_empty : MethodName := ⟨RX8, "empty", "(I)I"⟩
abbrev cX8_pass : ByteArray := prog_9_method_29_code
def yX8_pass : MethodName := ⟨RX8, "pass", "(I)I"⟩
abbrev cX8_counted : ByteArray := prog_9_method_30_code
def yX8_counted : MethodName := ⟨RX8, "counted", "(I)I"⟩
abbrev cX8_count : ByteArray := prog_9_method_31_code
def yX8_count : MethodName := ⟨RX8, "count", "(I)I"⟩
abbrev cX8_over : ByteArray := prog_9_method_32_code
def yX8_over : MethodName := ⟨RX8, "over", "(I)I"⟩
abbrev cX8_overBy : ByteArray := prog_9_method_33_code
def yX8_overBy : MethodName := ⟨RX8, "overBy", "(I)I"⟩
abbrev cX8_keep : ByteArray := prog_9_method_34_code
def yX8_keep : MethodName := ⟨RX8, "keep", "()I"⟩
abbrev cX8_foresee : ByteArray := prog_9_method_35_code
def yX8_foresee : MethodName := ⟨RX8, "foresee", "(II)I"⟩
abbrev cX8_mean : ByteArray := prog_9_method_36_code
def yX8_mean : MethodName := ⟨RX8, "mean", "()D"⟩
abbrev cX8_digest : ByteArray := prog_9_method_37_code
def yX8_digest : MethodName := ⟨RX8, "digest", "()J"⟩
def RJ9 : String := "java/lang/Math"
def TJ9 : u_T := fun k => match k with
  | _ => ("", "", "", false)
def tyJ9 : Nat → FieldType := fun k => match k with
  | _ => .int
theorem nmJ9 : ∀ a, a < 0 → ∀ b, b < 0 → a ≠ b → (TJ9 a).2.1 ≠ (TJ9 b).2.1 := by decide +kernel
theorem tyJ9_ok : ∀ k, k < 0 → parseFieldDescriptor (TJ9 k).2.2.1 = some (tyJ9 k) := by decide +kernel
abbrev cJ9_max_7cf53 : ByteArray := prog_15_method_65_code
def yJ9_max_7cf53 : MethodName := ⟨RJ9, "max", "(II)I"⟩
abbrev cJ9_min_7cf53 : ByteArray := prog_15_method_69_code
def yJ9_min_7cf53 : MethodName := ⟨RJ9, "min", "(II)I"⟩
def RJ0 : String := "java/lang/String"
def TJ0 : u_T := fun k => match k with
  | _ => ("", "", "", false)
def tyJ0 : Nat → FieldType := fun k => match k with
  | _ => .int
theorem nmJ0 : ∀ a, a < 0 → ∀ b, b < 0 → a ≠ b → (TJ0 a).2.1 ≠ (TJ0 b).2.1 := by decide +kernel
theorem tyJ0_ok : ∀ k, k < 0 → parseFieldDescriptor (TJ0 k).2.2.1 = some (tyJ0 k) := by decide +kernel
def RJ10 : String := "java/lang/System"
def TJ10 : u_T := fun k => match k with
  | _ => ("", "", "", false)
def tyJ10 : Nat → FieldType := fun k => match k with
  | _ => .int
theorem nmJ10 : ∀ a, a < 0 → ∀ b, b < 0 → a ≠ b → (TJ10 a).2.1 ≠ (TJ10 b).2.1 := by decide +kernel
theorem tyJ10_ok : ∀ k, k < 0 → parseFieldDescriptor (TJ10 k).2.2.1 = some (tyJ10 k) := by decide +kernel
def RL : String := "FogBridgeLaw"
abbrev cL_addSignal : ByteArray := method_3_code
def yL_addSignal : MethodName := ⟨RL, "addSignal", "(LFogBridge;I[J)I"⟩
abbrev cL_read : ByteArray := method_4_code
def yL_read : MethodName := ⟨RL, "read", "(LFogBridge;II[J)I"⟩
abbrev cL_heard : ByteArray := method_5_code
def yL_heard : MethodName := ⟨RL, "heard", "(LFogBridge;I[J)I"⟩
abbrev cL_safe : ByteArray := method_6_code
def yL_safe : MethodName := ⟨RL, "safe", "(LFogBridge;I[J)I"⟩
abbrev cL_rows : ByteArray := method_7_code
def yL_rows : MethodName := ⟨RL, "rows", "(LFogBridge;I[J)I"⟩
abbrev cL_setFog : ByteArray := method_8_code
def yL_setFog : MethodName := ⟨RL, "setFog", "(LFogBridge;II[J)I"⟩
abbrev cL_rebuild : ByteArray := method_9_code
def yL_rebuild : MethodName := ⟨RL, "rebuild", "(LFogBridge;II[J)I"⟩
abbrev cL_setToll : ByteArray := method_10_code
def yL_setToll : MethodName := ⟨RL, "setToll", "(LFogBridge;II[J)I"⟩
abbrev cL_come : ByteArray := method_11_code
def yL_come : MethodName := ⟨RL, "come", "(LFogBridge;IIIIIZ[J)I"⟩
abbrev cL_cart : ByteArray := method_12_code
def yL_cart : MethodName := ⟨RL, "cart", "(LFogBridge;II[J)I"⟩
abbrev cL_queue : ByteArray := method_13_code
def yL_queue : MethodName := ⟨RL, "queue", "(LFogBridge;II[J)I"⟩
abbrev cL_box : ByteArray := method_14_code
def yL_box : MethodName := ⟨RL, "box", "(LFogBridge;II[J)I"⟩
abbrev cL_empty : ByteArray := method_15_code
def yL_empty : MethodName := ⟨RL, "empty", "(LFogBridge;I[J)I"⟩
abbrev cL_pass : ByteArray := method_16_code
def yL_pass : MethodName := ⟨RL, "pass", "(LFogBridge;I[J)I"⟩
abbrev cL_count : ByteArray := method_17_code
def yL_count : MethodName := ⟨RL, "count", "(LFogBridge;I[J)I"⟩
abbrev cL_over : ByteArray := method_18_code
def yL_over : MethodName := ⟨RL, "over", "(LFogBridge;I[J)I"⟩
abbrev cL_foresee : ByteArray := method_19_code
def yL_foresee : MethodName := ⟨RL, "foresee", "(LFogBridge;II[J)I"⟩
abbrev cL_law : ByteArray := code
def yL_law : MethodName := ⟨RL, "law", "([I)Z"⟩
abbrev vwCl : List vw_C := [(RX0, TX0, 11), (RX1, TX1, 11), (RX2, TX2, 3), (RX3, TX3, 5), (RX5, TX5, 2), (RX6, TX6, 5), (RX7, TX7, 8), (RX8, TX8, 10)]
/-! names: classes, fields, methods; the words of the tables by their places -/
/-- a word that stays as the machine warms up -/
def gok (w : Cond) : Bool := goodWord w || (match w with
  | .fieldLinkNest _ _ _ _ _ _ => true
  | .methodLinkNest _ _ _ _ => true
  | _ => false)
def gW (w : Cond) : Prop := w ∈ lw_tbl ∧ gok w = true
theorem gU_X0 : ∀ w ∈ wsX00, gW w := by
  have h : (wsX00.all fun w => decide (w ∈ lw_tbl) && gok w) = true := by decide +kernel
  intro w hw
  have := List.all_eq_true.mp h w hw
  simp only [Bool.and_eq_true, decide_eq_true_eq] at this
  exact this
theorem gU_X1 : ∀ w ∈ wsX10, gW w := by
  have h : (wsX10.all fun w => decide (w ∈ lw_tbl) && gok w) = true := by decide +kernel
  intro w hw
  have := List.all_eq_true.mp h w hw
  simp only [Bool.and_eq_true, decide_eq_true_eq] at this
  exact this
theorem gU_X2 : ∀ w ∈ wsX20, gW w := by
  have h : (wsX20.all fun w => decide (w ∈ lw_tbl) && gok w) = true := by decide +kernel
  intro w hw
  have := List.all_eq_true.mp h w hw
  simp only [Bool.and_eq_true, decide_eq_true_eq] at this
  exact this
theorem gU_X3 : ∀ w ∈ wsX30, gW w := by
  have h : (wsX30.all fun w => decide (w ∈ lw_tbl) && gok w) = true := by decide +kernel
  intro w hw
  have := List.all_eq_true.mp h w hw
  simp only [Bool.and_eq_true, decide_eq_true_eq] at this
  exact this
theorem gU_X5 : ∀ w ∈ wsX50, gW w := by
  have h : (wsX50.all fun w => decide (w ∈ lw_tbl) && gok w) = true := by decide +kernel
  intro w hw
  have := List.all_eq_true.mp h w hw
  simp only [Bool.and_eq_true, decide_eq_true_eq] at this
  exact this
theorem gU_X6 : ∀ w ∈ wsX60, gW w := by
  have h : (wsX60.all fun w => decide (w ∈ lw_tbl) && gok w) = true := by decide +kernel
  intro w hw
  have := List.all_eq_true.mp h w hw
  simp only [Bool.and_eq_true, decide_eq_true_eq] at this
  exact this
theorem gU_X7 : ∀ w ∈ wsX70, gW w := by
  have h : (wsX70.all fun w => decide (w ∈ lw_tbl) && gok w) = true := by decide +kernel
  intro w hw
  have := List.all_eq_true.mp h w hw
  simp only [Bool.and_eq_true, decide_eq_true_eq] at this
  exact this
theorem gU_X8 : ∀ w ∈ wsX80, gW w := by
  have h : (wsX80.all fun w => decide (w ∈ lw_tbl) && gok w) = true := by decide +kernel
  intro w hw
  have := List.all_eq_true.mp h w hw
  simp only [Bool.and_eq_true, decide_eq_true_eq] at this
  exact this
theorem qS_yX0_move : gW (.selects RX0 yX0_move yX0_move) := ⟨List.mem_of_getElem? (i := 0) (by decide +kernel), rfl⟩
theorem qS_yX0_goOn : gW (.selects RX0 yX0_goOn yX0_goOn) := ⟨List.mem_of_getElem? (i := 1) (by decide +kernel), rfl⟩
theorem qS_yX0_goBack : gW (.selects RX0 yX0_goBack yX0_goBack) := ⟨List.mem_of_getElem? (i := 2) (by decide +kernel), rfl⟩
theorem qS_yX0_comeOn : gW (.selects RX0 yX0_comeOn yX0_comeOn) := ⟨List.mem_of_getElem? (i := 3) (by decide +kernel), rfl⟩
theorem qS_yX0_hasRoomFor : gW (.selects RX0 yX0_hasRoomFor yX0_hasRoomFor) := ⟨List.mem_of_getElem? (i := 4) (by decide +kernel), rfl⟩
theorem qS_yX0_pays : gW (.selects RX0 yX0_pays yX0_pays) := ⟨List.mem_of_getElem? (i := 5) (by decide +kernel), rfl⟩
theorem qS_yX0_tollFor : gW (.selects RX0 yX0_tollFor yX0_tollFor) := ⟨List.mem_of_getElem? (i := 6) (by decide +kernel), rfl⟩
theorem qS_yX6_countOf : gW (.selects RX6 yX6_countOf yX6_countOf) := ⟨List.mem_of_getElem? (i := 7) (by decide +kernel), rfl⟩
theorem qS_yX0_placeOf : gW (.selects RX0 yX0_placeOf yX0_placeOf) := ⟨List.mem_of_getElem? (i := 8) (by decide +kernel), rfl⟩
theorem qS_yX2_signalAtBeginningOf : gW (.selects RX2 yX2_signalAtBeginningOf yX2_signalAtBeginningOf) := ⟨List.mem_of_getElem? (i := 10) (by decide +kernel), rfl⟩
theorem qS_yX6_ringsHeard : gW (.selects RX6 yX6_ringsHeard yX6_ringsHeard) := ⟨List.mem_of_getElem? (i := 11) (by decide +kernel), rfl⟩
theorem qS_yX6_fogIn : gW (.selects RX6 yX6_fogIn yX6_fogIn) := ⟨List.mem_of_getElem? (i := 12) (by decide +kernel), rfl⟩
theorem qS_yX2_rowsByLastSignal : gW (.selects RX2 yX2_rowsByLastSignal yX2_rowsByLastSignal) := ⟨List.mem_of_getElem? (i := 13) (by decide +kernel), rfl⟩
theorem qS_yX8_no : gW (.selects RX8 yX8_no yX8_no) := ⟨List.mem_of_getElem? (i := 14) (by decide +kernel), rfl⟩
theorem qS_yX8_beginning : gW (.selects RX8 yX8_beginning yX8_beginning) := ⟨List.mem_of_getElem? (i := 15) (by decide +kernel), rfl⟩
theorem qS_yX8_behind : gW (.selects RX8 yX8_behind yX8_behind) := ⟨List.mem_of_getElem? (i := 16) (by decide +kernel), rfl⟩
theorem qS_yX8_isSignal : gW (.selects RX8 yX8_isSignal yX8_isSignal) := ⟨List.mem_of_getElem? (i := 17) (by decide +kernel), rfl⟩
theorem qS_yX8_isWhole : gW (.selects RX8 yX8_isWhole yX8_isWhole) := ⟨List.mem_of_getElem? (i := 18) (by decide +kernel), rfl⟩
theorem qS_yX7_own : gW (.selects RX7 yX7_own yX7_own) := ⟨List.mem_of_getElem? (i := 19) (by decide +kernel), rfl⟩
theorem qS_yX7_set : gW (.selects RX7 yX7_set yX7_set) := ⟨List.mem_of_getElem? (i := 20) (by decide +kernel), rfl⟩
theorem qS_yX8_isCart : gW (.selects RX8 yX8_isCart yX8_isCart) := ⟨List.mem_of_getElem? (i := 21) (by decide +kernel), rfl⟩
theorem qS_yX8_cartTold : gW (.selects RX8 yX8_cartTold yX8_cartTold) := ⟨List.mem_of_getElem? (i := 22) (by decide +kernel), rfl⟩
theorem qS_yX7_move : gW (.selects RX7 yX7_move yX7_move) := ⟨List.mem_of_getElem? (i := 23) (by decide +kernel), rfl⟩
theorem qS_yX7_leave : gW (.selects RX7 yX7_leave yX7_leave) := ⟨List.mem_of_getElem? (i := 24) (by decide +kernel), rfl⟩
theorem qS_yX7_comeOn : gW (.selects RX7 yX7_comeOn yX7_comeOn) := ⟨List.mem_of_getElem? (i := 25) (by decide +kernel), rfl⟩
theorem qS_yX7_isBack : gW (.selects RX7 yX7_isBack yX7_isBack) := ⟨List.mem_of_getElem? (i := 26) (by decide +kernel), rfl⟩
theorem qS_yX7_first : gW (.selects RX7 yX7_first yX7_first) := ⟨List.mem_of_getElem? (i := 27) (by decide +kernel), rfl⟩
theorem qS_yX8_counted : gW (.selects RX8 yX8_counted yX8_counted) := ⟨List.mem_of_getElem? (i := 28) (by decide +kernel), rfl⟩
theorem qS_yX7_copy : gW (.selects RX7 yX7_copy yX7_copy) := ⟨List.mem_of_getElem? (i := 29) (by decide +kernel), rfl⟩
theorem qS_yX8_overBy : gW (.selects RX8 yX8_overBy yX8_overBy) := ⟨List.mem_of_getElem? (i := 30) (by decide +kernel), rfl⟩
theorem qN_L : gW (.initialized RL) := ⟨List.mem_of_getElem? (i := 31) (by decide +kernel), rfl⟩
theorem qN_X6 : gW (.initialized RX6) := ⟨List.mem_of_getElem? (i := 32) (by decide +kernel), rfl⟩
theorem qN_X2 : gW (.initialized RX2) := ⟨List.mem_of_getElem? (i := 33) (by decide +kernel), rfl⟩
theorem qN_X0 : gW (.initialized RX0) := ⟨List.mem_of_getElem? (i := 34) (by decide +kernel), rfl⟩
theorem qN_X3 : gW (.initialized RX3) := ⟨List.mem_of_getElem? (i := 35) (by decide +kernel), rfl⟩
theorem qN_X5 : gW (.initialized RX5) := ⟨List.mem_of_getElem? (i := 36) (by decide +kernel), rfl⟩
theorem qN_X1 : gW (.initialized RX1) := ⟨List.mem_of_getElem? (i := 37) (by decide +kernel), rfl⟩
theorem qN_X8 : gW (.initialized RX8) := ⟨List.mem_of_getElem? (i := 38) (by decide +kernel), rfl⟩
theorem qN_X7 : gW (.initialized RX7) := ⟨List.mem_of_getElem? (i := 39) (by decide +kernel), rfl⟩
theorem qN_X4 : gW (.initialized RX4) := ⟨List.mem_of_getElem? (i := 40) (by decide +kernel), rfl⟩
theorem qN_J10 : gW (.initialized RJ10) := ⟨List.mem_of_getElem? (i := 47) (by decide +kernel), rfl⟩
theorem qN_J9 : gW (.initialized RJ9) := ⟨List.mem_of_getElem? (i := 48) (by decide +kernel), rfl⟩
theorem qCL_L_8 : gW (.classLink RL 8 RX6) := ⟨List.mem_of_getElem? (i := 49) (by decide +kernel), rfl⟩
theorem qIn_X6 : gW (.instantiable RX6 5) := ⟨List.mem_of_getElem? (i := 50) (by decide +kernel), rfl⟩
theorem qL_L_69 : gW (.methodLink RL 69 yX6_init) := ⟨List.mem_of_getElem? (i := 51) (by decide +kernel), rfl⟩
theorem qI_yX6_init : gW (.instanceMethod yX6_init) := ⟨List.mem_of_getElem? (i := 52) (by decide +kernel), rfl⟩
theorem qC_yX6_init : gW (.code yX6_init cX6_init 1 none) := ⟨List.mem_of_getElem? (i := 53) (by decide +kernel), rfl⟩
theorem qL_X6_1 : gW (.methodLink RX6 1 objectInit) := ⟨List.mem_of_getElem? (i := 54) (by decide +kernel), rfl⟩
theorem qI_objectInit : gW (.instanceMethod objectInit) := ⟨List.mem_of_getElem? (i := 55) (by decide +kernel), rfl⟩
theorem qC_objectInit : gW (.code objectInit ⟨#[0xb1]⟩ 1 none) := ⟨List.mem_of_getElem? (i := 56) (by decide +kernel), rfl⟩
theorem qCL_X6_7 : gW (.classLink RX6 7 RX2) := ⟨List.mem_of_getElem? (i := 57) (by decide +kernel), rfl⟩
theorem qIn_X2 : gW (.instantiable RX2 3) := ⟨List.mem_of_getElem? (i := 58) (by decide +kernel), rfl⟩
theorem qMN_X6_9 : gW (.methodLinkNest RX6 9 yX2_init "FogBridge") := ⟨List.mem_of_getElem? (i := 59) (by decide +kernel), rfl⟩
theorem qI_yX2_init : gW (.instanceMethod yX2_init) := ⟨List.mem_of_getElem? (i := 60) (by decide +kernel), rfl⟩
theorem qC_yX2_init : gW (.code yX2_init cX2_init 1 none) := ⟨List.mem_of_getElem? (i := 61) (by decide +kernel), rfl⟩
theorem qL_X2_3 : gW (.methodLink RX2 3 objectInit) := ⟨List.mem_of_getElem? (i := 62) (by decide +kernel), rfl⟩
theorem qF_X2_9 : gW (.fieldLink RX2 9 "FogBridge$Code" "signals" "[I") := ⟨List.mem_of_getElem? (i := 63) (by decide +kernel), rfl⟩
theorem qF_X2_15 : gW (.fieldLink RX2 15 "FogBridge$Code" "rowsOfLength" "[I") := ⟨List.mem_of_getElem? (i := 64) (by decide +kernel), rfl⟩
theorem qF_X2_18 : gW (.fieldLink RX2 18 "FogBridge$Code" "size" "I") := ⟨List.mem_of_getElem? (i := 65) (by decide +kernel), rfl⟩
theorem qFN_X6_81 : gW (.fieldLinkNest RX6 81 "FogBridge$Code" "size" "I" "FogBridge") := ⟨List.mem_of_getElem? (i := 66) (by decide +kernel), rfl⟩
theorem qA_int : gW (.arrayClass .int) := ⟨List.mem_of_getElem? (i := 74) (by decide +kernel), rfl⟩
theorem qCL_X6_20 : gW (.classLink RX6 20 RX0) := ⟨List.mem_of_getElem? (i := 75) (by decide +kernel), rfl⟩
theorem qIn_X0 : gW (.instantiable RX0 11) := ⟨List.mem_of_getElem? (i := 76) (by decide +kernel), rfl⟩
theorem qL_X6_22 : gW (.methodLink RX6 22 yX0_init) := ⟨List.mem_of_getElem? (i := 77) (by decide +kernel), rfl⟩
theorem qI_yX0_init : gW (.instanceMethod yX0_init) := ⟨List.mem_of_getElem? (i := 78) (by decide +kernel), rfl⟩
theorem qC_yX0_init : gW (.code yX0_init cX0_init 2 none) := ⟨List.mem_of_getElem? (i := 79) (by decide +kernel), rfl⟩
theorem qL_X0_3 : gW (.methodLink RX0 3 objectInit) := ⟨List.mem_of_getElem? (i := 80) (by decide +kernel), rfl⟩
theorem qCL_X0_24 : gW (.classLink RX0 24 RX1) := ⟨List.mem_of_getElem? (i := 81) (by decide +kernel), rfl⟩
theorem qCL_X0_30 : gW (.classLink RX0 30 RX3) := ⟨List.mem_of_getElem? (i := 83) (by decide +kernel), rfl⟩
theorem qIn_X3 : gW (.instantiable RX3 5) := ⟨List.mem_of_getElem? (i := 84) (by decide +kernel), rfl⟩
theorem qMN_X0_32 : gW (.methodLinkNest RX0 32 yX3_init "FogBridge") := ⟨List.mem_of_getElem? (i := 85) (by decide +kernel), rfl⟩
theorem qI_yX3_init : gW (.instanceMethod yX3_init) := ⟨List.mem_of_getElem? (i := 86) (by decide +kernel), rfl⟩
theorem qC_yX3_init : gW (.code yX3_init cX3_init 1 none) := ⟨List.mem_of_getElem? (i := 87) (by decide +kernel), rfl⟩
theorem qL_X3_3 : gW (.methodLink RX3 3 objectInit) := ⟨List.mem_of_getElem? (i := 88) (by decide +kernel), rfl⟩
theorem qCL_X3_9 : gW (.classLink RX3 9 RX5) := ⟨List.mem_of_getElem? (i := 89) (by decide +kernel), rfl⟩
theorem qIn_X5 : gW (.instantiable RX5 2) := ⟨List.mem_of_getElem? (i := 90) (by decide +kernel), rfl⟩
theorem qMN_X3_11 : gW (.methodLinkNest RX3 11 yX5_init "FogBridge") := ⟨List.mem_of_getElem? (i := 91) (by decide +kernel), rfl⟩
theorem qI_yX5_init : gW (.instanceMethod yX5_init) := ⟨List.mem_of_getElem? (i := 92) (by decide +kernel), rfl⟩
theorem qC_yX5_init : gW (.code yX5_init cX5_init 1 none) := ⟨List.mem_of_getElem? (i := 93) (by decide +kernel), rfl⟩
theorem qL_X5_3 : gW (.methodLink RX5 3 objectInit) := ⟨List.mem_of_getElem? (i := 94) (by decide +kernel), rfl⟩
theorem qF_X5_9 : gW (.fieldLink RX5 9 "FogBridge$Row" "carts" "[I") := ⟨List.mem_of_getElem? (i := 95) (by decide +kernel), rfl⟩
theorem qF_X5_15 : gW (.fieldLink RX5 15 "FogBridge$Row" "size" "I") := ⟨List.mem_of_getElem? (i := 96) (by decide +kernel), rfl⟩
theorem qFN_X3_34 : gW (.fieldLinkNest RX3 34 "FogBridge$Row" "size" "I" "FogBridge") := ⟨List.mem_of_getElem? (i := 97) (by decide +kernel), rfl⟩
theorem qFN_X6_114 : gW (.fieldLinkNest RX6 114 "FogBridge$Row" "size" "I" "FogBridge") := ⟨List.mem_of_getElem? (i := 98) (by decide +kernel), rfl⟩
theorem qFN_X0_80 : gW (.fieldLinkNest RX0 80 "FogBridge$Row" "size" "I" "FogBridge") := ⟨List.mem_of_getElem? (i := 99) (by decide +kernel), rfl⟩
theorem qF_X3_12 : gW (.fieldLink RX3 12 "FogBridge$Gate" "waiting" "LFogBridge$Row;") := ⟨List.mem_of_getElem? (i := 105) (by decide +kernel), rfl⟩
theorem qFN_X6_172 : gW (.fieldLinkNest RX6 172 "FogBridge$Gate" "waiting" "LFogBridge$Row;" "FogBridge") := ⟨List.mem_of_getElem? (i := 106) (by decide +kernel), rfl⟩
theorem qFN_X0_157 : gW (.fieldLinkNest RX0 157 "FogBridge$Gate" "waiting" "LFogBridge$Row;" "FogBridge") := ⟨List.mem_of_getElem? (i := 107) (by decide +kernel), rfl⟩
theorem qF_X3_18 : gW (.fieldLink RX3 18 "FogBridge$Gate" "coins" "I") := ⟨List.mem_of_getElem? (i := 108) (by decide +kernel), rfl⟩
theorem qFN_X0_77 : gW (.fieldLinkNest RX0 77 "FogBridge$Gate" "coins" "I" "FogBridge") := ⟨List.mem_of_getElem? (i := 109) (by decide +kernel), rfl⟩
theorem qFN_X6_209 : gW (.fieldLinkNest RX6 209 "FogBridge$Gate" "coins" "I" "FogBridge") := ⟨List.mem_of_getElem? (i := 110) (by decide +kernel), rfl⟩
theorem qF_X3_22 : gW (.fieldLink RX3 22 "FogBridge$Gate" "payers" "I") := ⟨List.mem_of_getElem? (i := 111) (by decide +kernel), rfl⟩
theorem qF_X3_25 : gW (.fieldLink RX3 25 "FogBridge$Gate" "axles" "I") := ⟨List.mem_of_getElem? (i := 112) (by decide +kernel), rfl⟩
theorem qF_X3_31 : gW (.fieldLink RX3 31 "FogBridge$Gate" "keptByCheats" "I") := ⟨List.mem_of_getElem? (i := 113) (by decide +kernel), rfl⟩
theorem qFN_X6_206 : gW (.fieldLinkNest RX6 206 "FogBridge$Gate" "keptByCheats" "I" "FogBridge") := ⟨List.mem_of_getElem? (i := 114) (by decide +kernel), rfl⟩
theorem qCL_X0_40 : gW (.classLink RX0 40 RX5) := ⟨List.mem_of_getElem? (i := 126) (by decide +kernel), rfl⟩
theorem qMN_X0_42 : gW (.methodLinkNest RX0 42 yX5_init "FogBridge") := ⟨List.mem_of_getElem? (i := 127) (by decide +kernel), rfl⟩
theorem qIn_X1 : gW (.instantiable RX1 11) := ⟨List.mem_of_getElem? (i := 128) (by decide +kernel), rfl⟩
theorem qL_X0_47 : gW (.methodLink RX0 47 yX1_init) := ⟨List.mem_of_getElem? (i := 129) (by decide +kernel), rfl⟩
theorem qI_yX1_init : gW (.instanceMethod yX1_init) := ⟨List.mem_of_getElem? (i := 130) (by decide +kernel), rfl⟩
theorem qC_yX1_init : gW (.code yX1_init cX1_init 2 none) := ⟨List.mem_of_getElem? (i := 131) (by decide +kernel), rfl⟩
theorem qL_X1_3 : gW (.methodLink RX1 3 objectInit) := ⟨List.mem_of_getElem? (i := 132) (by decide +kernel), rfl⟩
theorem qF_X1_18 : gW (.fieldLink RX1 18 "FogBridge$Cart" "number" "I") := ⟨List.mem_of_getElem? (i := 133) (by decide +kernel), rfl⟩
theorem qFN_X6_177 : gW (.fieldLinkNest RX6 177 "FogBridge$Cart" "number" "I" "FogBridge") := ⟨List.mem_of_getElem? (i := 134) (by decide +kernel), rfl⟩
theorem qFN_X0_160 : gW (.fieldLinkNest RX0 160 "FogBridge$Cart" "number" "I" "FogBridge") := ⟨List.mem_of_getElem? (i := 135) (by decide +kernel), rfl⟩
theorem qF_X1_21 : gW (.fieldLink RX1 21 "FogBridge$Cart" "end" "I") := ⟨List.mem_of_getElem? (i := 136) (by decide +kernel), rfl⟩
theorem qFN_X6_147 : gW (.fieldLinkNest RX6 147 "FogBridge$Cart" "end" "I" "FogBridge") := ⟨List.mem_of_getElem? (i := 137) (by decide +kernel), rfl⟩
theorem qFN_X0_100 : gW (.fieldLinkNest RX0 100 "FogBridge$Cart" "end" "I" "FogBridge") := ⟨List.mem_of_getElem? (i := 138) (by decide +kernel), rfl⟩
theorem qF_X1_24 : gW (.fieldLink RX1 24 "FogBridge$Cart" "axles" "I") := ⟨List.mem_of_getElem? (i := 139) (by decide +kernel), rfl⟩
theorem qFN_X3_28 : gW (.fieldLinkNest RX3 28 "FogBridge$Cart" "axles" "I" "FogBridge") := ⟨List.mem_of_getElem? (i := 140) (by decide +kernel), rfl⟩
theorem qFN_X6_152 : gW (.fieldLinkNest RX6 152 "FogBridge$Cart" "axles" "I" "FogBridge") := ⟨List.mem_of_getElem? (i := 141) (by decide +kernel), rfl⟩
theorem qFN_X0_93 : gW (.fieldLinkNest RX0 93 "FogBridge$Cart" "axles" "I" "FogBridge") := ⟨List.mem_of_getElem? (i := 142) (by decide +kernel), rfl⟩
theorem qF_X1_27 : gW (.fieldLink RX1 27 "FogBridge$Cart" "weight" "I") := ⟨List.mem_of_getElem? (i := 143) (by decide +kernel), rfl⟩
theorem qFN_X0_87 : gW (.fieldLinkNest RX0 87 "FogBridge$Cart" "weight" "I" "FogBridge") := ⟨List.mem_of_getElem? (i := 144) (by decide +kernel), rfl⟩
theorem qFN_X6_155 : gW (.fieldLinkNest RX6 155 "FogBridge$Cart" "weight" "I" "FogBridge") := ⟨List.mem_of_getElem? (i := 145) (by decide +kernel), rfl⟩
theorem qF_X1_30 : gW (.fieldLink RX1 30 "FogBridge$Cart" "pace" "I") := ⟨List.mem_of_getElem? (i := 146) (by decide +kernel), rfl⟩
theorem qFN_X6_158 : gW (.fieldLinkNest RX6 158 "FogBridge$Cart" "pace" "I" "FogBridge") := ⟨List.mem_of_getElem? (i := 147) (by decide +kernel), rfl⟩
theorem qFN_X0_96 : gW (.fieldLinkNest RX0 96 "FogBridge$Cart" "pace" "I" "FogBridge") := ⟨List.mem_of_getElem? (i := 148) (by decide +kernel), rfl⟩
theorem qF_X1_33 : gW (.fieldLink RX1 33 "FogBridge$Cart" "coins" "I") := ⟨List.mem_of_getElem? (i := 149) (by decide +kernel), rfl⟩
theorem qFN_X6_161 : gW (.fieldLinkNest RX6 161 "FogBridge$Cart" "coins" "I" "FogBridge") := ⟨List.mem_of_getElem? (i := 150) (by decide +kernel), rfl⟩
theorem qFN_X0_99 : gW (.fieldLinkNest RX0 99 "FogBridge$Cart" "coins" "I" "FogBridge") := ⟨List.mem_of_getElem? (i := 151) (by decide +kernel), rfl⟩
theorem qF_X1_36 : gW (.fieldLink RX1 36 "FogBridge$Cart" "isCheat" "Z") := ⟨List.mem_of_getElem? (i := 152) (by decide +kernel), rfl⟩
theorem qFN_X6_164 : gW (.fieldLinkNest RX6 164 "FogBridge$Cart" "isCheat" "Z" "FogBridge") := ⟨List.mem_of_getElem? (i := 153) (by decide +kernel), rfl⟩
theorem qFN_X0_190 : gW (.fieldLinkNest RX0 190 "FogBridge$Cart" "isCheat" "Z" "FogBridge") := ⟨List.mem_of_getElem? (i := 154) (by decide +kernel), rfl⟩
theorem qF_X1_40 : gW (.fieldLink RX1 40 "FogBridge$Cart" "hasPaid" "Z") := ⟨List.mem_of_getElem? (i := 155) (by decide +kernel), rfl⟩
theorem qFN_X0_173 : gW (.fieldLinkNest RX0 173 "FogBridge$Cart" "hasPaid" "Z" "FogBridge") := ⟨List.mem_of_getElem? (i := 156) (by decide +kernel), rfl⟩
theorem qF_X1_9 : gW (.fieldLink RX1 9 "FogBridge$Cart" "state" "I") := ⟨List.mem_of_getElem? (i := 157) (by decide +kernel), rfl⟩
theorem qFN_X0_74 : gW (.fieldLinkNest RX0 74 "FogBridge$Cart" "state" "I" "FogBridge") := ⟨List.mem_of_getElem? (i := 158) (by decide +kernel), rfl⟩
theorem qF_X1_43 : gW (.fieldLink RX1 43 "FogBridge$Cart" "way" "I") := ⟨List.mem_of_getElem? (i := 159) (by decide +kernel), rfl⟩
theorem qFN_X0_133 : gW (.fieldLinkNest RX0 133 "FogBridge$Cart" "way" "I" "FogBridge") := ⟨List.mem_of_getElem? (i := 160) (by decide +kernel), rfl⟩
theorem qF_X1_15 : gW (.fieldLink RX1 15 "FogBridge$Cart" "overTick" "I") := ⟨List.mem_of_getElem? (i := 161) (by decide +kernel), rfl⟩
theorem qFN_X0_90 : gW (.fieldLinkNest RX0 90 "FogBridge$Cart" "overTick" "I" "FogBridge") := ⟨List.mem_of_getElem? (i := 162) (by decide +kernel), rfl⟩
theorem qFN_X6_90 : gW (.fieldLinkNest RX6 90 "FogBridge$Bridge" "tick" "I" "FogBridge") := ⟨List.mem_of_getElem? (i := 186) (by decide +kernel), rfl⟩
theorem qF_X0_71 : gW (.fieldLink RX0 71 "FogBridge$Bridge" "tick" "I") := ⟨List.mem_of_getElem? (i := 187) (by decide +kernel), rfl⟩
theorem qF_X0_61 : gW (.fieldLink RX0 61 "FogBridge$Bridge" "direction" "I") := ⟨List.mem_of_getElem? (i := 188) (by decide +kernel), rfl⟩
theorem qFN_X6_136 : gW (.fieldLinkNest RX6 136 "FogBridge$Bridge" "direction" "I" "FogBridge") := ⟨List.mem_of_getElem? (i := 189) (by decide +kernel), rfl⟩
theorem qF_X0_9 : gW (.fieldLink RX0 9 "FogBridge$Bridge" "places" "I") := ⟨List.mem_of_getElem? (i := 190) (by decide +kernel), rfl⟩
theorem qFN_X6_122 : gW (.fieldLinkNest RX6 122 "FogBridge$Bridge" "places" "I" "FogBridge") := ⟨List.mem_of_getElem? (i := 191) (by decide +kernel), rfl⟩
theorem qF_X0_15 : gW (.fieldLink RX0 15 "FogBridge$Bridge" "bears" "I") := ⟨List.mem_of_getElem? (i := 192) (by decide +kernel), rfl⟩
theorem qFN_X6_119 : gW (.fieldLinkNest RX6 119 "FogBridge$Bridge" "bears" "I" "FogBridge") := ⟨List.mem_of_getElem? (i := 193) (by decide +kernel), rfl⟩
theorem qF_X0_18 : gW (.fieldLink RX0 18 "FogBridge$Bridge" "axleToll" "I") := ⟨List.mem_of_getElem? (i := 194) (by decide +kernel), rfl⟩
theorem qFN_X6_127 : gW (.fieldLinkNest RX6 127 "FogBridge$Bridge" "axleToll" "I" "FogBridge") := ⟨List.mem_of_getElem? (i := 195) (by decide +kernel), rfl⟩
theorem qF_X0_21 : gW (.fieldLink RX0 21 "FogBridge$Bridge" "tenToll" "I") := ⟨List.mem_of_getElem? (i := 196) (by decide +kernel), rfl⟩
theorem qFN_X6_130 : gW (.fieldLinkNest RX6 130 "FogBridge$Bridge" "tenToll" "I" "FogBridge") := ⟨List.mem_of_getElem? (i := 197) (by decide +kernel), rfl⟩
theorem qF_X0_50 : gW (.fieldLink RX0 50 "FogBridge$Bridge" "cartCount" "I") := ⟨List.mem_of_getElem? (i := 198) (by decide +kernel), rfl⟩
theorem qFN_X6_258 : gW (.fieldLinkNest RX6 258 "FogBridge$Bridge" "cartCount" "I" "FogBridge") := ⟨List.mem_of_getElem? (i := 199) (by decide +kernel), rfl⟩
theorem qF_X0_26 : gW (.fieldLink RX0 26 "FogBridge$Bridge" "carts" "[LFogBridge$Cart;") := ⟨List.mem_of_getElem? (i := 200) (by decide +kernel), rfl⟩
theorem qF_X0_33 : gW (.fieldLink RX0 33 "FogBridge$Bridge" "firstGate" "LFogBridge$Gate;") := ⟨List.mem_of_getElem? (i := 201) (by decide +kernel), rfl⟩
theorem qF_X0_37 : gW (.fieldLink RX0 37 "FogBridge$Bridge" "secondGate" "LFogBridge$Gate;") := ⟨List.mem_of_getElem? (i := 202) (by decide +kernel), rfl⟩
theorem qF_X0_43 : gW (.fieldLink RX0 43 "FogBridge$Bridge" "crossing" "LFogBridge$Row;") := ⟨List.mem_of_getElem? (i := 203) (by decide +kernel), rfl⟩
theorem qFN_X6_110 : gW (.fieldLinkNest RX6 110 "FogBridge$Bridge" "crossing" "LFogBridge$Row;" "FogBridge") := ⟨List.mem_of_getElem? (i := 204) (by decide +kernel), rfl⟩
theorem qF_X6_10 : gW (.fieldLink RX6 10 "FogBridge" "code" "LFogBridge$Code;") := ⟨List.mem_of_getElem? (i := 228) (by decide +kernel), rfl⟩
theorem qF_X6_16 : gW (.fieldLink RX6 16 "FogBridge" "fog" "[I") := ⟨List.mem_of_getElem? (i := 229) (by decide +kernel), rfl⟩
theorem qF_X6_23 : gW (.fieldLink RX6 23 "FogBridge" "bridge" "LFogBridge$Bridge;") := ⟨List.mem_of_getElem? (i := 230) (by decide +kernel), rfl⟩
theorem qF_X6_27 : gW (.fieldLink RX6 27 "FogBridge" "ahead" "LFogBridge$Bridge;") := ⟨List.mem_of_getElem? (i := 231) (by decide +kernel), rfl⟩
theorem qF_X6_30 : gW (.fieldLink RX6 30 "FogBridge" "branch" "LFogBridge$Bridge;") := ⟨List.mem_of_getElem? (i := 232) (by decide +kernel), rfl⟩
theorem qL_L_105 : gW (.methodLink RL 105 yX6_change) := ⟨List.mem_of_getElem? (i := 244) (by decide +kernel), rfl⟩
theorem qI_yX6_change : gW (.instanceMethod yX6_change) := ⟨List.mem_of_getElem? (i := 245) (by decide +kernel), rfl⟩
theorem qS_yX6_change : gW (.selects RX6 yX6_change yX6_change) := ⟨List.mem_of_getElem? (i := 246) (by decide +kernel), rfl⟩
theorem qC_yX6_change : gW (.code yX6_change cX6_change 1 (some .int)) := ⟨List.mem_of_getElem? (i := 247) (by decide +kernel), rfl⟩
theorem qL_X6_133 : gW (.methodLink RX6 133 yX0_turn) := ⟨List.mem_of_getElem? (i := 248) (by decide +kernel), rfl⟩
theorem qI_yX0_turn : gW (.instanceMethod yX0_turn) := ⟨List.mem_of_getElem? (i := 249) (by decide +kernel), rfl⟩
theorem qS_yX0_turn : gW (.selects RX0 yX0_turn yX0_turn) := ⟨List.mem_of_getElem? (i := 250) (by decide +kernel), rfl⟩
theorem qC_yX0_turn : gW (.code yX0_turn cX0_turn 1 none) := ⟨List.mem_of_getElem? (i := 251) (by decide +kernel), rfl⟩
theorem qL_L_134 : gW (.methodLink RL 134 yX6_keep) := ⟨List.mem_of_getElem? (i := 252) (by decide +kernel), rfl⟩
theorem qI_yX6_keep : gW (.instanceMethod yX6_keep) := ⟨List.mem_of_getElem? (i := 253) (by decide +kernel), rfl⟩
theorem qS_yX6_keep : gW (.selects RX6 yX6_keep yX6_keep) := ⟨List.mem_of_getElem? (i := 254) (by decide +kernel), rfl⟩
theorem qC_yX6_keep : gW (.code yX6_keep cX6_keep 6 (some .int)) := ⟨List.mem_of_getElem? (i := 255) (by decide +kernel), rfl⟩
theorem qL_X6_222 : gW (.methodLink RX6 222 yX0_copyFrom) := ⟨List.mem_of_getElem? (i := 256) (by decide +kernel), rfl⟩
theorem qI_yX0_copyFrom : gW (.instanceMethod yX0_copyFrom) := ⟨List.mem_of_getElem? (i := 257) (by decide +kernel), rfl⟩
theorem qS_yX0_copyFrom : gW (.selects RX0 yX0_copyFrom yX0_copyFrom) := ⟨List.mem_of_getElem? (i := 258) (by decide +kernel), rfl⟩
theorem qC_yX0_copyFrom : gW (.code yX0_copyFrom cX0_copyFrom 5 none) := ⟨List.mem_of_getElem? (i := 259) (by decide +kernel), rfl⟩
theorem qL_X0_57 : gW (.methodLink RX0 57 yX0_cartAt) := ⟨List.mem_of_getElem? (i := 260) (by decide +kernel), rfl⟩
theorem qI_yX0_cartAt : gW (.instanceMethod yX0_cartAt) := ⟨List.mem_of_getElem? (i := 261) (by decide +kernel), rfl⟩
theorem qS_yX0_cartAt : gW (.selects RX0 yX0_cartAt yX0_cartAt) := ⟨List.mem_of_getElem? (i := 262) (by decide +kernel), rfl⟩
theorem qC_yX0_cartAt : gW (.code yX0_cartAt cX0_cartAt 2 (some (.object "FogBridge$Cart"))) := ⟨List.mem_of_getElem? (i := 263) (by decide +kernel), rfl⟩
theorem qMN_X0_53 : gW (.methodLinkNest RX0 53 yX6_isIndex "FogBridge") := ⟨List.mem_of_getElem? (i := 264) (by decide +kernel), rfl⟩
theorem qT_yX6_isIndex : gW (.static yX6_isIndex) := ⟨List.mem_of_getElem? (i := 265) (by decide +kernel), rfl⟩
theorem qC_yX6_isIndex : gW (.code yX6_isIndex cX6_isIndex 2 (some .boolean)) := ⟨List.mem_of_getElem? (i := 266) (by decide +kernel), rfl⟩
theorem qL_X0_123 : gW (.methodLink RX0 123 yX1_copyFrom) := ⟨List.mem_of_getElem? (i := 267) (by decide +kernel), rfl⟩
theorem qI_yX1_copyFrom : gW (.instanceMethod yX1_copyFrom) := ⟨List.mem_of_getElem? (i := 268) (by decide +kernel), rfl⟩
theorem qS_yX1_copyFrom : gW (.selects RX1 yX1_copyFrom yX1_copyFrom) := ⟨List.mem_of_getElem? (i := 269) (by decide +kernel), rfl⟩
theorem qC_yX1_copyFrom : gW (.code yX1_copyFrom cX1_copyFrom 2 none) := ⟨List.mem_of_getElem? (i := 270) (by decide +kernel), rfl⟩
theorem qL_X0_127 : gW (.methodLink RX0 127 yX3_copyFrom) := ⟨List.mem_of_getElem? (i := 271) (by decide +kernel), rfl⟩
theorem qI_yX3_copyFrom : gW (.instanceMethod yX3_copyFrom) := ⟨List.mem_of_getElem? (i := 272) (by decide +kernel), rfl⟩
theorem qS_yX3_copyFrom : gW (.selects RX3 yX3_copyFrom yX3_copyFrom) := ⟨List.mem_of_getElem? (i := 273) (by decide +kernel), rfl⟩
theorem qC_yX3_copyFrom : gW (.code yX3_copyFrom cX3_copyFrom 2 none) := ⟨List.mem_of_getElem? (i := 274) (by decide +kernel), rfl⟩
theorem qL_X3_48 : gW (.methodLink RX3 48 yX5_copyFrom) := ⟨List.mem_of_getElem? (i := 275) (by decide +kernel), rfl⟩
theorem qI_yX5_copyFrom : gW (.instanceMethod yX5_copyFrom) := ⟨List.mem_of_getElem? (i := 276) (by decide +kernel), rfl⟩
theorem qS_yX5_copyFrom : gW (.selects RX5 yX5_copyFrom yX5_copyFrom) := ⟨List.mem_of_getElem? (i := 277) (by decide +kernel), rfl⟩
theorem qC_yX5_copyFrom : gW (.code yX5_copyFrom cX5_copyFrom 3 none) := ⟨List.mem_of_getElem? (i := 278) (by decide +kernel), rfl⟩
theorem qL_X5_23 : gW (.methodLink RX5 23 yX5_at) := ⟨List.mem_of_getElem? (i := 279) (by decide +kernel), rfl⟩
theorem qI_yX5_at : gW (.instanceMethod yX5_at) := ⟨List.mem_of_getElem? (i := 280) (by decide +kernel), rfl⟩
theorem qS_yX5_at : gW (.selects RX5 yX5_at yX5_at) := ⟨List.mem_of_getElem? (i := 281) (by decide +kernel), rfl⟩
theorem qC_yX5_at : gW (.code yX5_at cX5_at 2 (some .int)) := ⟨List.mem_of_getElem? (i := 282) (by decide +kernel), rfl⟩
theorem qMN_X5_19 : gW (.methodLinkNest RX5 19 yX6_isIndex "FogBridge") := ⟨List.mem_of_getElem? (i := 283) (by decide +kernel), rfl⟩
theorem qL_X0_130 : gW (.methodLink RX0 130 yX5_copyFrom) := ⟨List.mem_of_getElem? (i := 284) (by decide +kernel), rfl⟩
theorem qL_X6_212 : gW (.methodLink RX6 212 yX0_run) := ⟨List.mem_of_getElem? (i := 285) (by decide +kernel), rfl⟩
theorem qI_yX0_run : gW (.instanceMethod yX0_run) := ⟨List.mem_of_getElem? (i := 286) (by decide +kernel), rfl⟩
theorem qS_yX0_run : gW (.selects RX0 yX0_run yX0_run) := ⟨List.mem_of_getElem? (i := 287) (by decide +kernel), rfl⟩
theorem qC_yX0_run : gW (.code yX0_run cX0_run 4 (some .int)) := ⟨List.mem_of_getElem? (i := 288) (by decide +kernel), rfl⟩
theorem qL_X0_64 : gW (.methodLink RX0 64 yX0_move) := ⟨List.mem_of_getElem? (i := 289) (by decide +kernel), rfl⟩
theorem qI_yX0_move : gW (.instanceMethod yX0_move) := ⟨List.mem_of_getElem? (i := 291) (by decide +kernel), rfl⟩
theorem qC_yX0_move : gW (.code yX0_move cX0_move 2 (some .int)) := ⟨List.mem_of_getElem? (i := 292) (by decide +kernel), rfl⟩
theorem qL_X0_83 : gW (.methodLink RX0 83 yX5_at) := ⟨List.mem_of_getElem? (i := 293) (by decide +kernel), rfl⟩
theorem qL_X0_136 : gW (.methodLink RX0 136 yX0_goOn) := ⟨List.mem_of_getElem? (i := 294) (by decide +kernel), rfl⟩
theorem qI_yX0_goOn : gW (.instanceMethod yX0_goOn) := ⟨List.mem_of_getElem? (i := 296) (by decide +kernel), rfl⟩
theorem qC_yX0_goOn : gW (.code yX0_goOn cX0_goOn 6 (some .int)) := ⟨List.mem_of_getElem? (i := 297) (by decide +kernel), rfl⟩
theorem qL_X0_142 : gW (.methodLink RX0 142 yJ9_min_7cf53) := ⟨List.mem_of_getElem? (i := 298) (by decide +kernel), rfl⟩
theorem qT_yJ9_min_7cf53 : gW (.static yJ9_min_7cf53) := ⟨List.mem_of_getElem? (i := 299) (by decide +kernel), rfl⟩
theorem qC_yJ9_min_7cf53 : gW (.code yJ9_min_7cf53 cJ9_min_7cf53 2 (some .int)) := ⟨List.mem_of_getElem? (i := 300) (by decide +kernel), rfl⟩
theorem qL_X0_147 : gW (.methodLink RX0 147 yX5_removeFirst) := ⟨List.mem_of_getElem? (i := 301) (by decide +kernel), rfl⟩
theorem qI_yX5_removeFirst : gW (.instanceMethod yX5_removeFirst) := ⟨List.mem_of_getElem? (i := 302) (by decide +kernel), rfl⟩
theorem qS_yX5_removeFirst : gW (.selects RX5 yX5_removeFirst yX5_removeFirst) := ⟨List.mem_of_getElem? (i := 303) (by decide +kernel), rfl⟩
theorem qC_yX5_removeFirst : gW (.code yX5_removeFirst cX5_removeFirst 2 none) := ⟨List.mem_of_getElem? (i := 304) (by decide +kernel), rfl⟩
theorem qL_X0_139 : gW (.methodLink RX0 139 yX0_goBack) := ⟨List.mem_of_getElem? (i := 305) (by decide +kernel), rfl⟩
theorem qI_yX0_goBack : gW (.instanceMethod yX0_goBack) := ⟨List.mem_of_getElem? (i := 307) (by decide +kernel), rfl⟩
theorem qC_yX0_goBack : gW (.code yX0_goBack cX0_goBack 5 none) := ⟨List.mem_of_getElem? (i := 308) (by decide +kernel), rfl⟩
theorem qL_X0_150 : gW (.methodLink RX0 150 yJ9_max_7cf53) := ⟨List.mem_of_getElem? (i := 309) (by decide +kernel), rfl⟩
theorem qT_yJ9_max_7cf53 : gW (.static yJ9_max_7cf53) := ⟨List.mem_of_getElem? (i := 310) (by decide +kernel), rfl⟩
theorem qC_yJ9_max_7cf53 : gW (.code yJ9_max_7cf53 cJ9_max_7cf53 2 (some .int)) := ⟨List.mem_of_getElem? (i := 311) (by decide +kernel), rfl⟩
theorem qL_X0_153 : gW (.methodLink RX0 153 yX0_gateAt) := ⟨List.mem_of_getElem? (i := 312) (by decide +kernel), rfl⟩
theorem qI_yX0_gateAt : gW (.instanceMethod yX0_gateAt) := ⟨List.mem_of_getElem? (i := 313) (by decide +kernel), rfl⟩
theorem qS_yX0_gateAt : gW (.selects RX0 yX0_gateAt yX0_gateAt) := ⟨List.mem_of_getElem? (i := 314) (by decide +kernel), rfl⟩
theorem qC_yX0_gateAt : gW (.code yX0_gateAt cX0_gateAt 2 (some (.object "FogBridge$Gate"))) := ⟨List.mem_of_getElem? (i := 315) (by decide +kernel), rfl⟩
theorem qL_X0_163 : gW (.methodLink RX0 163 yX5_addFirst) := ⟨List.mem_of_getElem? (i := 316) (by decide +kernel), rfl⟩
theorem qI_yX5_addFirst : gW (.instanceMethod yX5_addFirst) := ⟨List.mem_of_getElem? (i := 317) (by decide +kernel), rfl⟩
theorem qS_yX5_addFirst : gW (.selects RX5 yX5_addFirst yX5_addFirst) := ⟨List.mem_of_getElem? (i := 318) (by decide +kernel), rfl⟩
theorem qC_yX5_addFirst : gW (.code yX5_addFirst cX5_addFirst 3 none) := ⟨List.mem_of_getElem? (i := 319) (by decide +kernel), rfl⟩
theorem qL_X0_166 : gW (.methodLink RX0 166 yX5_removeLast) := ⟨List.mem_of_getElem? (i := 320) (by decide +kernel), rfl⟩
theorem qI_yX5_removeLast : gW (.instanceMethod yX5_removeLast) := ⟨List.mem_of_getElem? (i := 321) (by decide +kernel), rfl⟩
theorem qS_yX5_removeLast : gW (.selects RX5 yX5_removeLast yX5_removeLast) := ⟨List.mem_of_getElem? (i := 322) (by decide +kernel), rfl⟩
theorem qC_yX5_removeLast : gW (.code yX5_removeLast cX5_removeLast 1 none) := ⟨List.mem_of_getElem? (i := 323) (by decide +kernel), rfl⟩
theorem qL_X0_68 : gW (.methodLink RX0 68 yX0_comeOn) := ⟨List.mem_of_getElem? (i := 324) (by decide +kernel), rfl⟩
theorem qI_yX0_comeOn : gW (.instanceMethod yX0_comeOn) := ⟨List.mem_of_getElem? (i := 326) (by decide +kernel), rfl⟩
theorem qC_yX0_comeOn : gW (.code yX0_comeOn cX0_comeOn 3 none) := ⟨List.mem_of_getElem? (i := 327) (by decide +kernel), rfl⟩
theorem qL_X0_169 : gW (.methodLink RX0 169 yX0_hasRoomFor) := ⟨List.mem_of_getElem? (i := 328) (by decide +kernel), rfl⟩
theorem qI_yX0_hasRoomFor : gW (.instanceMethod yX0_hasRoomFor) := ⟨List.mem_of_getElem? (i := 330) (by decide +kernel), rfl⟩
theorem qC_yX0_hasRoomFor : gW (.code yX0_hasRoomFor cX0_hasRoomFor 4 (some .boolean)) := ⟨List.mem_of_getElem? (i := 331) (by decide +kernel), rfl⟩
theorem qL_X0_184 : gW (.methodLink RX0 184 yX5_last) := ⟨List.mem_of_getElem? (i := 332) (by decide +kernel), rfl⟩
theorem qI_yX5_last : gW (.instanceMethod yX5_last) := ⟨List.mem_of_getElem? (i := 333) (by decide +kernel), rfl⟩
theorem qS_yX5_last : gW (.selects RX5 yX5_last yX5_last) := ⟨List.mem_of_getElem? (i := 334) (by decide +kernel), rfl⟩
theorem qC_yX5_last : gW (.code yX5_last cX5_last 1 (some .int)) := ⟨List.mem_of_getElem? (i := 335) (by decide +kernel), rfl⟩
theorem qL_X0_187 : gW (.methodLink RX0 187 yX0_weightOnBridge) := ⟨List.mem_of_getElem? (i := 336) (by decide +kernel), rfl⟩
theorem qI_yX0_weightOnBridge : gW (.instanceMethod yX0_weightOnBridge) := ⟨List.mem_of_getElem? (i := 337) (by decide +kernel), rfl⟩
theorem qS_yX0_weightOnBridge : gW (.selects RX0 yX0_weightOnBridge yX0_weightOnBridge) := ⟨List.mem_of_getElem? (i := 338) (by decide +kernel), rfl⟩
theorem qC_yX0_weightOnBridge : gW (.code yX0_weightOnBridge cX0_weightOnBridge 4 (some .int)) := ⟨List.mem_of_getElem? (i := 339) (by decide +kernel), rfl⟩
theorem qL_X0_177 : gW (.methodLink RX0 177 yX0_pays) := ⟨List.mem_of_getElem? (i := 340) (by decide +kernel), rfl⟩
theorem qI_yX0_pays : gW (.instanceMethod yX0_pays) := ⟨List.mem_of_getElem? (i := 342) (by decide +kernel), rfl⟩
theorem qC_yX0_pays : gW (.code yX0_pays cX0_pays 5 (some .boolean)) := ⟨List.mem_of_getElem? (i := 343) (by decide +kernel), rfl⟩
theorem qL_X0_107 : gW (.methodLink RX0 107 yX0_tollFor) := ⟨List.mem_of_getElem? (i := 344) (by decide +kernel), rfl⟩
theorem qI_yX0_tollFor : gW (.instanceMethod yX0_tollFor) := ⟨List.mem_of_getElem? (i := 346) (by decide +kernel), rfl⟩
theorem qC_yX0_tollFor : gW (.code yX0_tollFor cX0_tollFor 3 (some .int)) := ⟨List.mem_of_getElem? (i := 347) (by decide +kernel), rfl⟩
theorem qL_X0_193 : gW (.methodLink RX0 193 yX3_take) := ⟨List.mem_of_getElem? (i := 348) (by decide +kernel), rfl⟩
theorem qI_yX3_take : gW (.instanceMethod yX3_take) := ⟨List.mem_of_getElem? (i := 349) (by decide +kernel), rfl⟩
theorem qS_yX3_take : gW (.selects RX3 yX3_take yX3_take) := ⟨List.mem_of_getElem? (i := 350) (by decide +kernel), rfl⟩
theorem qC_yX3_take : gW (.code yX3_take cX3_take 4 none) := ⟨List.mem_of_getElem? (i := 351) (by decide +kernel), rfl⟩
theorem qL_X0_181 : gW (.methodLink RX0 181 yX5_addLast) := ⟨List.mem_of_getElem? (i := 352) (by decide +kernel), rfl⟩
theorem qI_yX5_addLast : gW (.instanceMethod yX5_addLast) := ⟨List.mem_of_getElem? (i := 353) (by decide +kernel), rfl⟩
theorem qS_yX5_addLast : gW (.selects RX5 yX5_addLast yX5_addLast) := ⟨List.mem_of_getElem? (i := 354) (by decide +kernel), rfl⟩
theorem qC_yX5_addLast : gW (.code yX5_addLast cX5_addLast 2 none) := ⟨List.mem_of_getElem? (i := 355) (by decide +kernel), rfl⟩
theorem qL_L_141 : gW (.methodLink RL 141 yX6_mean) := ⟨List.mem_of_getElem? (i := 356) (by decide +kernel), rfl⟩
theorem qI_yX6_mean : gW (.instanceMethod yX6_mean) := ⟨List.mem_of_getElem? (i := 357) (by decide +kernel), rfl⟩
theorem qS_yX6_mean : gW (.selects RX6 yX6_mean yX6_mean) := ⟨List.mem_of_getElem? (i := 358) (by decide +kernel), rfl⟩
theorem qC_yX6_mean : gW (.code yX6_mean cX6_mean 1 (some .double)) := ⟨List.mem_of_getElem? (i := 359) (by decide +kernel), rfl⟩
theorem qL_X6_235 : gW (.methodLink RX6 235 yX0_meanOverTick) := ⟨List.mem_of_getElem? (i := 360) (by decide +kernel), rfl⟩
theorem qI_yX0_meanOverTick : gW (.instanceMethod yX0_meanOverTick) := ⟨List.mem_of_getElem? (i := 361) (by decide +kernel), rfl⟩
theorem qS_yX0_meanOverTick : gW (.selects RX0 yX0_meanOverTick yX0_meanOverTick) := ⟨List.mem_of_getElem? (i := 362) (by decide +kernel), rfl⟩
theorem qC_yX0_meanOverTick : gW (.code yX0_meanOverTick cX0_meanOverTick 6 (some .double)) := ⟨List.mem_of_getElem? (i := 363) (by decide +kernel), rfl⟩
theorem qL_L_146 : gW (.methodLink RL 146 yX6_digest) := ⟨List.mem_of_getElem? (i := 364) (by decide +kernel), rfl⟩
theorem qI_yX6_digest : gW (.instanceMethod yX6_digest) := ⟨List.mem_of_getElem? (i := 365) (by decide +kernel), rfl⟩
theorem qS_yX6_digest : gW (.selects RX6 yX6_digest yX6_digest) := ⟨List.mem_of_getElem? (i := 366) (by decide +kernel), rfl⟩
theorem qC_yX6_digest : gW (.code yX6_digest cX6_digest 4 (some .long)) := ⟨List.mem_of_getElem? (i := 367) (by decide +kernel), rfl⟩
theorem qK_X6_239 : gW (.constantLong RX6 239 (683)) := ⟨List.mem_of_getElem? (i := 368) (by decide +kernel), rfl⟩
theorem qL_X6_217 : gW (.methodLink RX6 217 yX6_countOf) := ⟨List.mem_of_getElem? (i := 369) (by decide +kernel), rfl⟩
theorem qI_yX6_countOf : gW (.instanceMethod yX6_countOf) := ⟨List.mem_of_getElem? (i := 371) (by decide +kernel), rfl⟩
theorem qC_yX6_countOf : gW (.code yX6_countOf cX6_countOf 2 (some .int)) := ⟨List.mem_of_getElem? (i := 372) (by decide +kernel), rfl⟩
theorem qL_X6_261 : gW (.methodLink RX6 261 yX0_cartsIn) := ⟨List.mem_of_getElem? (i := 373) (by decide +kernel), rfl⟩
theorem qI_yX0_cartsIn : gW (.instanceMethod yX0_cartsIn) := ⟨List.mem_of_getElem? (i := 374) (by decide +kernel), rfl⟩
theorem qS_yX0_cartsIn : gW (.selects RX0 yX0_cartsIn yX0_cartsIn) := ⟨List.mem_of_getElem? (i := 375) (by decide +kernel), rfl⟩
theorem qC_yX0_cartsIn : gW (.code yX0_cartsIn cX0_cartsIn 5 (some .int)) := ⟨List.mem_of_getElem? (i := 376) (by decide +kernel), rfl⟩
theorem qL_X6_264 : gW (.methodLink RX6 264 yX0_weightOnBridge) := ⟨List.mem_of_getElem? (i := 377) (by decide +kernel), rfl⟩
theorem qL_X6_241 : gW (.methodLink RX6 241 yX6_mixed) := ⟨List.mem_of_getElem? (i := 378) (by decide +kernel), rfl⟩
theorem qT_yX6_mixed : gW (.static yX6_mixed) := ⟨List.mem_of_getElem? (i := 379) (by decide +kernel), rfl⟩
theorem qC_yX6_mixed : gW (.code yX6_mixed cX6_mixed 3 (some .long)) := ⟨List.mem_of_getElem? (i := 380) (by decide +kernel), rfl⟩
theorem qK_X6_250 : gW (.constantLong RX6 250 (31)) := ⟨List.mem_of_getElem? (i := 381) (by decide +kernel), rfl⟩
theorem qL_X6_245 : gW (.methodLink RX6 245 yX2_mixedInto) := ⟨List.mem_of_getElem? (i := 382) (by decide +kernel), rfl⟩
theorem qI_yX2_mixedInto : gW (.instanceMethod yX2_mixedInto) := ⟨List.mem_of_getElem? (i := 383) (by decide +kernel), rfl⟩
theorem qS_yX2_mixedInto : gW (.selects RX2 yX2_mixedInto yX2_mixedInto) := ⟨List.mem_of_getElem? (i := 384) (by decide +kernel), rfl⟩
theorem qC_yX2_mixedInto : gW (.code yX2_mixedInto cX2_mixedInto 6 (some .long)) := ⟨List.mem_of_getElem? (i := 385) (by decide +kernel), rfl⟩
theorem qL_X2_22 : gW (.methodLink RX2 22 yX2_ringsOf) := ⟨List.mem_of_getElem? (i := 386) (by decide +kernel), rfl⟩
theorem qI_yX2_ringsOf : gW (.instanceMethod yX2_ringsOf) := ⟨List.mem_of_getElem? (i := 387) (by decide +kernel), rfl⟩
theorem qS_yX2_ringsOf : gW (.selects RX2 yX2_ringsOf yX2_ringsOf) := ⟨List.mem_of_getElem? (i := 388) (by decide +kernel), rfl⟩
theorem qC_yX2_ringsOf : gW (.code yX2_ringsOf cX2_ringsOf 2 (some .int)) := ⟨List.mem_of_getElem? (i := 389) (by decide +kernel), rfl⟩
theorem qMN_X2_32 : gW (.methodLinkNest RX2 32 yX6_isIndex "FogBridge") := ⟨List.mem_of_getElem? (i := 390) (by decide +kernel), rfl⟩
theorem qMN_X2_54 : gW (.methodLinkNest RX2 54 yX6_mixed "FogBridge") := ⟨List.mem_of_getElem? (i := 391) (by decide +kernel), rfl⟩
theorem qL_X6_249 : gW (.methodLink RX6 249 yX0_mixedInto) := ⟨List.mem_of_getElem? (i := 392) (by decide +kernel), rfl⟩
theorem qI_yX0_mixedInto : gW (.instanceMethod yX0_mixedInto) := ⟨List.mem_of_getElem? (i := 393) (by decide +kernel), rfl⟩
theorem qS_yX0_mixedInto : gW (.selects RX0 yX0_mixedInto yX0_mixedInto) := ⟨List.mem_of_getElem? (i := 394) (by decide +kernel), rfl⟩
theorem qC_yX0_mixedInto : gW (.code yX0_mixedInto cX0_mixedInto 8 (some .long)) := ⟨List.mem_of_getElem? (i := 395) (by decide +kernel), rfl⟩
theorem qL_X0_111 : gW (.methodLink RX0 111 yX3_mixedInto) := ⟨List.mem_of_getElem? (i := 396) (by decide +kernel), rfl⟩
theorem qI_yX3_mixedInto : gW (.instanceMethod yX3_mixedInto) := ⟨List.mem_of_getElem? (i := 397) (by decide +kernel), rfl⟩
theorem qS_yX3_mixedInto : gW (.selects RX3 yX3_mixedInto yX3_mixedInto) := ⟨List.mem_of_getElem? (i := 398) (by decide +kernel), rfl⟩
theorem qC_yX3_mixedInto : gW (.code yX3_mixedInto cX3_mixedInto 6 (some .long)) := ⟨List.mem_of_getElem? (i := 399) (by decide +kernel), rfl⟩
theorem qL_X3_37 : gW (.methodLink RX3 37 yX3_tell) := ⟨List.mem_of_getElem? (i := 400) (by decide +kernel), rfl⟩
theorem qI_yX3_tell : gW (.instanceMethod yX3_tell) := ⟨List.mem_of_getElem? (i := 401) (by decide +kernel), rfl⟩
theorem qS_yX3_tell : gW (.selects RX3 yX3_tell yX3_tell) := ⟨List.mem_of_getElem? (i := 402) (by decide +kernel), rfl⟩
theorem qC_yX3_tell : gW (.code yX3_tell cX3_tell 2 (some .int)) := ⟨List.mem_of_getElem? (i := 403) (by decide +kernel), rfl⟩
theorem qMN_X3_41 : gW (.methodLinkNest RX3 41 yX6_mixed "FogBridge") := ⟨List.mem_of_getElem? (i := 404) (by decide +kernel), rfl⟩
theorem qL_X3_45 : gW (.methodLink RX3 45 yX5_at) := ⟨List.mem_of_getElem? (i := 405) (by decide +kernel), rfl⟩
theorem qL_X0_115 : gW (.methodLink RX0 115 yX0_tellCart) := ⟨List.mem_of_getElem? (i := 406) (by decide +kernel), rfl⟩
theorem qI_yX0_tellCart : gW (.instanceMethod yX0_tellCart) := ⟨List.mem_of_getElem? (i := 407) (by decide +kernel), rfl⟩
theorem qS_yX0_tellCart : gW (.selects RX0 yX0_tellCart yX0_tellCart) := ⟨List.mem_of_getElem? (i := 408) (by decide +kernel), rfl⟩
theorem qC_yX0_tellCart : gW (.code yX0_tellCart cX0_tellCart 3 (some .int)) := ⟨List.mem_of_getElem? (i := 409) (by decide +kernel), rfl⟩
theorem qL_X0_103 : gW (.methodLink RX0 103 yX0_placeOf) := ⟨List.mem_of_getElem? (i := 410) (by decide +kernel), rfl⟩
theorem qI_yX0_placeOf : gW (.instanceMethod yX0_placeOf) := ⟨List.mem_of_getElem? (i := 412) (by decide +kernel), rfl⟩
theorem qC_yX0_placeOf : gW (.code yX0_placeOf cX0_placeOf 2 (some .int)) := ⟨List.mem_of_getElem? (i := 413) (by decide +kernel), rfl⟩
theorem qMN_X0_119 : gW (.methodLinkNest RX0 119 yX6_mixed "FogBridge") := ⟨List.mem_of_getElem? (i := 414) (by decide +kernel), rfl⟩
theorem qL_L_73 : gW (.methodLink RL 73 yL_addSignal) := ⟨List.mem_of_getElem? (i := 415) (by decide +kernel), rfl⟩
theorem qT_yL_addSignal : gW (.static yL_addSignal) := ⟨List.mem_of_getElem? (i := 416) (by decide +kernel), rfl⟩
theorem qC_yL_addSignal : gW (.codeWith yL_addSignal cL_addSignal 4 (some .int) [(0, 9, 12, 13), (0, 9, 15, 15)]) := ⟨List.mem_of_getElem? (i := 417) (by decide +kernel), rfl⟩
theorem qCL_L_13 : gW (.classLink RL 13 "java/lang/IllegalArgumentException") := ⟨List.mem_of_getElem? (i := 418) (by decide +kernel), rfl⟩
theorem qCL_L_15 : gW (.classLink RL 15 "java/lang/IllegalStateException") := ⟨List.mem_of_getElem? (i := 419) (by decide +kernel), rfl⟩
theorem qL_L_7 : gW (.methodLink RL 7 yX6_addSignal) := ⟨List.mem_of_getElem? (i := 420) (by decide +kernel), rfl⟩
theorem qI_yX6_addSignal : gW (.instanceMethod yX6_addSignal) := ⟨List.mem_of_getElem? (i := 421) (by decide +kernel), rfl⟩
theorem qS_yX6_addSignal : gW (.selects RX6 yX6_addSignal yX6_addSignal) := ⟨List.mem_of_getElem? (i := 422) (by decide +kernel), rfl⟩
theorem qC_yX6_addSignal : gW (.code yX6_addSignal cX6_addSignal 2 (some .int)) := ⟨List.mem_of_getElem? (i := 423) (by decide +kernel), rfl⟩
theorem qL_X6_33 : gW (.methodLink RX6 33 yX4_lengthOf) := ⟨List.mem_of_getElem? (i := 424) (by decide +kernel), rfl⟩
theorem qT_yX4_lengthOf : gW (.static yX4_lengthOf) := ⟨List.mem_of_getElem? (i := 425) (by decide +kernel), rfl⟩
theorem qC_yX4_lengthOf : gW (.code yX4_lengthOf cX4_lengthOf 4 (some .int)) := ⟨List.mem_of_getElem? (i := 426) (by decide +kernel), rfl⟩
theorem qL_X6_39 : gW (.methodLink RX6 39 yX6_isBetween) := ⟨List.mem_of_getElem? (i := 427) (by decide +kernel), rfl⟩
theorem qT_yX6_isBetween : gW (.static yX6_isBetween) := ⟨List.mem_of_getElem? (i := 428) (by decide +kernel), rfl⟩
theorem qC_yX6_isBetween : gW (.code yX6_isBetween cX6_isBetween 3 (some .boolean)) := ⟨List.mem_of_getElem? (i := 429) (by decide +kernel), rfl⟩
theorem qCL_X6_43 : gW (.classLink RX6 43 "java/lang/IllegalArgumentException") := ⟨List.mem_of_getElem? (i := 430) (by decide +kernel), rfl⟩
theorem qL_X6_50 : gW (.methodLink RX6 50 yX2_isFull) := ⟨List.mem_of_getElem? (i := 498) (by decide +kernel), rfl⟩
theorem qI_yX2_isFull : gW (.instanceMethod yX2_isFull) := ⟨List.mem_of_getElem? (i := 499) (by decide +kernel), rfl⟩
theorem qS_yX2_isFull : gW (.selects RX2 yX2_isFull yX2_isFull) := ⟨List.mem_of_getElem? (i := 500) (by decide +kernel), rfl⟩
theorem qC_yX2_isFull : gW (.code yX2_isFull cX2_isFull 1 (some .boolean)) := ⟨List.mem_of_getElem? (i := 501) (by decide +kernel), rfl⟩
theorem qL_X6_54 : gW (.methodLink RX6 54 yX2_isAmbiguousWith) := ⟨List.mem_of_getElem? (i := 502) (by decide +kernel), rfl⟩
theorem qI_yX2_isAmbiguousWith : gW (.instanceMethod yX2_isAmbiguousWith) := ⟨List.mem_of_getElem? (i := 503) (by decide +kernel), rfl⟩
theorem qS_yX2_isAmbiguousWith : gW (.selects RX2 yX2_isAmbiguousWith yX2_isAmbiguousWith) := ⟨List.mem_of_getElem? (i := 504) (by decide +kernel), rfl⟩
theorem qC_yX2_isAmbiguousWith : gW (.code yX2_isAmbiguousWith cX2_isAmbiguousWith 4 (some .boolean)) := ⟨List.mem_of_getElem? (i := 505) (by decide +kernel), rfl⟩
theorem qL_X2_26 : gW (.methodLink RX2 26 yX4_isBeginning) := ⟨List.mem_of_getElem? (i := 506) (by decide +kernel), rfl⟩
theorem qT_yX4_isBeginning : gW (.static yX4_isBeginning) := ⟨List.mem_of_getElem? (i := 507) (by decide +kernel), rfl⟩
theorem qC_yX4_isBeginning : gW (.code yX4_isBeginning cX4_isBeginning 3 (some .boolean)) := ⟨List.mem_of_getElem? (i := 508) (by decide +kernel), rfl⟩
theorem qL_X4_18 : gW (.methodLink RX4 18 yX4_lengthOf) := ⟨List.mem_of_getElem? (i := 509) (by decide +kernel), rfl⟩
theorem qL_X4_9 : gW (.methodLink RX4 9 yX4_withoutLast) := ⟨List.mem_of_getElem? (i := 510) (by decide +kernel), rfl⟩
theorem qT_yX4_withoutLast : gW (.static yX4_withoutLast) := ⟨List.mem_of_getElem? (i := 511) (by decide +kernel), rfl⟩
theorem qC_yX4_withoutLast : gW (.code yX4_withoutLast cX4_withoutLast 4 (some .int)) := ⟨List.mem_of_getElem? (i := 512) (by decide +kernel), rfl⟩
theorem qCL_X6_58 : gW (.classLink RX6 58 "java/lang/IllegalStateException") := ⟨List.mem_of_getElem? (i := 513) (by decide +kernel), rfl⟩
theorem qL_X6_63 : gW (.methodLink RX6 63 yX2_add) := ⟨List.mem_of_getElem? (i := 529) (by decide +kernel), rfl⟩
theorem qI_yX2_add : gW (.instanceMethod yX2_add) := ⟨List.mem_of_getElem? (i := 530) (by decide +kernel), rfl⟩
theorem qS_yX2_add : gW (.selects RX2 yX2_add yX2_add) := ⟨List.mem_of_getElem? (i := 531) (by decide +kernel), rfl⟩
theorem qC_yX2_add : gW (.code yX2_add cX2_add 2 (some .int)) := ⟨List.mem_of_getElem? (i := 532) (by decide +kernel), rfl⟩
theorem qL_L_83 : gW (.methodLink RL 83 yL_read) := ⟨List.mem_of_getElem? (i := 533) (by decide +kernel), rfl⟩
theorem qT_yL_read : gW (.static yL_read) := ⟨List.mem_of_getElem? (i := 534) (by decide +kernel), rfl⟩
theorem qC_yL_read : gW (.codeWith yL_read cL_read 5 (some .int) [(0, 10, 13, 13), (0, 10, 17, 21)]) := ⟨List.mem_of_getElem? (i := 535) (by decide +kernel), rfl⟩
theorem qCL_L_21 : gW (.classLink RL 21 "java/lang/IndexOutOfBoundsException") := ⟨List.mem_of_getElem? (i := 536) (by decide +kernel), rfl⟩
theorem qL_L_17 : gW (.methodLink RL 17 yX6_read) := ⟨List.mem_of_getElem? (i := 537) (by decide +kernel), rfl⟩
theorem qI_yX6_read : gW (.instanceMethod yX6_read) := ⟨List.mem_of_getElem? (i := 538) (by decide +kernel), rfl⟩
theorem qS_yX6_read : gW (.selects RX6 yX6_read yX6_read) := ⟨List.mem_of_getElem? (i := 539) (by decide +kernel), rfl⟩
theorem qC_yX6_read : gW (.code yX6_read cX6_read 3 (some .int)) := ⟨List.mem_of_getElem? (i := 540) (by decide +kernel), rfl⟩
theorem qL_X6_68 : gW (.methodLink RX6 68 yX6_isIndex) := ⟨List.mem_of_getElem? (i := 542) (by decide +kernel), rfl⟩
theorem qCL_X6_72 : gW (.classLink RX6 72 "java/lang/IndexOutOfBoundsException") := ⟨List.mem_of_getElem? (i := 543) (by decide +kernel), rfl⟩
theorem qL_X6_77 : gW (.methodLink RX6 77 yX2_readRow) := ⟨List.mem_of_getElem? (i := 559) (by decide +kernel), rfl⟩
theorem qI_yX2_readRow : gW (.instanceMethod yX2_readRow) := ⟨List.mem_of_getElem? (i := 560) (by decide +kernel), rfl⟩
theorem qS_yX2_readRow : gW (.selects RX2 yX2_readRow yX2_readRow) := ⟨List.mem_of_getElem? (i := 561) (by decide +kernel), rfl⟩
theorem qC_yX2_readRow : gW (.code yX2_readRow cX2_readRow 8 (some .int)) := ⟨List.mem_of_getElem? (i := 562) (by decide +kernel), rfl⟩
theorem qL_X2_35 : gW (.methodLink RX2 35 yX2_signalAtBeginningOf) := ⟨List.mem_of_getElem? (i := 563) (by decide +kernel), rfl⟩
theorem qI_yX2_signalAtBeginningOf : gW (.instanceMethod yX2_signalAtBeginningOf) := ⟨List.mem_of_getElem? (i := 565) (by decide +kernel), rfl⟩
theorem qC_yX2_signalAtBeginningOf : gW (.code yX2_signalAtBeginningOf cX2_signalAtBeginningOf 3 (some .int)) := ⟨List.mem_of_getElem? (i := 566) (by decide +kernel), rfl⟩
theorem qL_X2_38 : gW (.methodLink RX2 38 yX4_behindBeginning) := ⟨List.mem_of_getElem? (i := 567) (by decide +kernel), rfl⟩
theorem qT_yX4_behindBeginning : gW (.static yX4_behindBeginning) := ⟨List.mem_of_getElem? (i := 568) (by decide +kernel), rfl⟩
theorem qC_yX4_behindBeginning : gW (.code yX4_behindBeginning cX4_behindBeginning 2 (some .int)) := ⟨List.mem_of_getElem? (i := 569) (by decide +kernel), rfl⟩
theorem qL_X4_15 : gW (.methodLink RX4 15 yX4_followedBy) := ⟨List.mem_of_getElem? (i := 570) (by decide +kernel), rfl⟩
theorem qT_yX4_followedBy : gW (.static yX4_followedBy) := ⟨List.mem_of_getElem? (i := 571) (by decide +kernel), rfl⟩
theorem qC_yX4_followedBy : gW (.code yX4_followedBy cX4_followedBy 4 (some .int)) := ⟨List.mem_of_getElem? (i := 572) (by decide +kernel), rfl⟩
theorem qL_X2_42 : gW (.methodLink RX2 42 yX4_lengthOf) := ⟨List.mem_of_getElem? (i := 573) (by decide +kernel), rfl⟩
theorem qL_L_87 : gW (.methodLink RL 87 yL_heard) := ⟨List.mem_of_getElem? (i := 574) (by decide +kernel), rfl⟩
theorem qT_yL_heard : gW (.static yL_heard) := ⟨List.mem_of_getElem? (i := 575) (by decide +kernel), rfl⟩
theorem qC_yL_heard : gW (.codeWith yL_heard cL_heard 4 (some .int) [(0, 9, 12, 21)]) := ⟨List.mem_of_getElem? (i := 576) (by decide +kernel), rfl⟩
theorem qL_L_23 : gW (.methodLink RL 23 yX6_heard) := ⟨List.mem_of_getElem? (i := 577) (by decide +kernel), rfl⟩
theorem qI_yX6_heard : gW (.instanceMethod yX6_heard) := ⟨List.mem_of_getElem? (i := 578) (by decide +kernel), rfl⟩
theorem qS_yX6_heard : gW (.selects RX6 yX6_heard yX6_heard) := ⟨List.mem_of_getElem? (i := 579) (by decide +kernel), rfl⟩
theorem qC_yX6_heard : gW (.code yX6_heard cX6_heard 2 (some .int)) := ⟨List.mem_of_getElem? (i := 580) (by decide +kernel), rfl⟩
theorem qL_X6_87 : gW (.methodLink RX6 87 yX2_ringsOf) := ⟨List.mem_of_getElem? (i := 582) (by decide +kernel), rfl⟩
theorem qL_X6_93 : gW (.methodLink RX6 93 yX6_ringsHeard) := ⟨List.mem_of_getElem? (i := 583) (by decide +kernel), rfl⟩
theorem qI_yX6_ringsHeard : gW (.instanceMethod yX6_ringsHeard) := ⟨List.mem_of_getElem? (i := 585) (by decide +kernel), rfl⟩
theorem qC_yX6_ringsHeard : gW (.code yX6_ringsHeard cX6_ringsHeard 8 (some .int)) := ⟨List.mem_of_getElem? (i := 586) (by decide +kernel), rfl⟩
theorem qL_X6_252 : gW (.methodLink RX6 252 yX4_ringAt) := ⟨List.mem_of_getElem? (i := 587) (by decide +kernel), rfl⟩
theorem qT_yX4_ringAt : gW (.static yX4_ringAt) := ⟨List.mem_of_getElem? (i := 588) (by decide +kernel), rfl⟩
theorem qC_yX4_ringAt : gW (.code yX4_ringAt cX4_ringAt 2 (some .int)) := ⟨List.mem_of_getElem? (i := 589) (by decide +kernel), rfl⟩
theorem qL_X6_255 : gW (.methodLink RX6 255 yX6_fogIn) := ⟨List.mem_of_getElem? (i := 590) (by decide +kernel), rfl⟩
theorem qI_yX6_fogIn : gW (.instanceMethod yX6_fogIn) := ⟨List.mem_of_getElem? (i := 592) (by decide +kernel), rfl⟩
theorem qC_yX6_fogIn : gW (.code yX6_fogIn cX6_fogIn 3 (some .int)) := ⟨List.mem_of_getElem? (i := 593) (by decide +kernel), rfl⟩
theorem qL_L_90 : gW (.methodLink RL 90 yL_safe) := ⟨List.mem_of_getElem? (i := 594) (by decide +kernel), rfl⟩
theorem qT_yL_safe : gW (.static yL_safe) := ⟨List.mem_of_getElem? (i := 595) (by decide +kernel), rfl⟩
theorem qC_yL_safe : gW (.codeWith yL_safe cL_safe 4 (some .int) [(0, 9, 12, 21)]) := ⟨List.mem_of_getElem? (i := 596) (by decide +kernel), rfl⟩
theorem qL_L_26 : gW (.methodLink RL 26 yX6_safe) := ⟨List.mem_of_getElem? (i := 597) (by decide +kernel), rfl⟩
theorem qI_yX6_safe : gW (.instanceMethod yX6_safe) := ⟨List.mem_of_getElem? (i := 598) (by decide +kernel), rfl⟩
theorem qS_yX6_safe : gW (.selects RX6 yX6_safe yX6_safe) := ⟨List.mem_of_getElem? (i := 599) (by decide +kernel), rfl⟩
theorem qC_yX6_safe : gW (.code yX6_safe cX6_safe 2 (some .int)) := ⟨List.mem_of_getElem? (i := 600) (by decide +kernel), rfl⟩
theorem qL_X6_96 : gW (.methodLink RX6 96 yX2_safeRings) := ⟨List.mem_of_getElem? (i := 601) (by decide +kernel), rfl⟩
theorem qI_yX2_safeRings : gW (.instanceMethod yX2_safeRings) := ⟨List.mem_of_getElem? (i := 602) (by decide +kernel), rfl⟩
theorem qS_yX2_safeRings : gW (.selects RX2 yX2_safeRings yX2_safeRings) := ⟨List.mem_of_getElem? (i := 603) (by decide +kernel), rfl⟩
theorem qC_yX2_safeRings : gW (.code yX2_safeRings cX2_safeRings 6 (some .int)) := ⟨List.mem_of_getElem? (i := 604) (by decide +kernel), rfl⟩
theorem qL_X2_45 : gW (.methodLink RX2 45 yX4_withoutRing) := ⟨List.mem_of_getElem? (i := 605) (by decide +kernel), rfl⟩
theorem qT_yX4_withoutRing : gW (.static yX4_withoutRing) := ⟨List.mem_of_getElem? (i := 606) (by decide +kernel), rfl⟩
theorem qC_yX4_withoutRing : gW (.code yX4_withoutRing cX4_withoutRing 3 (some .int)) := ⟨List.mem_of_getElem? (i := 607) (by decide +kernel), rfl⟩
theorem qL_X2_48 : gW (.methodLink RX2 48 yX2_readRow) := ⟨List.mem_of_getElem? (i := 608) (by decide +kernel), rfl⟩
theorem qL_L_93 : gW (.methodLink RL 93 yL_rows) := ⟨List.mem_of_getElem? (i := 609) (by decide +kernel), rfl⟩
theorem qT_yL_rows : gW (.static yL_rows) := ⟨List.mem_of_getElem? (i := 610) (by decide +kernel), rfl⟩
theorem qC_yL_rows : gW (.codeWith yL_rows cL_rows 4 (some .int) [(0, 9, 12, 13)]) := ⟨List.mem_of_getElem? (i := 611) (by decide +kernel), rfl⟩
theorem qL_L_29 : gW (.methodLink RL 29 yX6_rows) := ⟨List.mem_of_getElem? (i := 612) (by decide +kernel), rfl⟩
theorem qI_yX6_rows : gW (.instanceMethod yX6_rows) := ⟨List.mem_of_getElem? (i := 613) (by decide +kernel), rfl⟩
theorem qS_yX6_rows : gW (.selects RX6 yX6_rows yX6_rows) := ⟨List.mem_of_getElem? (i := 614) (by decide +kernel), rfl⟩
theorem qC_yX6_rows : gW (.code yX6_rows cX6_rows 2 (some .int)) := ⟨List.mem_of_getElem? (i := 615) (by decide +kernel), rfl⟩
theorem qL_X6_101 : gW (.methodLink RX6 101 yX2_wholeRows) := ⟨List.mem_of_getElem? (i := 617) (by decide +kernel), rfl⟩
theorem qI_yX2_wholeRows : gW (.instanceMethod yX2_wholeRows) := ⟨List.mem_of_getElem? (i := 618) (by decide +kernel), rfl⟩
theorem qS_yX2_wholeRows : gW (.selects RX2 yX2_wholeRows yX2_wholeRows) := ⟨List.mem_of_getElem? (i := 619) (by decide +kernel), rfl⟩
theorem qC_yX2_wholeRows : gW (.code yX2_wholeRows cX2_wholeRows 3 (some .int)) := ⟨List.mem_of_getElem? (i := 620) (by decide +kernel), rfl⟩
theorem qL_X2_51 : gW (.methodLink RX2 51 yX2_rowsByLastSignal) := ⟨List.mem_of_getElem? (i := 621) (by decide +kernel), rfl⟩
theorem qI_yX2_rowsByLastSignal : gW (.instanceMethod yX2_rowsByLastSignal) := ⟨List.mem_of_getElem? (i := 623) (by decide +kernel), rfl⟩
theorem qC_yX2_rowsByLastSignal : gW (.code yX2_rowsByLastSignal cX2_rowsByLastSignal 5 (some .int)) := ⟨List.mem_of_getElem? (i := 624) (by decide +kernel), rfl⟩
theorem qL_L_96 : gW (.methodLink RL 96 yL_setFog) := ⟨List.mem_of_getElem? (i := 625) (by decide +kernel), rfl⟩
theorem qT_yL_setFog : gW (.static yL_setFog) := ⟨List.mem_of_getElem? (i := 626) (by decide +kernel), rfl⟩
theorem qC_yL_setFog : gW (.codeWith yL_setFog cL_setFog 5 (some .int) [(0, 10, 13, 21), (0, 10, 17, 13)]) := ⟨List.mem_of_getElem? (i := 627) (by decide +kernel), rfl⟩
theorem qL_L_32 : gW (.methodLink RL 32 yX6_setFog) := ⟨List.mem_of_getElem? (i := 628) (by decide +kernel), rfl⟩
theorem qI_yX6_setFog : gW (.instanceMethod yX6_setFog) := ⟨List.mem_of_getElem? (i := 629) (by decide +kernel), rfl⟩
theorem qS_yX6_setFog : gW (.selects RX6 yX6_setFog yX6_setFog) := ⟨List.mem_of_getElem? (i := 630) (by decide +kernel), rfl⟩
theorem qC_yX6_setFog : gW (.code yX6_setFog cX6_setFog 4 (some .int)) := ⟨List.mem_of_getElem? (i := 631) (by decide +kernel), rfl⟩
theorem qL_L_99 : gW (.methodLink RL 99 yL_rebuild) := ⟨List.mem_of_getElem? (i := 634) (by decide +kernel), rfl⟩
theorem qT_yL_rebuild : gW (.static yL_rebuild) := ⟨List.mem_of_getElem? (i := 635) (by decide +kernel), rfl⟩
theorem qC_yL_rebuild : gW (.codeWith yL_rebuild cL_rebuild 5 (some .int) [(0, 10, 13, 13), (0, 10, 17, 15)]) := ⟨List.mem_of_getElem? (i := 636) (by decide +kernel), rfl⟩
theorem qL_L_35 : gW (.methodLink RL 35 yX6_rebuild) := ⟨List.mem_of_getElem? (i := 637) (by decide +kernel), rfl⟩
theorem qI_yX6_rebuild : gW (.instanceMethod yX6_rebuild) := ⟨List.mem_of_getElem? (i := 638) (by decide +kernel), rfl⟩
theorem qS_yX6_rebuild : gW (.selects RX6 yX6_rebuild yX6_rebuild) := ⟨List.mem_of_getElem? (i := 639) (by decide +kernel), rfl⟩
theorem qC_yX6_rebuild : gW (.code yX6_rebuild cX6_rebuild 4 (some .int)) := ⟨List.mem_of_getElem? (i := 640) (by decide +kernel), rfl⟩
theorem qL_L_102 : gW (.methodLink RL 102 yL_setToll) := ⟨List.mem_of_getElem? (i := 643) (by decide +kernel), rfl⟩
theorem qT_yL_setToll : gW (.static yL_setToll) := ⟨List.mem_of_getElem? (i := 644) (by decide +kernel), rfl⟩
theorem qC_yL_setToll : gW (.codeWith yL_setToll cL_setToll 5 (some .int) [(0, 10, 13, 13)]) := ⟨List.mem_of_getElem? (i := 645) (by decide +kernel), rfl⟩
theorem qL_L_38 : gW (.methodLink RL 38 yX6_setToll) := ⟨List.mem_of_getElem? (i := 646) (by decide +kernel), rfl⟩
theorem qI_yX6_setToll : gW (.instanceMethod yX6_setToll) := ⟨List.mem_of_getElem? (i := 647) (by decide +kernel), rfl⟩
theorem qS_yX6_setToll : gW (.selects RX6 yX6_setToll yX6_setToll) := ⟨List.mem_of_getElem? (i := 648) (by decide +kernel), rfl⟩
theorem qC_yX6_setToll : gW (.code yX6_setToll cX6_setToll 4 (some .int)) := ⟨List.mem_of_getElem? (i := 649) (by decide +kernel), rfl⟩
theorem qL_L_109 : gW (.methodLink RL 109 yL_come) := ⟨List.mem_of_getElem? (i := 651) (by decide +kernel), rfl⟩
theorem qT_yL_come : gW (.static yL_come) := ⟨List.mem_of_getElem? (i := 652) (by decide +kernel), rfl⟩
theorem qC_yL_come : gW (.codeWith yL_come cL_come 9 (some .int) [(0, 18, 21, 13), (0, 18, 25, 15)]) := ⟨List.mem_of_getElem? (i := 653) (by decide +kernel), rfl⟩
theorem qL_L_41 : gW (.methodLink RL 41 yX6_come) := ⟨List.mem_of_getElem? (i := 654) (by decide +kernel), rfl⟩
theorem qI_yX6_come : gW (.instanceMethod yX6_come) := ⟨List.mem_of_getElem? (i := 655) (by decide +kernel), rfl⟩
theorem qS_yX6_come : gW (.selects RX6 yX6_come yX6_come) := ⟨List.mem_of_getElem? (i := 656) (by decide +kernel), rfl⟩
theorem qC_yX6_come : gW (.code yX6_come cX6_come 8 (some .int)) := ⟨List.mem_of_getElem? (i := 657) (by decide +kernel), rfl⟩
theorem qL_X6_141 : gW (.methodLink RX6 141 yX0_newCart) := ⟨List.mem_of_getElem? (i := 659) (by decide +kernel), rfl⟩
theorem qI_yX0_newCart : gW (.instanceMethod yX0_newCart) := ⟨List.mem_of_getElem? (i := 660) (by decide +kernel), rfl⟩
theorem qS_yX0_newCart : gW (.selects RX0 yX0_newCart yX0_newCart) := ⟨List.mem_of_getElem? (i := 661) (by decide +kernel), rfl⟩
theorem qC_yX0_newCart : gW (.code yX0_newCart cX0_newCart 1 (some (.object "FogBridge$Cart"))) := ⟨List.mem_of_getElem? (i := 662) (by decide +kernel), rfl⟩
theorem qL_X6_168 : gW (.methodLink RX6 168 yX0_gateAt) := ⟨List.mem_of_getElem? (i := 664) (by decide +kernel), rfl⟩
theorem qL_X6_180 : gW (.methodLink RX6 180 yX5_addLast) := ⟨List.mem_of_getElem? (i := 665) (by decide +kernel), rfl⟩
theorem qL_L_113 : gW (.methodLink RL 113 yL_cart) := ⟨List.mem_of_getElem? (i := 666) (by decide +kernel), rfl⟩
theorem qT_yL_cart : gW (.static yL_cart) := ⟨List.mem_of_getElem? (i := 667) (by decide +kernel), rfl⟩
theorem qC_yL_cart : gW (.codeWith yL_cart cL_cart 5 (some .int) [(0, 10, 13, 21)]) := ⟨List.mem_of_getElem? (i := 668) (by decide +kernel), rfl⟩
theorem qL_L_45 : gW (.methodLink RL 45 yX6_cart) := ⟨List.mem_of_getElem? (i := 669) (by decide +kernel), rfl⟩
theorem qI_yX6_cart : gW (.instanceMethod yX6_cart) := ⟨List.mem_of_getElem? (i := 670) (by decide +kernel), rfl⟩
theorem qS_yX6_cart : gW (.selects RX6 yX6_cart yX6_cart) := ⟨List.mem_of_getElem? (i := 671) (by decide +kernel), rfl⟩
theorem qC_yX6_cart : gW (.code yX6_cart cX6_cart 4 (some .int)) := ⟨List.mem_of_getElem? (i := 672) (by decide +kernel), rfl⟩
theorem qL_X6_184 : gW (.methodLink RX6 184 yX0_cartAt) := ⟨List.mem_of_getElem? (i := 673) (by decide +kernel), rfl⟩
theorem qL_X6_190 : gW (.methodLink RX6 190 yX0_tellCart) := ⟨List.mem_of_getElem? (i := 675) (by decide +kernel), rfl⟩
theorem qL_L_116 : gW (.methodLink RL 116 yL_queue) := ⟨List.mem_of_getElem? (i := 676) (by decide +kernel), rfl⟩
theorem qT_yL_queue : gW (.static yL_queue) := ⟨List.mem_of_getElem? (i := 677) (by decide +kernel), rfl⟩
theorem qC_yL_queue : gW (.codeWith yL_queue cL_queue 5 (some .int) [(0, 10, 13, 21)]) := ⟨List.mem_of_getElem? (i := 678) (by decide +kernel), rfl⟩
theorem qL_L_48 : gW (.methodLink RL 48 yX6_queue) := ⟨List.mem_of_getElem? (i := 679) (by decide +kernel), rfl⟩
theorem qI_yX6_queue : gW (.instanceMethod yX6_queue) := ⟨List.mem_of_getElem? (i := 680) (by decide +kernel), rfl⟩
theorem qS_yX6_queue : gW (.selects RX6 yX6_queue yX6_queue) := ⟨List.mem_of_getElem? (i := 681) (by decide +kernel), rfl⟩
theorem qC_yX6_queue : gW (.code yX6_queue cX6_queue 3 (some .int)) := ⟨List.mem_of_getElem? (i := 682) (by decide +kernel), rfl⟩
theorem qL_X6_196 : gW (.methodLink RX6 196 yX5_at) := ⟨List.mem_of_getElem? (i := 684) (by decide +kernel), rfl⟩
theorem qL_L_119 : gW (.methodLink RL 119 yL_box) := ⟨List.mem_of_getElem? (i := 685) (by decide +kernel), rfl⟩
theorem qT_yL_box : gW (.static yL_box) := ⟨List.mem_of_getElem? (i := 686) (by decide +kernel), rfl⟩
theorem qC_yL_box : gW (.codeWith yL_box cL_box 5 (some .int) [(0, 10, 13, 21)]) := ⟨List.mem_of_getElem? (i := 687) (by decide +kernel), rfl⟩
theorem qL_L_51 : gW (.methodLink RL 51 yX6_box) := ⟨List.mem_of_getElem? (i := 688) (by decide +kernel), rfl⟩
theorem qI_yX6_box : gW (.instanceMethod yX6_box) := ⟨List.mem_of_getElem? (i := 689) (by decide +kernel), rfl⟩
theorem qS_yX6_box : gW (.selects RX6 yX6_box yX6_box) := ⟨List.mem_of_getElem? (i := 690) (by decide +kernel), rfl⟩
theorem qC_yX6_box : gW (.code yX6_box cX6_box 3 (some .int)) := ⟨List.mem_of_getElem? (i := 691) (by decide +kernel), rfl⟩
theorem qL_X6_201 : gW (.methodLink RX6 201 yX3_tell) := ⟨List.mem_of_getElem? (i := 693) (by decide +kernel), rfl⟩
theorem qL_L_122 : gW (.methodLink RL 122 yL_empty) := ⟨List.mem_of_getElem? (i := 694) (by decide +kernel), rfl⟩
theorem qT_yL_empty : gW (.static yL_empty) := ⟨List.mem_of_getElem? (i := 695) (by decide +kernel), rfl⟩
theorem qC_yL_empty : gW (.codeWith yL_empty cL_empty 4 (some .int) [(0, 9, 12, 21)]) := ⟨List.mem_of_getElem? (i := 696) (by decide +kernel), rfl⟩
theorem qL_L_54 : gW (.methodLink RL 54 yX6_empty) := ⟨List.mem_of_getElem? (i := 697) (by decide +kernel), rfl⟩
theorem qI_yX6_empty : gW (.instanceMethod yX6_empty) := ⟨List.mem_of_getElem? (i := 698) (by decide +kernel), rfl⟩
theorem qS_yX6_empty : gW (.selects RX6 yX6_empty yX6_empty) := ⟨List.mem_of_getElem? (i := 699) (by decide +kernel), rfl⟩
theorem qC_yX6_empty : gW (.code yX6_empty cX6_empty 4 (some .int)) := ⟨List.mem_of_getElem? (i := 700) (by decide +kernel), rfl⟩
theorem qL_L_125 : gW (.methodLink RL 125 yL_pass) := ⟨List.mem_of_getElem? (i := 702) (by decide +kernel), rfl⟩
theorem qT_yL_pass : gW (.static yL_pass) := ⟨List.mem_of_getElem? (i := 703) (by decide +kernel), rfl⟩
theorem qC_yL_pass : gW (.codeWith yL_pass cL_pass 4 (some .int) [(0, 9, 12, 13)]) := ⟨List.mem_of_getElem? (i := 704) (by decide +kernel), rfl⟩
theorem qL_L_57 : gW (.methodLink RL 57 yX6_pass) := ⟨List.mem_of_getElem? (i := 705) (by decide +kernel), rfl⟩
theorem qI_yX6_pass : gW (.instanceMethod yX6_pass) := ⟨List.mem_of_getElem? (i := 706) (by decide +kernel), rfl⟩
theorem qS_yX6_pass : gW (.selects RX6 yX6_pass yX6_pass) := ⟨List.mem_of_getElem? (i := 707) (by decide +kernel), rfl⟩
theorem qC_yX6_pass : gW (.code yX6_pass cX6_pass 2 (some .int)) := ⟨List.mem_of_getElem? (i := 708) (by decide +kernel), rfl⟩
theorem qL_L_128 : gW (.methodLink RL 128 yL_count) := ⟨List.mem_of_getElem? (i := 710) (by decide +kernel), rfl⟩
theorem qT_yL_count : gW (.static yL_count) := ⟨List.mem_of_getElem? (i := 711) (by decide +kernel), rfl⟩
theorem qC_yL_count : gW (.codeWith yL_count cL_count 4 (some .int) [(0, 9, 12, 21)]) := ⟨List.mem_of_getElem? (i := 712) (by decide +kernel), rfl⟩
theorem qL_L_60 : gW (.methodLink RL 60 yX6_count) := ⟨List.mem_of_getElem? (i := 713) (by decide +kernel), rfl⟩
theorem qI_yX6_count : gW (.instanceMethod yX6_count) := ⟨List.mem_of_getElem? (i := 714) (by decide +kernel), rfl⟩
theorem qS_yX6_count : gW (.selects RX6 yX6_count yX6_count) := ⟨List.mem_of_getElem? (i := 715) (by decide +kernel), rfl⟩
theorem qC_yX6_count : gW (.code yX6_count cX6_count 2 (some .int)) := ⟨List.mem_of_getElem? (i := 716) (by decide +kernel), rfl⟩
theorem qL_L_131 : gW (.methodLink RL 131 yL_over) := ⟨List.mem_of_getElem? (i := 718) (by decide +kernel), rfl⟩
theorem qT_yL_over : gW (.static yL_over) := ⟨List.mem_of_getElem? (i := 719) (by decide +kernel), rfl⟩
theorem qC_yL_over : gW (.codeWith yL_over cL_over 4 (some .int) [(0, 9, 12, 21)]) := ⟨List.mem_of_getElem? (i := 720) (by decide +kernel), rfl⟩
theorem qL_L_63 : gW (.methodLink RL 63 yX6_over) := ⟨List.mem_of_getElem? (i := 721) (by decide +kernel), rfl⟩
theorem qI_yX6_over : gW (.instanceMethod yX6_over) := ⟨List.mem_of_getElem? (i := 722) (by decide +kernel), rfl⟩
theorem qS_yX6_over : gW (.selects RX6 yX6_over yX6_over) := ⟨List.mem_of_getElem? (i := 723) (by decide +kernel), rfl⟩
theorem qC_yX6_over : gW (.code yX6_over cX6_over 3 (some .int)) := ⟨List.mem_of_getElem? (i := 724) (by decide +kernel), rfl⟩
theorem qL_X6_226 : gW (.methodLink RX6 226 yX0_isOver) := ⟨List.mem_of_getElem? (i := 726) (by decide +kernel), rfl⟩
theorem qI_yX0_isOver : gW (.instanceMethod yX0_isOver) := ⟨List.mem_of_getElem? (i := 727) (by decide +kernel), rfl⟩
theorem qS_yX0_isOver : gW (.selects RX0 yX0_isOver yX0_isOver) := ⟨List.mem_of_getElem? (i := 728) (by decide +kernel), rfl⟩
theorem qC_yX0_isOver : gW (.code yX0_isOver cX0_isOver 3 (some .boolean)) := ⟨List.mem_of_getElem? (i := 729) (by decide +kernel), rfl⟩
theorem qL_L_138 : gW (.methodLink RL 138 yL_foresee) := ⟨List.mem_of_getElem? (i := 730) (by decide +kernel), rfl⟩
theorem qT_yL_foresee : gW (.static yL_foresee) := ⟨List.mem_of_getElem? (i := 731) (by decide +kernel), rfl⟩
theorem qC_yL_foresee : gW (.codeWith yL_foresee cL_foresee 5 (some .int) [(0, 10, 13, 13), (0, 10, 17, 21)]) := ⟨List.mem_of_getElem? (i := 732) (by decide +kernel), rfl⟩
theorem qL_L_66 : gW (.methodLink RL 66 yX6_foresee) := ⟨List.mem_of_getElem? (i := 733) (by decide +kernel), rfl⟩
theorem qI_yX6_foresee : gW (.instanceMethod yX6_foresee) := ⟨List.mem_of_getElem? (i := 734) (by decide +kernel), rfl⟩
theorem qS_yX6_foresee : gW (.selects RX6 yX6_foresee yX6_foresee) := ⟨List.mem_of_getElem? (i := 735) (by decide +kernel), rfl⟩
theorem qC_yX6_foresee : gW (.code yX6_foresee cX6_foresee 4 (some .int)) := ⟨List.mem_of_getElem? (i := 736) (by decide +kernel), rfl⟩
theorem qL_X6_231 : gW (.methodLink RX6 231 yX0_coinsInBoxes) := ⟨List.mem_of_getElem? (i := 738) (by decide +kernel), rfl⟩
theorem qI_yX0_coinsInBoxes : gW (.instanceMethod yX0_coinsInBoxes) := ⟨List.mem_of_getElem? (i := 739) (by decide +kernel), rfl⟩
theorem qS_yX0_coinsInBoxes : gW (.selects RX0 yX0_coinsInBoxes yX0_coinsInBoxes) := ⟨List.mem_of_getElem? (i := 740) (by decide +kernel), rfl⟩
theorem qC_yX0_coinsInBoxes : gW (.code yX0_coinsInBoxes cX0_coinsInBoxes 1 (some .int)) := ⟨List.mem_of_getElem? (i := 741) (by decide +kernel), rfl⟩
theorem qCL_L_70 : gW (.classLink RL 70 RX8) := ⟨List.mem_of_getElem? (i := 742) (by decide +kernel), rfl⟩
theorem qIn_X8 : gW (.instantiable RX8 10) := ⟨List.mem_of_getElem? (i := 743) (by decide +kernel), rfl⟩
theorem qL_L_72 : gW (.methodLink RL 72 yX8_init) := ⟨List.mem_of_getElem? (i := 744) (by decide +kernel), rfl⟩
theorem qI_yX8_init : gW (.instanceMethod yX8_init) := ⟨List.mem_of_getElem? (i := 745) (by decide +kernel), rfl⟩
theorem qC_yX8_init : gW (.code yX8_init cX8_init 1 none) := ⟨List.mem_of_getElem? (i := 746) (by decide +kernel), rfl⟩
theorem qL_X8_1 : gW (.methodLink RX8 1 objectInit) := ⟨List.mem_of_getElem? (i := 747) (by decide +kernel), rfl⟩
theorem qCL_X8_29 : gW (.classLink RX8 29 RX7) := ⟨List.mem_of_getElem? (i := 748) (by decide +kernel), rfl⟩
theorem qIn_X7 : gW (.instantiable RX7 8) := ⟨List.mem_of_getElem? (i := 749) (by decide +kernel), rfl⟩
theorem qL_X8_31 : gW (.methodLink RX8 31 yX7_init) := ⟨List.mem_of_getElem? (i := 750) (by decide +kernel), rfl⟩
theorem qI_yX7_init : gW (.instanceMethod yX7_init) := ⟨List.mem_of_getElem? (i := 751) (by decide +kernel), rfl⟩
theorem qC_yX7_init : gW (.code yX7_init cX7_init 3 none) := ⟨List.mem_of_getElem? (i := 752) (by decide +kernel), rfl⟩
theorem qL_X7_9 : gW (.methodLink RX7 9 objectInit) := ⟨List.mem_of_getElem? (i := 753) (by decide +kernel), rfl⟩
theorem qF_X7_34 : gW (.fieldLink RX7 34 "FogBridgeModel$State" "tick" "I") := ⟨List.mem_of_getElem? (i := 754) (by decide +kernel), rfl⟩
theorem qFN_X8_79 : gW (.fieldLinkNest RX8 79 "FogBridgeModel$State" "tick" "I" "FogBridgeModel") := ⟨List.mem_of_getElem? (i := 755) (by decide +kernel), rfl⟩
theorem qF_X7_38 : gW (.fieldLink RX7 38 "FogBridgeModel$State" "open" "I") := ⟨List.mem_of_getElem? (i := 756) (by decide +kernel), rfl⟩
theorem qFN_X8_88 : gW (.fieldLinkNest RX8 88 "FogBridgeModel$State" "open" "I" "FogBridgeModel") := ⟨List.mem_of_getElem? (i := 757) (by decide +kernel), rfl⟩
theorem qF_X7_41 : gW (.fieldLink RX7 41 "FogBridgeModel$State" "carts" "I") := ⟨List.mem_of_getElem? (i := 758) (by decide +kernel), rfl⟩
theorem qFN_X8_91 : gW (.fieldLinkNest RX8 91 "FogBridgeModel$State" "carts" "I" "FogBridgeModel") := ⟨List.mem_of_getElem? (i := 759) (by decide +kernel), rfl⟩
theorem qF_X7_15 : gW (.fieldLink RX7 15 "FogBridgeModel$State" "of" "[I") := ⟨List.mem_of_getElem? (i := 760) (by decide +kernel), rfl⟩
theorem qFN_X8_94 : gW (.fieldLinkNest RX8 94 "FogBridgeModel$State" "of" "[I" "FogBridgeModel") := ⟨List.mem_of_getElem? (i := 761) (by decide +kernel), rfl⟩
theorem qF_X7_19 : gW (.fieldLink RX7 19 "FogBridgeModel$State" "at" "[I") := ⟨List.mem_of_getElem? (i := 762) (by decide +kernel), rfl⟩
theorem qF_X7_22 : gW (.fieldLink RX7 22 "FogBridgeModel$State" "row" "[I") := ⟨List.mem_of_getElem? (i := 763) (by decide +kernel), rfl⟩
theorem qFN_X8_119 : gW (.fieldLinkNest RX8 119 "FogBridgeModel$State" "row" "[I" "FogBridgeModel") := ⟨List.mem_of_getElem? (i := 764) (by decide +kernel), rfl⟩
theorem qF_X7_25 : gW (.fieldLink RX7 25 "FogBridgeModel$State" "box" "[I") := ⟨List.mem_of_getElem? (i := 765) (by decide +kernel), rfl⟩
theorem qFN_X8_103 : gW (.fieldLinkNest RX8 103 "FogBridgeModel$State" "box" "[I" "FogBridgeModel") := ⟨List.mem_of_getElem? (i := 766) (by decide +kernel), rfl⟩
theorem qF_X7_3 : gW (.fieldLink RX7 3 "FogBridgeModel$State" "this$0" "LFogBridgeModel;") := ⟨List.mem_of_getElem? (i := 767) (by decide +kernel), rfl⟩
theorem qF_X8_41 : gW (.fieldLink RX8 41 "FogBridgeModel" "thrown" "I") := ⟨List.mem_of_getElem? (i := 785) (by decide +kernel), rfl⟩
theorem qF_X8_62 : gW (.fieldLink RX8 62 "FogBridgeModel" "signals" "I") := ⟨List.mem_of_getElem? (i := 786) (by decide +kernel), rfl⟩
theorem qF_X8_9 : gW (.fieldLink RX8 9 "FogBridgeModel" "signal" "[I") := ⟨List.mem_of_getElem? (i := 787) (by decide +kernel), rfl⟩
theorem qF_X8_13 : gW (.fieldLink RX8 13 "FogBridgeModel" "fog" "[I") := ⟨List.mem_of_getElem? (i := 788) (by decide +kernel), rfl⟩
theorem qF_X8_16 : gW (.fieldLink RX8 16 "FogBridgeModel" "places" "I") := ⟨List.mem_of_getElem? (i := 789) (by decide +kernel), rfl⟩
theorem qFN_X7_59 : gW (.fieldLinkNest RX7 59 "FogBridgeModel" "places" "I" "FogBridgeModel") := ⟨List.mem_of_getElem? (i := 790) (by decide +kernel), rfl⟩
theorem qF_X8_20 : gW (.fieldLink RX8 20 "FogBridgeModel" "bears" "I") := ⟨List.mem_of_getElem? (i := 791) (by decide +kernel), rfl⟩
theorem qFN_X7_74 : gW (.fieldLinkNest RX7 74 "FogBridgeModel" "bears" "I" "FogBridgeModel") := ⟨List.mem_of_getElem? (i := 792) (by decide +kernel), rfl⟩
theorem qF_X8_23 : gW (.fieldLink RX8 23 "FogBridgeModel" "axleToll" "I") := ⟨List.mem_of_getElem? (i := 793) (by decide +kernel), rfl⟩
theorem qFN_X7_81 : gW (.fieldLinkNest RX7 81 "FogBridgeModel" "axleToll" "I" "FogBridgeModel") := ⟨List.mem_of_getElem? (i := 794) (by decide +kernel), rfl⟩
theorem qF_X8_26 : gW (.fieldLink RX8 26 "FogBridgeModel" "tenToll" "I") := ⟨List.mem_of_getElem? (i := 795) (by decide +kernel), rfl⟩
theorem qFN_X7_84 : gW (.fieldLinkNest RX7 84 "FogBridgeModel" "tenToll" "I" "FogBridgeModel") := ⟨List.mem_of_getElem? (i := 796) (by decide +kernel), rfl⟩
theorem qF_X8_34 : gW (.fieldLink RX8 34 "FogBridgeModel" "s" "LFogBridgeModel$State;") := ⟨List.mem_of_getElem? (i := 797) (by decide +kernel), rfl⟩
theorem qF_X8_38 : gW (.fieldLink RX8 38 "FogBridgeModel" "ahead" "LFogBridgeModel$State;") := ⟨List.mem_of_getElem? (i := 798) (by decide +kernel), rfl⟩
theorem qL_L_79 : gW (.methodLink RL 79 yX8_thrown) := ⟨List.mem_of_getElem? (i := 820) (by decide +kernel), rfl⟩
theorem qI_yX8_thrown : gW (.instanceMethod yX8_thrown) := ⟨List.mem_of_getElem? (i := 821) (by decide +kernel), rfl⟩
theorem qS_yX8_thrown : gW (.selects RX8 yX8_thrown yX8_thrown) := ⟨List.mem_of_getElem? (i := 822) (by decide +kernel), rfl⟩
theorem qC_yX8_thrown : gW (.code yX8_thrown cX8_thrown 1 (some .int)) := ⟨List.mem_of_getElem? (i := 823) (by decide +kernel), rfl⟩
theorem qL_L_78 : gW (.methodLink RL 78 yX8_addSignal) := ⟨List.mem_of_getElem? (i := 824) (by decide +kernel), rfl⟩
theorem qI_yX8_addSignal : gW (.instanceMethod yX8_addSignal) := ⟨List.mem_of_getElem? (i := 825) (by decide +kernel), rfl⟩
theorem qS_yX8_addSignal : gW (.selects RX8 yX8_addSignal yX8_addSignal) := ⟨List.mem_of_getElem? (i := 826) (by decide +kernel), rfl⟩
theorem qC_yX8_addSignal : gW (.code yX8_addSignal cX8_addSignal 3 (some .int)) := ⟨List.mem_of_getElem? (i := 827) (by decide +kernel), rfl⟩
theorem qL_X8_55 : gW (.methodLink RX8 55 yX8_isRow) := ⟨List.mem_of_getElem? (i := 828) (by decide +kernel), rfl⟩
theorem qT_yX8_isRow : gW (.static yX8_isRow) := ⟨List.mem_of_getElem? (i := 829) (by decide +kernel), rfl⟩
theorem qC_yX8_isRow : gW (.code yX8_isRow cX8_isRow 4 (some .boolean)) := ⟨List.mem_of_getElem? (i := 830) (by decide +kernel), rfl⟩
theorem qL_X8_44 : gW (.methodLink RX8 44 yX8_length) := ⟨List.mem_of_getElem? (i := 831) (by decide +kernel), rfl⟩
theorem qT_yX8_length : gW (.static yX8_length) := ⟨List.mem_of_getElem? (i := 832) (by decide +kernel), rfl⟩
theorem qC_yX8_length : gW (.code yX8_length cX8_length 3 (some .int)) := ⟨List.mem_of_getElem? (i := 833) (by decide +kernel), rfl⟩
theorem qL_X8_48 : gW (.methodLink RX8 48 yX8_isIn) := ⟨List.mem_of_getElem? (i := 834) (by decide +kernel), rfl⟩
theorem qT_yX8_isIn : gW (.static yX8_isIn) := ⟨List.mem_of_getElem? (i := 835) (by decide +kernel), rfl⟩
theorem qC_yX8_isIn : gW (.code yX8_isIn cX8_isIn 3 (some .boolean)) := ⟨List.mem_of_getElem? (i := 836) (by decide +kernel), rfl⟩
theorem qL_X8_59 : gW (.methodLink RX8 59 yX8_no) := ⟨List.mem_of_getElem? (i := 837) (by decide +kernel), rfl⟩
theorem qI_yX8_no : gW (.instanceMethod yX8_no) := ⟨List.mem_of_getElem? (i := 839) (by decide +kernel), rfl⟩
theorem qC_yX8_no : gW (.code yX8_no cX8_no 2 (some .int)) := ⟨List.mem_of_getElem? (i := 840) (by decide +kernel), rfl⟩
theorem qL_X8_65 : gW (.methodLink RX8 65 yX8_begins) := ⟨List.mem_of_getElem? (i := 841) (by decide +kernel), rfl⟩
theorem qT_yX8_begins : gW (.static yX8_begins) := ⟨List.mem_of_getElem? (i := 842) (by decide +kernel), rfl⟩
theorem qC_yX8_begins : gW (.code yX8_begins cX8_begins 3 (some .boolean)) := ⟨List.mem_of_getElem? (i := 843) (by decide +kernel), rfl⟩
theorem qL_X8_52 : gW (.methodLink RX8 52 yX8_ten) := ⟨List.mem_of_getElem? (i := 844) (by decide +kernel), rfl⟩
theorem qT_yX8_ten : gW (.static yX8_ten) := ⟨List.mem_of_getElem? (i := 845) (by decide +kernel), rfl⟩
theorem qC_yX8_ten : gW (.code yX8_ten cX8_ten 3 (some .int)) := ⟨List.mem_of_getElem? (i := 846) (by decide +kernel), rfl⟩
theorem qL_L_86 : gW (.methodLink RL 86 yX8_read) := ⟨List.mem_of_getElem? (i := 847) (by decide +kernel), rfl⟩
theorem qI_yX8_read : gW (.instanceMethod yX8_read) := ⟨List.mem_of_getElem? (i := 848) (by decide +kernel), rfl⟩
theorem qS_yX8_read : gW (.selects RX8 yX8_read yX8_read) := ⟨List.mem_of_getElem? (i := 849) (by decide +kernel), rfl⟩
theorem qC_yX8_read : gW (.code yX8_read cX8_read 7 (some .int)) := ⟨List.mem_of_getElem? (i := 850) (by decide +kernel), rfl⟩
theorem qL_X8_68 : gW (.methodLink RX8 68 yX8_beginning) := ⟨List.mem_of_getElem? (i := 851) (by decide +kernel), rfl⟩
theorem qI_yX8_beginning : gW (.instanceMethod yX8_beginning) := ⟨List.mem_of_getElem? (i := 853) (by decide +kernel), rfl⟩
theorem qC_yX8_beginning : gW (.code yX8_beginning cX8_beginning 3 (some .int)) := ⟨List.mem_of_getElem? (i := 854) (by decide +kernel), rfl⟩
theorem qL_X8_71 : gW (.methodLink RX8 71 yX8_behind) := ⟨List.mem_of_getElem? (i := 855) (by decide +kernel), rfl⟩
theorem qI_yX8_behind : gW (.instanceMethod yX8_behind) := ⟨List.mem_of_getElem? (i := 857) (by decide +kernel), rfl⟩
theorem qC_yX8_behind : gW (.code yX8_behind cX8_behind 3 (some .int)) := ⟨List.mem_of_getElem? (i := 858) (by decide +kernel), rfl⟩
theorem qL_L_89 : gW (.methodLink RL 89 yX8_heard) := ⟨List.mem_of_getElem? (i := 859) (by decide +kernel), rfl⟩
theorem qI_yX8_heard : gW (.instanceMethod yX8_heard) := ⟨List.mem_of_getElem? (i := 860) (by decide +kernel), rfl⟩
theorem qS_yX8_heard : gW (.selects RX8 yX8_heard yX8_heard) := ⟨List.mem_of_getElem? (i := 861) (by decide +kernel), rfl⟩
theorem qC_yX8_heard : gW (.code yX8_heard cX8_heard 6 (some .int)) := ⟨List.mem_of_getElem? (i := 862) (by decide +kernel), rfl⟩
theorem qL_X8_75 : gW (.methodLink RX8 75 yX8_isSignal) := ⟨List.mem_of_getElem? (i := 863) (by decide +kernel), rfl⟩
theorem qI_yX8_isSignal : gW (.instanceMethod yX8_isSignal) := ⟨List.mem_of_getElem? (i := 865) (by decide +kernel), rfl⟩
theorem qC_yX8_isSignal : gW (.code yX8_isSignal cX8_isSignal 2 (some .boolean)) := ⟨List.mem_of_getElem? (i := 866) (by decide +kernel), rfl⟩
theorem qL_L_92 : gW (.methodLink RL 92 yX8_safe) := ⟨List.mem_of_getElem? (i := 867) (by decide +kernel), rfl⟩
theorem qI_yX8_safe : gW (.instanceMethod yX8_safe) := ⟨List.mem_of_getElem? (i := 868) (by decide +kernel), rfl⟩
theorem qS_yX8_safe : gW (.selects RX8 yX8_safe yX8_safe) := ⟨List.mem_of_getElem? (i := 869) (by decide +kernel), rfl⟩
theorem qC_yX8_safe : gW (.code yX8_safe cX8_safe 4 (some .int)) := ⟨List.mem_of_getElem? (i := 870) (by decide +kernel), rfl⟩
theorem qL_X8_82 : gW (.methodLink RX8 82 yX8_isWhole) := ⟨List.mem_of_getElem? (i := 871) (by decide +kernel), rfl⟩
theorem qI_yX8_isWhole : gW (.instanceMethod yX8_isWhole) := ⟨List.mem_of_getElem? (i := 873) (by decide +kernel), rfl⟩
theorem qC_yX8_isWhole : gW (.code yX8_isWhole cX8_isWhole 4 (some .boolean)) := ⟨List.mem_of_getElem? (i := 874) (by decide +kernel), rfl⟩
theorem qL_L_95 : gW (.methodLink RL 95 yX8_rows) := ⟨List.mem_of_getElem? (i := 875) (by decide +kernel), rfl⟩
theorem qI_yX8_rows : gW (.instanceMethod yX8_rows) := ⟨List.mem_of_getElem? (i := 876) (by decide +kernel), rfl⟩
theorem qS_yX8_rows : gW (.selects RX8 yX8_rows yX8_rows) := ⟨List.mem_of_getElem? (i := 877) (by decide +kernel), rfl⟩
theorem qC_yX8_rows : gW (.code yX8_rows cX8_rows 5 (some .int)) := ⟨List.mem_of_getElem? (i := 878) (by decide +kernel), rfl⟩
theorem qL_L_98 : gW (.methodLink RL 98 yX8_setFog) := ⟨List.mem_of_getElem? (i := 879) (by decide +kernel), rfl⟩
theorem qI_yX8_setFog : gW (.instanceMethod yX8_setFog) := ⟨List.mem_of_getElem? (i := 880) (by decide +kernel), rfl⟩
theorem qS_yX8_setFog : gW (.selects RX8 yX8_setFog yX8_setFog) := ⟨List.mem_of_getElem? (i := 881) (by decide +kernel), rfl⟩
theorem qC_yX8_setFog : gW (.code yX8_setFog cX8_setFog 4 (some .int)) := ⟨List.mem_of_getElem? (i := 882) (by decide +kernel), rfl⟩
theorem qL_L_101 : gW (.methodLink RL 101 yX8_rebuild) := ⟨List.mem_of_getElem? (i := 883) (by decide +kernel), rfl⟩
theorem qI_yX8_rebuild : gW (.instanceMethod yX8_rebuild) := ⟨List.mem_of_getElem? (i := 884) (by decide +kernel), rfl⟩
theorem qS_yX8_rebuild : gW (.selects RX8 yX8_rebuild yX8_rebuild) := ⟨List.mem_of_getElem? (i := 885) (by decide +kernel), rfl⟩
theorem qC_yX8_rebuild : gW (.code yX8_rebuild cX8_rebuild 4 (some .int)) := ⟨List.mem_of_getElem? (i := 886) (by decide +kernel), rfl⟩
theorem qL_X8_85 : gW (.methodLink RX8 85 yX7_how) := ⟨List.mem_of_getElem? (i := 887) (by decide +kernel), rfl⟩
theorem qI_yX7_how : gW (.instanceMethod yX7_how) := ⟨List.mem_of_getElem? (i := 888) (by decide +kernel), rfl⟩
theorem qS_yX7_how : gW (.selects RX7 yX7_how yX7_how) := ⟨List.mem_of_getElem? (i := 889) (by decide +kernel), rfl⟩
theorem qC_yX7_how : gW (.code yX7_how cX7_how 4 (some .int)) := ⟨List.mem_of_getElem? (i := 890) (by decide +kernel), rfl⟩
theorem qL_X7_52 : gW (.methodLink RX7 52 yX7_own) := ⟨List.mem_of_getElem? (i := 891) (by decide +kernel), rfl⟩
theorem qI_yX7_own : gW (.instanceMethod yX7_own) := ⟨List.mem_of_getElem? (i := 893) (by decide +kernel), rfl⟩
theorem qC_yX7_own : gW (.code yX7_own cX7_own 3 (some .int)) := ⟨List.mem_of_getElem? (i := 894) (by decide +kernel), rfl⟩
theorem qL_L_104 : gW (.methodLink RL 104 yX8_setToll) := ⟨List.mem_of_getElem? (i := 895) (by decide +kernel), rfl⟩
theorem qI_yX8_setToll : gW (.instanceMethod yX8_setToll) := ⟨List.mem_of_getElem? (i := 896) (by decide +kernel), rfl⟩
theorem qS_yX8_setToll : gW (.selects RX8 yX8_setToll yX8_setToll) := ⟨List.mem_of_getElem? (i := 897) (by decide +kernel), rfl⟩
theorem qC_yX8_setToll : gW (.code yX8_setToll cX8_setToll 4 (some .int)) := ⟨List.mem_of_getElem? (i := 898) (by decide +kernel), rfl⟩
theorem qL_L_108 : gW (.methodLink RL 108 yX8_change) := ⟨List.mem_of_getElem? (i := 899) (by decide +kernel), rfl⟩
theorem qI_yX8_change : gW (.instanceMethod yX8_change) := ⟨List.mem_of_getElem? (i := 900) (by decide +kernel), rfl⟩
theorem qS_yX8_change : gW (.selects RX8 yX8_change yX8_change) := ⟨List.mem_of_getElem? (i := 901) (by decide +kernel), rfl⟩
theorem qC_yX8_change : gW (.code yX8_change cX8_change 1 (some .int)) := ⟨List.mem_of_getElem? (i := 902) (by decide +kernel), rfl⟩
theorem qL_L_112 : gW (.methodLink RL 112 yX8_come) := ⟨List.mem_of_getElem? (i := 903) (by decide +kernel), rfl⟩
theorem qI_yX8_come : gW (.instanceMethod yX8_come) := ⟨List.mem_of_getElem? (i := 904) (by decide +kernel), rfl⟩
theorem qS_yX8_come : gW (.selects RX8 yX8_come yX8_come) := ⟨List.mem_of_getElem? (i := 905) (by decide +kernel), rfl⟩
theorem qC_yX8_come : gW (.code yX8_come cX8_come 8 (some .int)) := ⟨List.mem_of_getElem? (i := 906) (by decide +kernel), rfl⟩
theorem qL_X8_97 : gW (.methodLink RX8 97 arraycopyName) := ⟨List.mem_of_getElem? (i := 907) (by decide +kernel), rfl⟩
theorem qT_arraycopyName : gW (.static arraycopyName) := ⟨List.mem_of_getElem? (i := 908) (by decide +kernel), rfl⟩
theorem qNa_arraycopyName : gW (.native arraycopyName) := ⟨List.mem_of_getElem? (i := 909) (by decide +kernel), rfl⟩
theorem qL_X8_106 : gW (.methodLink RX8 106 yX7_line) := ⟨List.mem_of_getElem? (i := 910) (by decide +kernel), rfl⟩
theorem qI_yX7_line : gW (.instanceMethod yX7_line) := ⟨List.mem_of_getElem? (i := 911) (by decide +kernel), rfl⟩
theorem qS_yX7_line : gW (.selects RX7 yX7_line yX7_line) := ⟨List.mem_of_getElem? (i := 912) (by decide +kernel), rfl⟩
theorem qC_yX7_line : gW (.code yX7_line cX7_line 5 none) := ⟨List.mem_of_getElem? (i := 913) (by decide +kernel), rfl⟩
theorem qL_X7_28 : gW (.methodLink RX7 28 arraycopyName) := ⟨List.mem_of_getElem? (i := 914) (by decide +kernel), rfl⟩
theorem qL_X7_48 : gW (.methodLink RX7 48 yX7_set) := ⟨List.mem_of_getElem? (i := 915) (by decide +kernel), rfl⟩
theorem qI_yX7_set : gW (.instanceMethod yX7_set) := ⟨List.mem_of_getElem? (i := 917) (by decide +kernel), rfl⟩
theorem qC_yX7_set : gW (.code yX7_set cX7_set 4 none) := ⟨List.mem_of_getElem? (i := 918) (by decide +kernel), rfl⟩
theorem qL_L_115 : gW (.methodLink RL 115 yX8_cart) := ⟨List.mem_of_getElem? (i := 919) (by decide +kernel), rfl⟩
theorem qI_yX8_cart : gW (.instanceMethod yX8_cart) := ⟨List.mem_of_getElem? (i := 920) (by decide +kernel), rfl⟩
theorem qS_yX8_cart : gW (.selects RX8 yX8_cart yX8_cart) := ⟨List.mem_of_getElem? (i := 921) (by decide +kernel), rfl⟩
theorem qC_yX8_cart : gW (.code yX8_cart cX8_cart 3 (some .int)) := ⟨List.mem_of_getElem? (i := 922) (by decide +kernel), rfl⟩
theorem qL_X8_113 : gW (.methodLink RX8 113 yX8_isCart) := ⟨List.mem_of_getElem? (i := 923) (by decide +kernel), rfl⟩
theorem qI_yX8_isCart : gW (.instanceMethod yX8_isCart) := ⟨List.mem_of_getElem? (i := 925) (by decide +kernel), rfl⟩
theorem qC_yX8_isCart : gW (.code yX8_isCart cX8_isCart 2 (some .boolean)) := ⟨List.mem_of_getElem? (i := 926) (by decide +kernel), rfl⟩
theorem qL_X8_116 : gW (.methodLink RX8 116 yX8_cartTold) := ⟨List.mem_of_getElem? (i := 927) (by decide +kernel), rfl⟩
theorem qI_yX8_cartTold : gW (.instanceMethod yX8_cartTold) := ⟨List.mem_of_getElem? (i := 929) (by decide +kernel), rfl⟩
theorem qC_yX8_cartTold : gW (.code yX8_cartTold cX8_cartTold 3 (some .int)) := ⟨List.mem_of_getElem? (i := 930) (by decide +kernel), rfl⟩
theorem qMN_X8_110 : gW (.methodLinkNest RX8 110 yX7_own "FogBridgeModel") := ⟨List.mem_of_getElem? (i := 931) (by decide +kernel), rfl⟩
theorem qL_L_118 : gW (.methodLink RL 118 yX8_queue) := ⟨List.mem_of_getElem? (i := 932) (by decide +kernel), rfl⟩
theorem qI_yX8_queue : gW (.instanceMethod yX8_queue) := ⟨List.mem_of_getElem? (i := 933) (by decide +kernel), rfl⟩
theorem qS_yX8_queue : gW (.selects RX8 yX8_queue yX8_queue) := ⟨List.mem_of_getElem? (i := 934) (by decide +kernel), rfl⟩
theorem qC_yX8_queue : gW (.code yX8_queue cX8_queue 3 (some .int)) := ⟨List.mem_of_getElem? (i := 935) (by decide +kernel), rfl⟩
theorem qL_L_121 : gW (.methodLink RL 121 yX8_box) := ⟨List.mem_of_getElem? (i := 936) (by decide +kernel), rfl⟩
theorem qI_yX8_box : gW (.instanceMethod yX8_box) := ⟨List.mem_of_getElem? (i := 937) (by decide +kernel), rfl⟩
theorem qS_yX8_box : gW (.selects RX8 yX8_box yX8_box) := ⟨List.mem_of_getElem? (i := 938) (by decide +kernel), rfl⟩
theorem qC_yX8_box : gW (.code yX8_box cX8_box 3 (some .int)) := ⟨List.mem_of_getElem? (i := 939) (by decide +kernel), rfl⟩
theorem qL_L_124 : gW (.methodLink RL 124 yX8_empty) := ⟨List.mem_of_getElem? (i := 940) (by decide +kernel), rfl⟩
theorem qI_yX8_empty : gW (.instanceMethod yX8_empty) := ⟨List.mem_of_getElem? (i := 941) (by decide +kernel), rfl⟩
theorem qS_yX8_empty : gW (.selects RX8 yX8_empty yX8_empty) := ⟨List.mem_of_getElem? (i := 942) (by decide +kernel), rfl⟩
theorem qC_yX8_empty : gW (.code yX8_empty cX8_empty 3 (some .int)) := ⟨List.mem_of_getElem? (i := 943) (by decide +kernel), rfl⟩
theorem qL_L_127 : gW (.methodLink RL 127 yX8_pass) := ⟨List.mem_of_getElem? (i := 944) (by decide +kernel), rfl⟩
theorem qI_yX8_pass : gW (.instanceMethod yX8_pass) := ⟨List.mem_of_getElem? (i := 945) (by decide +kernel), rfl⟩
theorem qS_yX8_pass : gW (.selects RX8 yX8_pass yX8_pass) := ⟨List.mem_of_getElem? (i := 946) (by decide +kernel), rfl⟩
theorem qC_yX8_pass : gW (.code yX8_pass cX8_pass 4 (some .int)) := ⟨List.mem_of_getElem? (i := 947) (by decide +kernel), rfl⟩
theorem qL_X8_122 : gW (.methodLink RX8 122 yX7_pass) := ⟨List.mem_of_getElem? (i := 948) (by decide +kernel), rfl⟩
theorem qI_yX7_pass : gW (.instanceMethod yX7_pass) := ⟨List.mem_of_getElem? (i := 949) (by decide +kernel), rfl⟩
theorem qS_yX7_pass : gW (.selects RX7 yX7_pass yX7_pass) := ⟨List.mem_of_getElem? (i := 950) (by decide +kernel), rfl⟩
theorem qC_yX7_pass : gW (.code yX7_pass cX7_pass 4 (some .int)) := ⟨List.mem_of_getElem? (i := 951) (by decide +kernel), rfl⟩
theorem qL_X7_87 : gW (.methodLink RX7 87 yX7_how) := ⟨List.mem_of_getElem? (i := 952) (by decide +kernel), rfl⟩
theorem qL_X7_90 : gW (.methodLink RX7 90 yX7_move) := ⟨List.mem_of_getElem? (i := 953) (by decide +kernel), rfl⟩
theorem qI_yX7_move : gW (.instanceMethod yX7_move) := ⟨List.mem_of_getElem? (i := 955) (by decide +kernel), rfl⟩
theorem qC_yX7_move : gW (.code yX7_move cX7_move 6 none) := ⟨List.mem_of_getElem? (i := 956) (by decide +kernel), rfl⟩
theorem qL_X7_62 : gW (.methodLink RX7 62 yX7_leave) := ⟨List.mem_of_getElem? (i := 957) (by decide +kernel), rfl⟩
theorem qI_yX7_leave : gW (.instanceMethod yX7_leave) := ⟨List.mem_of_getElem? (i := 959) (by decide +kernel), rfl⟩
theorem qC_yX7_leave : gW (.code yX7_leave cX7_leave 2 none) := ⟨List.mem_of_getElem? (i := 960) (by decide +kernel), rfl⟩
theorem qL_X7_56 : gW (.methodLink RX7 56 yX7_line) := ⟨List.mem_of_getElem? (i := 961) (by decide +kernel), rfl⟩
theorem qL_X7_93 : gW (.methodLink RX7 93 yX7_comeOn) := ⟨List.mem_of_getElem? (i := 962) (by decide +kernel), rfl⟩
theorem qI_yX7_comeOn : gW (.instanceMethod yX7_comeOn) := ⟨List.mem_of_getElem? (i := 964) (by decide +kernel), rfl⟩
theorem qC_yX7_comeOn : gW (.code yX7_comeOn cX7_comeOn 5 none) := ⟨List.mem_of_getElem? (i := 965) (by decide +kernel), rfl⟩
theorem qL_X7_66 : gW (.methodLink RX7 66 yX7_isBack) := ⟨List.mem_of_getElem? (i := 966) (by decide +kernel), rfl⟩
theorem qI_yX7_isBack : gW (.instanceMethod yX7_isBack) := ⟨List.mem_of_getElem? (i := 968) (by decide +kernel), rfl⟩
theorem qC_yX7_isBack : gW (.code yX7_isBack cX7_isBack 3 (some .boolean)) := ⟨List.mem_of_getElem? (i := 969) (by decide +kernel), rfl⟩
theorem qL_X7_70 : gW (.methodLink RX7 70 yX7_weight) := ⟨List.mem_of_getElem? (i := 970) (by decide +kernel), rfl⟩
theorem qI_yX7_weight : gW (.instanceMethod yX7_weight) := ⟨List.mem_of_getElem? (i := 971) (by decide +kernel), rfl⟩
theorem qS_yX7_weight : gW (.selects RX7 yX7_weight yX7_weight) := ⟨List.mem_of_getElem? (i := 972) (by decide +kernel), rfl⟩
theorem qC_yX7_weight : gW (.code yX7_weight cX7_weight 3 (some .int)) := ⟨List.mem_of_getElem? (i := 973) (by decide +kernel), rfl⟩
theorem qL_X7_77 : gW (.methodLink RX7 77 yX7_first) := ⟨List.mem_of_getElem? (i := 974) (by decide +kernel), rfl⟩
theorem qI_yX7_first : gW (.instanceMethod yX7_first) := ⟨List.mem_of_getElem? (i := 976) (by decide +kernel), rfl⟩
theorem qC_yX7_first : gW (.code yX7_first cX7_first 3 (some .int)) := ⟨List.mem_of_getElem? (i := 977) (by decide +kernel), rfl⟩
theorem qL_L_130 : gW (.methodLink RL 130 yX8_count) := ⟨List.mem_of_getElem? (i := 978) (by decide +kernel), rfl⟩
theorem qI_yX8_count : gW (.instanceMethod yX8_count) := ⟨List.mem_of_getElem? (i := 979) (by decide +kernel), rfl⟩
theorem qS_yX8_count : gW (.selects RX8 yX8_count yX8_count) := ⟨List.mem_of_getElem? (i := 980) (by decide +kernel), rfl⟩
theorem qC_yX8_count : gW (.code yX8_count cX8_count 2 (some .int)) := ⟨List.mem_of_getElem? (i := 981) (by decide +kernel), rfl⟩
theorem qL_X8_129 : gW (.methodLink RX8 129 yX8_counted) := ⟨List.mem_of_getElem? (i := 982) (by decide +kernel), rfl⟩
theorem qI_yX8_counted : gW (.instanceMethod yX8_counted) := ⟨List.mem_of_getElem? (i := 984) (by decide +kernel), rfl⟩
theorem qC_yX8_counted : gW (.code yX8_counted cX8_counted 3 (some .int)) := ⟨List.mem_of_getElem? (i := 985) (by decide +kernel), rfl⟩
theorem qL_X8_126 : gW (.methodLink RX8 126 yX7_weight) := ⟨List.mem_of_getElem? (i := 986) (by decide +kernel), rfl⟩
theorem qL_L_133 : gW (.methodLink RL 133 yX8_over) := ⟨List.mem_of_getElem? (i := 987) (by decide +kernel), rfl⟩
theorem qI_yX8_over : gW (.instanceMethod yX8_over) := ⟨List.mem_of_getElem? (i := 988) (by decide +kernel), rfl⟩
theorem qS_yX8_over : gW (.selects RX8 yX8_over yX8_over) := ⟨List.mem_of_getElem? (i := 989) (by decide +kernel), rfl⟩
theorem qC_yX8_over : gW (.code yX8_over cX8_over 4 (some .int)) := ⟨List.mem_of_getElem? (i := 990) (by decide +kernel), rfl⟩
theorem qL_X8_132 : gW (.methodLink RX8 132 yX7_become) := ⟨List.mem_of_getElem? (i := 991) (by decide +kernel), rfl⟩
theorem qI_yX7_become : gW (.instanceMethod yX7_become) := ⟨List.mem_of_getElem? (i := 992) (by decide +kernel), rfl⟩
theorem qS_yX7_become : gW (.selects RX7 yX7_become yX7_become) := ⟨List.mem_of_getElem? (i := 993) (by decide +kernel), rfl⟩
theorem qC_yX7_become : gW (.code yX7_become cX7_become 2 none) := ⟨List.mem_of_getElem? (i := 994) (by decide +kernel), rfl⟩
theorem qL_X7_44 : gW (.methodLink RX7 44 yX7_copy) := ⟨List.mem_of_getElem? (i := 995) (by decide +kernel), rfl⟩
theorem qI_yX7_copy : gW (.instanceMethod yX7_copy) := ⟨List.mem_of_getElem? (i := 997) (by decide +kernel), rfl⟩
theorem qC_yX7_copy : gW (.code yX7_copy cX7_copy 3 none) := ⟨List.mem_of_getElem? (i := 998) (by decide +kernel), rfl⟩
theorem qL_L_137 : gW (.methodLink RL 137 yX8_keep) := ⟨List.mem_of_getElem? (i := 999) (by decide +kernel), rfl⟩
theorem qI_yX8_keep : gW (.instanceMethod yX8_keep) := ⟨List.mem_of_getElem? (i := 1000) (by decide +kernel), rfl⟩
theorem qS_yX8_keep : gW (.selects RX8 yX8_keep yX8_keep) := ⟨List.mem_of_getElem? (i := 1001) (by decide +kernel), rfl⟩
theorem qC_yX8_keep : gW (.code yX8_keep cX8_keep 5 (some .int)) := ⟨List.mem_of_getElem? (i := 1002) (by decide +kernel), rfl⟩
theorem qL_X8_136 : gW (.methodLink RX8 136 yX8_overBy) := ⟨List.mem_of_getElem? (i := 1003) (by decide +kernel), rfl⟩
theorem qI_yX8_overBy : gW (.instanceMethod yX8_overBy) := ⟨List.mem_of_getElem? (i := 1005) (by decide +kernel), rfl⟩
theorem qC_yX8_overBy : gW (.code yX8_overBy cX8_overBy 3 (some .int)) := ⟨List.mem_of_getElem? (i := 1006) (by decide +kernel), rfl⟩
theorem qL_L_140 : gW (.methodLink RL 140 yX8_foresee) := ⟨List.mem_of_getElem? (i := 1007) (by decide +kernel), rfl⟩
theorem qI_yX8_foresee : gW (.instanceMethod yX8_foresee) := ⟨List.mem_of_getElem? (i := 1008) (by decide +kernel), rfl⟩
theorem qS_yX8_foresee : gW (.selects RX8 yX8_foresee yX8_foresee) := ⟨List.mem_of_getElem? (i := 1009) (by decide +kernel), rfl⟩
theorem qC_yX8_foresee : gW (.code yX8_foresee cX8_foresee 4 (some .int)) := ⟨List.mem_of_getElem? (i := 1010) (by decide +kernel), rfl⟩
theorem qL_L_145 : gW (.methodLink RL 145 yX8_mean) := ⟨List.mem_of_getElem? (i := 1011) (by decide +kernel), rfl⟩
theorem qI_yX8_mean : gW (.instanceMethod yX8_mean) := ⟨List.mem_of_getElem? (i := 1012) (by decide +kernel), rfl⟩
theorem qS_yX8_mean : gW (.selects RX8 yX8_mean yX8_mean) := ⟨List.mem_of_getElem? (i := 1013) (by decide +kernel), rfl⟩
theorem qC_yX8_mean : gW (.code yX8_mean cX8_mean 4 (some .double)) := ⟨List.mem_of_getElem? (i := 1014) (by decide +kernel), rfl⟩
theorem qL_L_150 : gW (.methodLink RL 150 yX8_digest) := ⟨List.mem_of_getElem? (i := 1015) (by decide +kernel), rfl⟩
theorem qI_yX8_digest : gW (.instanceMethod yX8_digest) := ⟨List.mem_of_getElem? (i := 1016) (by decide +kernel), rfl⟩
theorem qS_yX8_digest : gW (.selects RX8 yX8_digest yX8_digest) := ⟨List.mem_of_getElem? (i := 1017) (by decide +kernel), rfl⟩
theorem qC_yX8_digest : gW (.code yX8_digest cX8_digest 5 (some .long)) := ⟨List.mem_of_getElem? (i := 1018) (by decide +kernel), rfl⟩
theorem qK_X8_139 : gW (.constantLong RX8 139 (683)) := ⟨List.mem_of_getElem? (i := 1019) (by decide +kernel), rfl⟩
theorem qK_X8_141 : gW (.constantLong RX8 141 (31)) := ⟨List.mem_of_getElem? (i := 1020) (by decide +kernel), rfl⟩
theorem qA_long : gW (.arrayClass .long) := ⟨List.mem_of_getElem? (i := 1021) (by decide +kernel), rfl⟩
theorem qCm_min : gW (.code Lib.Math.min.name Lib.Math.min.code 2 (some .int)) := ⟨List.mem_of_getElem? (i := 300) (by decide +kernel), rfl⟩
theorem qTm_min : gW (.static Lib.Math.min.name) := ⟨List.mem_of_getElem? (i := 299) (by decide +kernel), rfl⟩
theorem qCm_max : gW (.code Lib.Math.max.name Lib.Math.max.code 2 (some .int)) := ⟨List.mem_of_getElem? (i := 311) (by decide +kernel), rfl⟩
theorem qTm_max : gW (.static Lib.Math.max.name) := ⟨List.mem_of_getElem? (i := 310) (by decide +kernel), rfl⟩
theorem qNm_math : gW (.initialized "java/lang/Math") := ⟨List.mem_of_getElem? (i := 48) (by decide +kernel), rfl⟩
