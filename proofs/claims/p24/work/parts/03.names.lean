def RX0 : String := "FogBridge$Bridge"
def TX0 : u_T := fun k => match k with
  | 0 => ("FogBridge$Bridge", "tick", "I", false)
  | 1 => ("FogBridge$Bridge", "direction", "I", false)
  | 2 => ("FogBridge$Bridge", "places", "I", false)
  | 3 => ("FogBridge$Bridge", "bears", "I", false)
  | 4 => ("FogBridge$Bridge", "axleToll", "I", false)
  | 5 => ("FogBridge$Bridge", "tenToll", "I", false)
  | 6 => ("FogBridge$Bridge", "cartCount", "I", false)
  | 7 => ("FogBridge$Bridge", "carts", "[LFogBridge$Cart;", true)
  | 8 => ("FogBridge$Bridge", "firstGate", "LFogBridge$Gate;", true)
  | 9 => ("FogBridge$Bridge", "secondGate", "LFogBridge$Gate;", true)
  | _ => ("FogBridge$Bridge", "crossing", "LFogBridge$Row;", true)
def tyX0 : Nat → FieldType := fun k => match k with
  | 0 => .int
  | 1 => .int
  | 2 => .int
  | 3 => .int
  | 4 => .int
  | 5 => .int
  | 6 => .int
  | 7 => .array (.object "FogBridge$Cart")
  | 8 => .object "FogBridge$Gate"
  | 9 => .object "FogBridge$Gate"
  | _ => .object "FogBridge$Row"
abbrev wsX00 : List Cond := u_ws RX0 TX0 11
theorem nmX0 : ∀ a, a < 11 → ∀ b, b < 11 → a ≠ b → (TX0 a).2.1 ≠ (TX0 b).2.1 := by decide +kernel
theorem tyX0_ok : ∀ k, k < 11 → parseFieldDescriptor (TX0 k).2.2.1 = some (tyX0 k) := by decide +kernel
abbrev cX0_init : ByteArray := prog_2_method_1_code
def yX0_init : MethodName := ⟨RX0, "<init>", "()V"⟩
abbrev cX0_gateAt : ByteArray := prog_2_method_2_code
def yX0_gateAt : MethodName := ⟨RX0, "gateAt", "(I)LFogBridge$Gate;"⟩
abbrev cX0_cartAt : ByteArray := prog_2_method_3_code
def yX0_cartAt : MethodName := ⟨RX0, "cartAt", "(I)LFogBridge$Cart;"⟩
abbrev cX0_newCart : ByteArray := prog_2_method_4_code
def yX0_newCart : MethodName := ⟨RX0, "newCart", "()LFogBridge$Cart;"⟩
abbrev cX0_turn : ByteArray := prog_2_method_5_code
def yX0_turn : MethodName := ⟨RX0, "turn", "()V"⟩
abbrev cX0_run : ByteArray := prog_2_method_6_code
def yX0_run : MethodName := ⟨RX0, "run", "(I)I"⟩
abbrev cX0_isOver : ByteArray := prog_2_method_7_code
def yX0_isOver : MethodName := ⟨RX0, "isOver", "(I)Z"⟩
abbrev cX0_coinsInBoxes : ByteArray := prog_2_method_8_code
def yX0_coinsInBoxes : MethodName := ⟨RX0, "coinsInBoxes", "()I"⟩
abbrev cX0_cartsIn : ByteArray := prog_2_method_9_code
def yX0_cartsIn : MethodName := ⟨RX0, "cartsIn", "(I)I"⟩
abbrev cX0_weightOnBridge : ByteArray := prog_2_method_10_code
def yX0_weightOnBridge : MethodName := ⟨RX0, "weightOnBridge", "()I"⟩
abbrev cX0_tellCart : ByteArray := prog_2_method_12_code
def yX0_tellCart : MethodName := ⟨RX0, "tellCart", "(LFogBridge$Cart;I)I"⟩
abbrev cX0_mixedInto : ByteArray := prog_2_method_13_code
def yX0_mixedInto : MethodName := ⟨RX0, "mixedInto", "(J)J"⟩
abbrev cX0_copyFrom : ByteArray := prog_2_method_14_code
def yX0_copyFrom : MethodName := ⟨RX0, "copyFrom", "(LFogBridge$Bridge;)V"⟩
abbrev cX0_placeOf : ByteArray := prog_2_method_15_code
def yX0_placeOf : MethodName := ⟨RX0, "placeOf", "(LFogBridge$Cart;)I"⟩
abbrev cX0_tollFor : ByteArray := prog_2_method_16_code
def yX0_tollFor : MethodName := ⟨RX0, "tollFor", "(II)I"⟩
abbrev cX0_move : ByteArray := prog_2_method_17_code
def yX0_move : MethodName := ⟨RX0, "move", "()I"⟩
abbrev cX0_goOn : ByteArray := prog_2_method_18_code
def yX0_goOn : MethodName := ⟨RX0, "goOn", "()I"⟩
abbrev cX0_goBack : ByteArray := prog_2_method_19_code
def yX0_goBack : MethodName := ⟨RX0, "goBack", "()V"⟩
abbrev cX0_comeOn : ByteArray := prog_2_method_20_code
def yX0_comeOn : MethodName := ⟨RX0, "comeOn", "()V"⟩
abbrev cX0_hasRoomFor : ByteArray := prog_2_method_21_code
def yX0_hasRoomFor : MethodName := ⟨RX0, "hasRoomFor", "(LFogBridge$Cart;)Z"⟩
abbrev cX0_pays : ByteArray := prog_2_method_22_code
def yX0_pays : MethodName := ⟨RX0, "pays", "(LFogBridge$Cart;LFogBridge$Gate;)Z"⟩
def RX1 : String := "FogBridge$Cart"
def TX1 : u_T := fun k => match k with
  | 0 => ("FogBridge$Cart", "number", "I", true)
  | 1 => ("FogBridge$Cart", "end", "I", false)
  | 2 => ("FogBridge$Cart", "axles", "I", false)
  | 3 => ("FogBridge$Cart", "weight", "I", false)
  | 4 => ("FogBridge$Cart", "pace", "I", false)
  | 5 => ("FogBridge$Cart", "coins", "I", false)
  | 6 => ("FogBridge$Cart", "isCheat", "Z", false)
  | 7 => ("FogBridge$Cart", "hasPaid", "Z", false)
  | 8 => ("FogBridge$Cart", "state", "I", false)
  | 9 => ("FogBridge$Cart", "way", "I", false)
  | _ => ("FogBridge$Cart", "overTick", "I", false)
def tyX1 : Nat → FieldType := fun k => match k with
  | 0 => .int
  | 1 => .int
  | 2 => .int
  | 3 => .int
  | 4 => .int
  | 5 => .int
  | 6 => .boolean
  | 7 => .boolean
  | 8 => .int
  | 9 => .int
  | _ => .int
abbrev wsX10 : List Cond := u_ws RX1 TX1 11
theorem nmX1 : ∀ a, a < 11 → ∀ b, b < 11 → a ≠ b → (TX1 a).2.1 ≠ (TX1 b).2.1 := by decide +kernel
theorem tyX1_ok : ∀ k, k < 11 → parseFieldDescriptor (TX1 k).2.2.1 = some (tyX1 k) := by decide +kernel
abbrev cX1_init : ByteArray := prog_3_method_1_code
def yX1_init : MethodName := ⟨RX1, "<init>", "(I)V"⟩
abbrev cX1_copyFrom : ByteArray := prog_3_method_2_code
def yX1_copyFrom : MethodName := ⟨RX1, "copyFrom", "(LFogBridge$Cart;)V"⟩
def RX2 : String := "FogBridge$Code"
def TX2 : u_T := fun k => match k with
  | 0 => ("FogBridge$Code", "signals", "[I", true)
  | 1 => ("FogBridge$Code", "rowsOfLength", "[I", true)
  | _ => ("FogBridge$Code", "size", "I", false)
def tyX2 : Nat → FieldType := fun k => match k with
  | 0 => .array .int
  | 1 => .array .int
  | _ => .int
abbrev wsX20 : List Cond := u_ws RX2 TX2 3
theorem nmX2 : ∀ a, a < 3 → ∀ b, b < 3 → a ≠ b → (TX2 a).2.1 ≠ (TX2 b).2.1 := by decide +kernel
theorem tyX2_ok : ∀ k, k < 3 → parseFieldDescriptor (TX2 k).2.2.1 = some (tyX2 k) := by decide +kernel
abbrev cX2_init : ByteArray := prog_4_method_1_code
def yX2_init : MethodName := ⟨RX2, "<init>", "()V"⟩
abbrev cX2_ringsOf : ByteArray := prog_4_method_5_code
def yX2_ringsOf : MethodName := ⟨RX2, "ringsOf", "(I)I"⟩
abbrev cX2_mixedInto : ByteArray := prog_4_method_9_code
def yX2_mixedInto : MethodName := ⟨RX2, "mixedInto", "(J)J"⟩
def RX3 : String := "FogBridge$Gate"
def TX3 : u_T := fun k => match k with
  | 0 => ("FogBridge$Gate", "waiting", "LFogBridge$Row;", true)
  | 1 => ("FogBridge$Gate", "coins", "I", false)
  | 2 => ("FogBridge$Gate", "payers", "I", false)
  | 3 => ("FogBridge$Gate", "axles", "I", false)
  | _ => ("FogBridge$Gate", "keptByCheats", "I", false)
def tyX3 : Nat → FieldType := fun k => match k with
  | 0 => .object "FogBridge$Row"
  | 1 => .int
  | 2 => .int
  | 3 => .int
  | _ => .int
abbrev wsX30 : List Cond := u_ws RX3 TX3 5
theorem nmX3 : ∀ a, a < 5 → ∀ b, b < 5 → a ≠ b → (TX3 a).2.1 ≠ (TX3 b).2.1 := by decide +kernel
theorem tyX3_ok : ∀ k, k < 5 → parseFieldDescriptor (TX3 k).2.2.1 = some (tyX3 k) := by decide +kernel
abbrev cX3_init : ByteArray := prog_5_method_1_code
def yX3_init : MethodName := ⟨RX3, "<init>", "()V"⟩
abbrev cX3_take : ByteArray := prog_5_method_2_code
def yX3_take : MethodName := ⟨RX3, "take", "(LFogBridge$Cart;II)V"⟩
abbrev cX3_tell : ByteArray := prog_5_method_3_code
def yX3_tell : MethodName := ⟨RX3, "tell", "(I)I"⟩
abbrev cX3_mixedInto : ByteArray := prog_5_method_4_code
def yX3_mixedInto : MethodName := ⟨RX3, "mixedInto", "(J)J"⟩
abbrev cX3_copyFrom : ByteArray := prog_5_method_5_code
def yX3_copyFrom : MethodName := ⟨RX3, "copyFrom", "(LFogBridge$Gate;)V"⟩
def RX4 : String := "FogBridge$Rings"
def TX4 : u_T := fun k => match k with
  | _ => ("", "", "", false)
def tyX4 : Nat → FieldType := fun k => match k with
  | _ => .int
abbrev wsX40 : List Cond := u_ws RX4 TX4 0
theorem nmX4 : ∀ a, a < 0 → ∀ b, b < 0 → a ≠ b → (TX4 a).2.1 ≠ (TX4 b).2.1 := by decide +kernel
theorem tyX4_ok : ∀ k, k < 0 → parseFieldDescriptor (TX4 k).2.2.1 = some (tyX4 k) := by decide +kernel
def RX5 : String := "FogBridge$Row"
def TX5 : u_T := fun k => match k with
  | 0 => ("FogBridge$Row", "carts", "[I", true)
  | _ => ("FogBridge$Row", "size", "I", false)
def tyX5 : Nat → FieldType := fun k => match k with
  | 0 => .array .int
  | _ => .int
abbrev wsX50 : List Cond := u_ws RX5 TX5 2
theorem nmX5 : ∀ a, a < 2 → ∀ b, b < 2 → a ≠ b → (TX5 a).2.1 ≠ (TX5 b).2.1 := by decide +kernel
theorem tyX5_ok : ∀ k, k < 2 → parseFieldDescriptor (TX5 k).2.2.1 = some (tyX5 k) := by decide +kernel
abbrev cX5_init : ByteArray := prog_7_method_1_code
def yX5_init : MethodName := ⟨RX5, "<init>", "()V"⟩
abbrev cX5_at : ByteArray := prog_7_method_2_code
def yX5_at : MethodName := ⟨RX5, "at", "(I)I"⟩
abbrev cX5_last : ByteArray := prog_7_method_3_code
def yX5_last : MethodName := ⟨RX5, "last", "()I"⟩
abbrev cX5_addLast : ByteArray := prog_7_method_4_code
def yX5_addLast : MethodName := ⟨RX5, "addLast", "(I)V"⟩
abbrev cX5_addFirst : ByteArray := prog_7_method_5_code
def yX5_addFirst : MethodName := ⟨RX5, "addFirst", "(I)V"⟩
abbrev cX5_removeFirst : ByteArray := prog_7_method_6_code
def yX5_removeFirst : MethodName := ⟨RX5, "removeFirst", "()V"⟩
abbrev cX5_removeLast : ByteArray := prog_7_method_7_code
def yX5_removeLast : MethodName := ⟨RX5, "removeLast", "()V"⟩
abbrev cX5_copyFrom : ByteArray := prog_7_method_8_code
def yX5_copyFrom : MethodName := ⟨RX5, "copyFrom", "(LFogBridge$Row;)V"⟩
def RX6 : String := "FogBridge"
def TX6 : u_T := fun k => match k with
  | 0 => ("FogBridge", "code", "LFogBridge$Code;", true)
  | 1 => ("FogBridge", "fog", "[I", true)
  | 2 => ("FogBridge", "bridge", "LFogBridge$Bridge;", true)
  | 3 => ("FogBridge", "ahead", "LFogBridge$Bridge;", true)
  | _ => ("FogBridge", "branch", "LFogBridge$Bridge;", true)
def tyX6 : Nat → FieldType := fun k => match k with
  | 0 => .object "FogBridge$Code"
  | 1 => .array .int
  | 2 => .object "FogBridge$Bridge"
  | 3 => .object "FogBridge$Bridge"
  | _ => .object "FogBridge$Bridge"
abbrev wsX60 : List Cond := u_ws RX6 TX6 5
theorem nmX6 : ∀ a, a < 5 → ∀ b, b < 5 → a ≠ b → (TX6 a).2.1 ≠ (TX6 b).2.1 := by decide +kernel
theorem tyX6_ok : ∀ k, k < 5 → parseFieldDescriptor (TX6 k).2.2.1 = some (tyX6 k) := by decide +kernel
abbrev cX6_init : ByteArray := prog_1_method_1_code
def yX6_init : MethodName := ⟨RX6, "<init>", "()V"⟩
abbrev cX6_rebuild : ByteArray := prog_1_method_8_code
def yX6_rebuild : MethodName := ⟨RX6, "rebuild", "(II)I"⟩
abbrev cX6_setToll : ByteArray := prog_1_method_9_code
def yX6_setToll : MethodName := ⟨RX6, "setToll", "(II)I"⟩
abbrev cX6_change : ByteArray := prog_1_method_10_code
def yX6_change : MethodName := ⟨RX6, "change", "()I"⟩
abbrev cX6_come : ByteArray := prog_1_method_11_code
def yX6_come : MethodName := ⟨RX6, "come", "(IIIIIZ)I"⟩
abbrev cX6_cart : ByteArray := prog_1_method_12_code
def yX6_cart : MethodName := ⟨RX6, "cart", "(II)I"⟩
abbrev cX6_queue : ByteArray := prog_1_method_13_code
def yX6_queue : MethodName := ⟨RX6, "queue", "(II)I"⟩
abbrev cX6_box : ByteArray := prog_1_method_14_code
def yX6_box : MethodName := ⟨RX6, "box", "(II)I"⟩
abbrev cX6_empty : ByteArray := prog_1_method_15_code
def yX6_empty : MethodName := ⟨RX6, "empty", "(I)I"⟩
abbrev cX6_pass : ByteArray := prog_1_method_16_code
def yX6_pass : MethodName := ⟨RX6, "pass", "(I)I"⟩
abbrev cX6_count : ByteArray := prog_1_method_17_code
def yX6_count : MethodName := ⟨RX6, "count", "(I)I"⟩
abbrev cX6_over : ByteArray := prog_1_method_18_code
def yX6_over : MethodName := ⟨RX6, "over", "(I)I"⟩
abbrev cX6_keep : ByteArray := prog_1_method_19_code
def yX6_keep : MethodName := ⟨RX6, "keep", "()I"⟩
abbrev cX6_foresee : ByteArray := prog_1_method_20_code
def yX6_foresee : MethodName := ⟨RX6, "foresee", "(II)I"⟩
abbrev cX6_digest : ByteArray := prog_1_method_22_code
def yX6_digest : MethodName := ⟨RX6, "digest", "()J"⟩
abbrev cX6_isBetween : ByteArray := prog_1_method_23_code
def yX6_isBetween : MethodName := ⟨RX6, "isBetween", "(III)Z"⟩
abbrev cX6_isIndex : ByteArray := prog_1_method_24_code
def yX6_isIndex : MethodName := ⟨RX6, "isIndex", "(II)Z"⟩
abbrev cX6_mixed : ByteArray := prog_1_method_25_code
def yX6_mixed : MethodName := ⟨RX6, "mixed", "(JI)J"⟩
abbrev cX6_countOf : ByteArray := prog_1_method_28_code
def yX6_countOf : MethodName := ⟨RX6, "countOf", "(I)I"⟩
def RX7 : String := "FogBridgeModel$State"
def TX7 : u_T := fun k => match k with
  | _ => ("", "", "", false)
def tyX7 : Nat → FieldType := fun k => match k with
  | _ => .int
abbrev wsX70 : List Cond := u_ws RX7 TX7 0
theorem nmX7 : ∀ a, a < 0 → ∀ b, b < 0 → a ≠ b → (TX7 a).2.1 ≠ (TX7 b).2.1 := by decide +kernel
theorem tyX7_ok : ∀ k, k < 0 → parseFieldDescriptor (TX7 k).2.2.1 = some (tyX7 k) := by decide +kernel
def RX8 : String := "FogBridgeModel"
def TX8 : u_T := fun k => match k with
  | _ => ("", "", "", false)
def tyX8 : Nat → FieldType := fun k => match k with
  | _ => .int
abbrev wsX80 : List Cond := u_ws RX8 TX8 0
theorem nmX8 : ∀ a, a < 0 → ∀ b, b < 0 → a ≠ b → (TX8 a).2.1 ≠ (TX8 b).2.1 := by decide +kernel
theorem tyX8_ok : ∀ k, k < 0 → parseFieldDescriptor (TX8 k).2.2.1 = some (tyX8 k) := by decide +kernel
def RJx8e188 : String := "java/lang/Cloneable"
def TJx8e188 : u_T := fun k => match k with
  | _ => ("", "", "", false)
def tyJx8e188 : Nat → FieldType := fun k => match k with
  | _ => .int
theorem nmJx8e188 : ∀ a, a < 0 → ∀ b, b < 0 → a ≠ b → (TJx8e188 a).2.1 ≠ (TJx8e188 b).2.1 := by decide +kernel
theorem tyJx8e188_ok : ∀ k, k < 0 → parseFieldDescriptor (TJx8e188 k).2.2.1 = some (tyJx8e188 k) := by decide +kernel
def RJ9 : String := "java/lang/Math"
def TJ9 : u_T := fun k => match k with
  | _ => ("", "", "", false)
def tyJ9 : Nat → FieldType := fun k => match k with
  | _ => .int
theorem nmJ9 : ∀ a, a < 0 → ∀ b, b < 0 → a ≠ b → (TJ9 a).2.1 ≠ (TJ9 b).2.1 := by decide +kernel
theorem tyJ9_ok : ∀ k, k < 0 → parseFieldDescriptor (TJ9 k).2.2.1 = some (tyJ9 k) := by decide +kernel
abbrev cJ9_max_7cf53 : ByteArray := prog_16_method_65_code
def yJ9_max_7cf53 : MethodName := ⟨RJ9, "max", "(II)I"⟩
abbrev cJ9_min_7cf53 : ByteArray := prog_16_method_69_code
def yJ9_min_7cf53 : MethodName := ⟨RJ9, "min", "(II)I"⟩
def RJ0 : String := "java/lang/String"
def TJ0 : u_T := fun k => match k with
  | _ => ("", "", "", false)
def tyJ0 : Nat → FieldType := fun k => match k with
  | _ => .int
theorem nmJ0 : ∀ a, a < 0 → ∀ b, b < 0 → a ≠ b → (TJ0 a).2.1 ≠ (TJ0 b).2.1 := by decide +kernel
theorem tyJ0_ok : ∀ k, k < 0 → parseFieldDescriptor (TJ0 k).2.2.1 = some (tyJ0 k) := by decide +kernel
def RL : String := "FogBridgeLaw"
abbrev cL_below : ByteArray := method_2_code
def yL_below : MethodName := ⟨RL, "below", "(II)I"⟩
abbrev cL_cell : ByteArray := method_3_code
def yL_cell : MethodName := ⟨RL, "cell", "([II)I"⟩
abbrev cL_bridge : ByteArray := method_4_code
def yL_bridge : MethodName := ⟨RL, "bridge", "([I)LFogBridge;"⟩
abbrev cL_law : ByteArray := code
def yL_law : MethodName := ⟨RL, "law", "([I)Z"⟩
abbrev vwCl : List vw_C := [(RX0, TX0, 11), (RX1, TX1, 11), (RX2, TX2, 3), (RX3, TX3, 5), (RX5, TX5, 2), (RX6, TX6, 5)]
/-! names: classes, fields, methods; the words of the tables by their places -/
/-- a word that stays as the machine warms up -/
def gok (w : Cond) : Bool := goodWord w || (match w with
  | .fieldLinkNest _ _ _ _ _ _ => true
  | .methodLinkNest _ _ _ _ => true
  | _ => false)
def gW (w : Cond) : Prop := w ∈ lw_tbl ∧ gok w = true
theorem gU_X0 : ∀ w ∈ wsX00, gW w := by
  have h : (wsX00.all fun w => decide (w ∈ lw_tbl) && gok w) = true := by decide +kernel
  intro w hw
  have := List.all_eq_true.mp h w hw
  simp only [Bool.and_eq_true, decide_eq_true_eq] at this
  exact this
theorem gU_X1 : ∀ w ∈ wsX10, gW w := by
  have h : (wsX10.all fun w => decide (w ∈ lw_tbl) && gok w) = true := by decide +kernel
  intro w hw
  have := List.all_eq_true.mp h w hw
  simp only [Bool.and_eq_true, decide_eq_true_eq] at this
  exact this
theorem gU_X2 : ∀ w ∈ wsX20, gW w := by
  have h : (wsX20.all fun w => decide (w ∈ lw_tbl) && gok w) = true := by decide +kernel
  intro w hw
  have := List.all_eq_true.mp h w hw
  simp only [Bool.and_eq_true, decide_eq_true_eq] at this
  exact this
theorem gU_X3 : ∀ w ∈ wsX30, gW w := by
  have h : (wsX30.all fun w => decide (w ∈ lw_tbl) && gok w) = true := by decide +kernel
  intro w hw
  have := List.all_eq_true.mp h w hw
  simp only [Bool.and_eq_true, decide_eq_true_eq] at this
  exact this
theorem gU_X5 : ∀ w ∈ wsX50, gW w := by
  have h : (wsX50.all fun w => decide (w ∈ lw_tbl) && gok w) = true := by decide +kernel
  intro w hw
  have := List.all_eq_true.mp h w hw
  simp only [Bool.and_eq_true, decide_eq_true_eq] at this
  exact this
theorem gU_X6 : ∀ w ∈ wsX60, gW w := by
  have h : (wsX60.all fun w => decide (w ∈ lw_tbl) && gok w) = true := by decide +kernel
  intro w hw
  have := List.all_eq_true.mp h w hw
  simp only [Bool.and_eq_true, decide_eq_true_eq] at this
  exact this
theorem qS_yX0_placeOf : gW (.selects RX0 yX0_placeOf yX0_placeOf) := ⟨List.mem_of_getElem? (i := 1) (by decide +kernel), rfl⟩
theorem qS_yX0_tollFor : gW (.selects RX0 yX0_tollFor yX0_tollFor) := ⟨List.mem_of_getElem? (i := 2) (by decide +kernel), rfl⟩
theorem qS_yX0_move : gW (.selects RX0 yX0_move yX0_move) := ⟨List.mem_of_getElem? (i := 3) (by decide +kernel), rfl⟩
theorem qS_yX0_goOn : gW (.selects RX0 yX0_goOn yX0_goOn) := ⟨List.mem_of_getElem? (i := 4) (by decide +kernel), rfl⟩
theorem qS_yX0_goBack : gW (.selects RX0 yX0_goBack yX0_goBack) := ⟨List.mem_of_getElem? (i := 5) (by decide +kernel), rfl⟩
theorem qS_yX0_comeOn : gW (.selects RX0 yX0_comeOn yX0_comeOn) := ⟨List.mem_of_getElem? (i := 6) (by decide +kernel), rfl⟩
theorem qS_yX0_hasRoomFor : gW (.selects RX0 yX0_hasRoomFor yX0_hasRoomFor) := ⟨List.mem_of_getElem? (i := 7) (by decide +kernel), rfl⟩
theorem qS_yX0_pays : gW (.selects RX0 yX0_pays yX0_pays) := ⟨List.mem_of_getElem? (i := 8) (by decide +kernel), rfl⟩
theorem qS_yX6_countOf : gW (.selects RX6 yX6_countOf yX6_countOf) := ⟨List.mem_of_getElem? (i := 9) (by decide +kernel), rfl⟩
theorem qN_L : gW (.initialized RL) := ⟨List.mem_of_getElem? (i := 10) (by decide +kernel), rfl⟩
theorem qN_X6 : gW (.initialized RX6) := ⟨List.mem_of_getElem? (i := 11) (by decide +kernel), rfl⟩
theorem qN_X2 : gW (.initialized RX2) := ⟨List.mem_of_getElem? (i := 12) (by decide +kernel), rfl⟩
theorem qN_X0 : gW (.initialized RX0) := ⟨List.mem_of_getElem? (i := 13) (by decide +kernel), rfl⟩
theorem qN_X3 : gW (.initialized RX3) := ⟨List.mem_of_getElem? (i := 14) (by decide +kernel), rfl⟩
theorem qN_X5 : gW (.initialized RX5) := ⟨List.mem_of_getElem? (i := 15) (by decide +kernel), rfl⟩
theorem qN_X1 : gW (.initialized RX1) := ⟨List.mem_of_getElem? (i := 16) (by decide +kernel), rfl⟩
theorem qN_J9 : gW (.initialized RJ9) := ⟨List.mem_of_getElem? (i := 23) (by decide +kernel), rfl⟩
theorem qL_L_25 : gW (.methodLink RL 25 yX6_setToll) := ⟨List.mem_of_getElem? (i := 24) (by decide +kernel), rfl⟩
theorem qI_yX6_setToll : gW (.instanceMethod yX6_setToll) := ⟨List.mem_of_getElem? (i := 25) (by decide +kernel), rfl⟩
theorem qS_yX6_setToll : gW (.selects RX6 yX6_setToll yX6_setToll) := ⟨List.mem_of_getElem? (i := 26) (by decide +kernel), rfl⟩
theorem qC_yX6_setToll : gW (.code yX6_setToll cX6_setToll 4 (some .int)) := ⟨List.mem_of_getElem? (i := 27) (by decide +kernel), rfl⟩
theorem qL_X6_39 : gW (.methodLink RX6 39 yX6_isBetween) := ⟨List.mem_of_getElem? (i := 28) (by decide +kernel), rfl⟩
theorem qT_yX6_isBetween : gW (.static yX6_isBetween) := ⟨List.mem_of_getElem? (i := 29) (by decide +kernel), rfl⟩
theorem qC_yX6_isBetween : gW (.code yX6_isBetween cX6_isBetween 3 (some .boolean)) := ⟨List.mem_of_getElem? (i := 30) (by decide +kernel), rfl⟩
theorem qCL_X6_43 : gW (.classLink RX6 43 "java/lang/IllegalArgumentException") := ⟨List.mem_of_getElem? (i := 31) (by decide +kernel), rfl⟩
theorem qI_objectInit : gW (.instanceMethod objectInit) := ⟨List.mem_of_getElem? (i := 57) (by decide +kernel), rfl⟩
theorem qC_objectInit : gW (.code objectInit ⟨#[0xb1]⟩ 1 none) := ⟨List.mem_of_getElem? (i := 58) (by decide +kernel), rfl⟩
theorem qL_L_49 : gW (.methodLink RL 49 yX6_change) := ⟨List.mem_of_getElem? (i := 101) (by decide +kernel), rfl⟩
theorem qI_yX6_change : gW (.instanceMethod yX6_change) := ⟨List.mem_of_getElem? (i := 102) (by decide +kernel), rfl⟩
theorem qS_yX6_change : gW (.selects RX6 yX6_change yX6_change) := ⟨List.mem_of_getElem? (i := 103) (by decide +kernel), rfl⟩
theorem qC_yX6_change : gW (.code yX6_change cX6_change 1 (some .int)) := ⟨List.mem_of_getElem? (i := 104) (by decide +kernel), rfl⟩
theorem qL_X6_133 : gW (.methodLink RX6 133 yX0_turn) := ⟨List.mem_of_getElem? (i := 105) (by decide +kernel), rfl⟩
theorem qI_yX0_turn : gW (.instanceMethod yX0_turn) := ⟨List.mem_of_getElem? (i := 106) (by decide +kernel), rfl⟩
theorem qS_yX0_turn : gW (.selects RX0 yX0_turn yX0_turn) := ⟨List.mem_of_getElem? (i := 107) (by decide +kernel), rfl⟩
theorem qC_yX0_turn : gW (.code yX0_turn cX0_turn 1 none) := ⟨List.mem_of_getElem? (i := 108) (by decide +kernel), rfl⟩
theorem qL_L_40 : gW (.methodLink RL 40 yX6_cart) := ⟨List.mem_of_getElem? (i := 109) (by decide +kernel), rfl⟩
theorem qI_yX6_cart : gW (.instanceMethod yX6_cart) := ⟨List.mem_of_getElem? (i := 110) (by decide +kernel), rfl⟩
theorem qS_yX6_cart : gW (.selects RX6 yX6_cart yX6_cart) := ⟨List.mem_of_getElem? (i := 111) (by decide +kernel), rfl⟩
theorem qC_yX6_cart : gW (.code yX6_cart cX6_cart 4 (some .int)) := ⟨List.mem_of_getElem? (i := 112) (by decide +kernel), rfl⟩
theorem qL_X6_184 : gW (.methodLink RX6 184 yX0_cartAt) := ⟨List.mem_of_getElem? (i := 113) (by decide +kernel), rfl⟩
theorem qI_yX0_cartAt : gW (.instanceMethod yX0_cartAt) := ⟨List.mem_of_getElem? (i := 114) (by decide +kernel), rfl⟩
theorem qS_yX0_cartAt : gW (.selects RX0 yX0_cartAt yX0_cartAt) := ⟨List.mem_of_getElem? (i := 115) (by decide +kernel), rfl⟩
theorem qC_yX0_cartAt : gW (.code yX0_cartAt cX0_cartAt 2 (some (.object "FogBridge$Cart"))) := ⟨List.mem_of_getElem? (i := 116) (by decide +kernel), rfl⟩
theorem qMN_X0_53 : gW (.methodLinkNest RX0 53 yX6_isIndex "FogBridge") := ⟨List.mem_of_getElem? (i := 117) (by decide +kernel), rfl⟩
theorem qT_yX6_isIndex : gW (.static yX6_isIndex) := ⟨List.mem_of_getElem? (i := 118) (by decide +kernel), rfl⟩
theorem qC_yX6_isIndex : gW (.code yX6_isIndex cX6_isIndex 2 (some .boolean)) := ⟨List.mem_of_getElem? (i := 119) (by decide +kernel), rfl⟩
theorem qL_X6_68 : gW (.methodLink RX6 68 yX6_isIndex) := ⟨List.mem_of_getElem? (i := 120) (by decide +kernel), rfl⟩
theorem qCL_X6_72 : gW (.classLink RX6 72 "java/lang/IndexOutOfBoundsException") := ⟨List.mem_of_getElem? (i := 121) (by decide +kernel), rfl⟩
theorem qL_X6_190 : gW (.methodLink RX6 190 yX0_tellCart) := ⟨List.mem_of_getElem? (i := 137) (by decide +kernel), rfl⟩
theorem qI_yX0_tellCart : gW (.instanceMethod yX0_tellCart) := ⟨List.mem_of_getElem? (i := 138) (by decide +kernel), rfl⟩
theorem qS_yX0_tellCart : gW (.selects RX0 yX0_tellCart yX0_tellCart) := ⟨List.mem_of_getElem? (i := 139) (by decide +kernel), rfl⟩
theorem qC_yX0_tellCart : gW (.code yX0_tellCart cX0_tellCart 3 (some .int)) := ⟨List.mem_of_getElem? (i := 140) (by decide +kernel), rfl⟩
theorem qL_X0_103 : gW (.methodLink RX0 103 yX0_placeOf) := ⟨List.mem_of_getElem? (i := 141) (by decide +kernel), rfl⟩
theorem qI_yX0_placeOf : gW (.instanceMethod yX0_placeOf) := ⟨List.mem_of_getElem? (i := 143) (by decide +kernel), rfl⟩
theorem qIn_X0 : gW (.instantiable RX0 11) := ⟨List.mem_of_getElem? (i := 144) (by decide +kernel), rfl⟩
theorem qC_yX0_placeOf : gW (.code yX0_placeOf cX0_placeOf 2 (some .int)) := ⟨List.mem_of_getElem? (i := 145) (by decide +kernel), rfl⟩
theorem qL_X0_107 : gW (.methodLink RX0 107 yX0_tollFor) := ⟨List.mem_of_getElem? (i := 146) (by decide +kernel), rfl⟩
theorem qI_yX0_tollFor : gW (.instanceMethod yX0_tollFor) := ⟨List.mem_of_getElem? (i := 148) (by decide +kernel), rfl⟩
theorem qC_yX0_tollFor : gW (.code yX0_tollFor cX0_tollFor 3 (some .int)) := ⟨List.mem_of_getElem? (i := 149) (by decide +kernel), rfl⟩
theorem qL_L_75 : gW (.methodLink RL 75 yX6_queue) := ⟨List.mem_of_getElem? (i := 150) (by decide +kernel), rfl⟩
theorem qI_yX6_queue : gW (.instanceMethod yX6_queue) := ⟨List.mem_of_getElem? (i := 151) (by decide +kernel), rfl⟩
theorem qS_yX6_queue : gW (.selects RX6 yX6_queue yX6_queue) := ⟨List.mem_of_getElem? (i := 152) (by decide +kernel), rfl⟩
theorem qC_yX6_queue : gW (.code yX6_queue cX6_queue 3 (some .int)) := ⟨List.mem_of_getElem? (i := 153) (by decide +kernel), rfl⟩
theorem qL_X6_168 : gW (.methodLink RX6 168 yX0_gateAt) := ⟨List.mem_of_getElem? (i := 154) (by decide +kernel), rfl⟩
theorem qI_yX0_gateAt : gW (.instanceMethod yX0_gateAt) := ⟨List.mem_of_getElem? (i := 155) (by decide +kernel), rfl⟩
theorem qS_yX0_gateAt : gW (.selects RX0 yX0_gateAt yX0_gateAt) := ⟨List.mem_of_getElem? (i := 156) (by decide +kernel), rfl⟩
theorem qC_yX0_gateAt : gW (.code yX0_gateAt cX0_gateAt 2 (some (.object "FogBridge$Gate"))) := ⟨List.mem_of_getElem? (i := 157) (by decide +kernel), rfl⟩
theorem qL_X6_196 : gW (.methodLink RX6 196 yX5_at) := ⟨List.mem_of_getElem? (i := 159) (by decide +kernel), rfl⟩
theorem qI_yX5_at : gW (.instanceMethod yX5_at) := ⟨List.mem_of_getElem? (i := 160) (by decide +kernel), rfl⟩
theorem qS_yX5_at : gW (.selects RX5 yX5_at yX5_at) := ⟨List.mem_of_getElem? (i := 161) (by decide +kernel), rfl⟩
theorem qC_yX5_at : gW (.code yX5_at cX5_at 2 (some .int)) := ⟨List.mem_of_getElem? (i := 162) (by decide +kernel), rfl⟩
theorem qMN_X5_19 : gW (.methodLinkNest RX5 19 yX6_isIndex "FogBridge") := ⟨List.mem_of_getElem? (i := 163) (by decide +kernel), rfl⟩
theorem qL_L_53 : gW (.methodLink RL 53 yX6_box) := ⟨List.mem_of_getElem? (i := 164) (by decide +kernel), rfl⟩
theorem qI_yX6_box : gW (.instanceMethod yX6_box) := ⟨List.mem_of_getElem? (i := 165) (by decide +kernel), rfl⟩
theorem qS_yX6_box : gW (.selects RX6 yX6_box yX6_box) := ⟨List.mem_of_getElem? (i := 166) (by decide +kernel), rfl⟩
theorem qC_yX6_box : gW (.code yX6_box cX6_box 3 (some .int)) := ⟨List.mem_of_getElem? (i := 167) (by decide +kernel), rfl⟩
theorem qL_X6_201 : gW (.methodLink RX6 201 yX3_tell) := ⟨List.mem_of_getElem? (i := 169) (by decide +kernel), rfl⟩
theorem qI_yX3_tell : gW (.instanceMethod yX3_tell) := ⟨List.mem_of_getElem? (i := 170) (by decide +kernel), rfl⟩
theorem qS_yX3_tell : gW (.selects RX3 yX3_tell yX3_tell) := ⟨List.mem_of_getElem? (i := 171) (by decide +kernel), rfl⟩
theorem qC_yX3_tell : gW (.code yX3_tell cX3_tell 2 (some .int)) := ⟨List.mem_of_getElem? (i := 172) (by decide +kernel), rfl⟩
theorem qL_L_56 : gW (.methodLink RL 56 yX6_empty) := ⟨List.mem_of_getElem? (i := 173) (by decide +kernel), rfl⟩
theorem qI_yX6_empty : gW (.instanceMethod yX6_empty) := ⟨List.mem_of_getElem? (i := 174) (by decide +kernel), rfl⟩
theorem qS_yX6_empty : gW (.selects RX6 yX6_empty yX6_empty) := ⟨List.mem_of_getElem? (i := 175) (by decide +kernel), rfl⟩
theorem qC_yX6_empty : gW (.code yX6_empty cX6_empty 4 (some .int)) := ⟨List.mem_of_getElem? (i := 176) (by decide +kernel), rfl⟩
theorem qL_L_72 : gW (.methodLink RL 72 yX6_pass) := ⟨List.mem_of_getElem? (i := 178) (by decide +kernel), rfl⟩
theorem qI_yX6_pass : gW (.instanceMethod yX6_pass) := ⟨List.mem_of_getElem? (i := 179) (by decide +kernel), rfl⟩
theorem qS_yX6_pass : gW (.selects RX6 yX6_pass yX6_pass) := ⟨List.mem_of_getElem? (i := 180) (by decide +kernel), rfl⟩
theorem qC_yX6_pass : gW (.code yX6_pass cX6_pass 2 (some .int)) := ⟨List.mem_of_getElem? (i := 181) (by decide +kernel), rfl⟩
theorem qL_X6_212 : gW (.methodLink RX6 212 yX0_run) := ⟨List.mem_of_getElem? (i := 183) (by decide +kernel), rfl⟩
theorem qI_yX0_run : gW (.instanceMethod yX0_run) := ⟨List.mem_of_getElem? (i := 184) (by decide +kernel), rfl⟩
theorem qS_yX0_run : gW (.selects RX0 yX0_run yX0_run) := ⟨List.mem_of_getElem? (i := 185) (by decide +kernel), rfl⟩
theorem qC_yX0_run : gW (.code yX0_run cX0_run 4 (some .int)) := ⟨List.mem_of_getElem? (i := 186) (by decide +kernel), rfl⟩
theorem qL_X0_64 : gW (.methodLink RX0 64 yX0_move) := ⟨List.mem_of_getElem? (i := 187) (by decide +kernel), rfl⟩
theorem qI_yX0_move : gW (.instanceMethod yX0_move) := ⟨List.mem_of_getElem? (i := 189) (by decide +kernel), rfl⟩
theorem qC_yX0_move : gW (.code yX0_move cX0_move 2 (some .int)) := ⟨List.mem_of_getElem? (i := 190) (by decide +kernel), rfl⟩
theorem qL_X0_83 : gW (.methodLink RX0 83 yX5_at) := ⟨List.mem_of_getElem? (i := 191) (by decide +kernel), rfl⟩
theorem qL_X0_57 : gW (.methodLink RX0 57 yX0_cartAt) := ⟨List.mem_of_getElem? (i := 192) (by decide +kernel), rfl⟩
theorem qL_X0_136 : gW (.methodLink RX0 136 yX0_goOn) := ⟨List.mem_of_getElem? (i := 193) (by decide +kernel), rfl⟩
theorem qI_yX0_goOn : gW (.instanceMethod yX0_goOn) := ⟨List.mem_of_getElem? (i := 195) (by decide +kernel), rfl⟩
theorem qC_yX0_goOn : gW (.code yX0_goOn cX0_goOn 6 (some .int)) := ⟨List.mem_of_getElem? (i := 196) (by decide +kernel), rfl⟩
theorem qL_X0_142 : gW (.methodLink RX0 142 yJ9_min_7cf53) := ⟨List.mem_of_getElem? (i := 197) (by decide +kernel), rfl⟩
theorem qT_yJ9_min_7cf53 : gW (.static yJ9_min_7cf53) := ⟨List.mem_of_getElem? (i := 198) (by decide +kernel), rfl⟩
theorem qC_yJ9_min_7cf53 : gW (.code yJ9_min_7cf53 cJ9_min_7cf53 2 (some .int)) := ⟨List.mem_of_getElem? (i := 199) (by decide +kernel), rfl⟩
theorem qL_X0_147 : gW (.methodLink RX0 147 yX5_removeFirst) := ⟨List.mem_of_getElem? (i := 200) (by decide +kernel), rfl⟩
theorem qI_yX5_removeFirst : gW (.instanceMethod yX5_removeFirst) := ⟨List.mem_of_getElem? (i := 201) (by decide +kernel), rfl⟩
theorem qS_yX5_removeFirst : gW (.selects RX5 yX5_removeFirst yX5_removeFirst) := ⟨List.mem_of_getElem? (i := 202) (by decide +kernel), rfl⟩
theorem qC_yX5_removeFirst : gW (.code yX5_removeFirst cX5_removeFirst 2 none) := ⟨List.mem_of_getElem? (i := 203) (by decide +kernel), rfl⟩
theorem qL_X0_139 : gW (.methodLink RX0 139 yX0_goBack) := ⟨List.mem_of_getElem? (i := 204) (by decide +kernel), rfl⟩
theorem qI_yX0_goBack : gW (.instanceMethod yX0_goBack) := ⟨List.mem_of_getElem? (i := 206) (by decide +kernel), rfl⟩
theorem qC_yX0_goBack : gW (.code yX0_goBack cX0_goBack 5 none) := ⟨List.mem_of_getElem? (i := 207) (by decide +kernel), rfl⟩
theorem qL_X0_150 : gW (.methodLink RX0 150 yJ9_max_7cf53) := ⟨List.mem_of_getElem? (i := 208) (by decide +kernel), rfl⟩
theorem qT_yJ9_max_7cf53 : gW (.static yJ9_max_7cf53) := ⟨List.mem_of_getElem? (i := 209) (by decide +kernel), rfl⟩
theorem qC_yJ9_max_7cf53 : gW (.code yJ9_max_7cf53 cJ9_max_7cf53 2 (some .int)) := ⟨List.mem_of_getElem? (i := 210) (by decide +kernel), rfl⟩
theorem qL_X0_153 : gW (.methodLink RX0 153 yX0_gateAt) := ⟨List.mem_of_getElem? (i := 211) (by decide +kernel), rfl⟩
theorem qL_X0_163 : gW (.methodLink RX0 163 yX5_addFirst) := ⟨List.mem_of_getElem? (i := 212) (by decide +kernel), rfl⟩
theorem qI_yX5_addFirst : gW (.instanceMethod yX5_addFirst) := ⟨List.mem_of_getElem? (i := 213) (by decide +kernel), rfl⟩
theorem qS_yX5_addFirst : gW (.selects RX5 yX5_addFirst yX5_addFirst) := ⟨List.mem_of_getElem? (i := 214) (by decide +kernel), rfl⟩
theorem qC_yX5_addFirst : gW (.code yX5_addFirst cX5_addFirst 3 none) := ⟨List.mem_of_getElem? (i := 215) (by decide +kernel), rfl⟩
theorem qL_X0_166 : gW (.methodLink RX0 166 yX5_removeLast) := ⟨List.mem_of_getElem? (i := 216) (by decide +kernel), rfl⟩
theorem qI_yX5_removeLast : gW (.instanceMethod yX5_removeLast) := ⟨List.mem_of_getElem? (i := 217) (by decide +kernel), rfl⟩
theorem qS_yX5_removeLast : gW (.selects RX5 yX5_removeLast yX5_removeLast) := ⟨List.mem_of_getElem? (i := 218) (by decide +kernel), rfl⟩
theorem qC_yX5_removeLast : gW (.code yX5_removeLast cX5_removeLast 1 none) := ⟨List.mem_of_getElem? (i := 219) (by decide +kernel), rfl⟩
theorem qL_X0_68 : gW (.methodLink RX0 68 yX0_comeOn) := ⟨List.mem_of_getElem? (i := 220) (by decide +kernel), rfl⟩
theorem qI_yX0_comeOn : gW (.instanceMethod yX0_comeOn) := ⟨List.mem_of_getElem? (i := 222) (by decide +kernel), rfl⟩
theorem qC_yX0_comeOn : gW (.code yX0_comeOn cX0_comeOn 3 none) := ⟨List.mem_of_getElem? (i := 223) (by decide +kernel), rfl⟩
theorem qL_X0_169 : gW (.methodLink RX0 169 yX0_hasRoomFor) := ⟨List.mem_of_getElem? (i := 224) (by decide +kernel), rfl⟩
theorem qI_yX0_hasRoomFor : gW (.instanceMethod yX0_hasRoomFor) := ⟨List.mem_of_getElem? (i := 226) (by decide +kernel), rfl⟩
theorem qC_yX0_hasRoomFor : gW (.code yX0_hasRoomFor cX0_hasRoomFor 4 (some .boolean)) := ⟨List.mem_of_getElem? (i := 227) (by decide +kernel), rfl⟩
theorem qL_X0_184 : gW (.methodLink RX0 184 yX5_last) := ⟨List.mem_of_getElem? (i := 228) (by decide +kernel), rfl⟩
theorem qI_yX5_last : gW (.instanceMethod yX5_last) := ⟨List.mem_of_getElem? (i := 229) (by decide +kernel), rfl⟩
theorem qS_yX5_last : gW (.selects RX5 yX5_last yX5_last) := ⟨List.mem_of_getElem? (i := 230) (by decide +kernel), rfl⟩
theorem qC_yX5_last : gW (.code yX5_last cX5_last 1 (some .int)) := ⟨List.mem_of_getElem? (i := 231) (by decide +kernel), rfl⟩
theorem qL_X5_23 : gW (.methodLink RX5 23 yX5_at) := ⟨List.mem_of_getElem? (i := 232) (by decide +kernel), rfl⟩
theorem qL_X0_187 : gW (.methodLink RX0 187 yX0_weightOnBridge) := ⟨List.mem_of_getElem? (i := 233) (by decide +kernel), rfl⟩
theorem qI_yX0_weightOnBridge : gW (.instanceMethod yX0_weightOnBridge) := ⟨List.mem_of_getElem? (i := 234) (by decide +kernel), rfl⟩
theorem qS_yX0_weightOnBridge : gW (.selects RX0 yX0_weightOnBridge yX0_weightOnBridge) := ⟨List.mem_of_getElem? (i := 235) (by decide +kernel), rfl⟩
theorem qC_yX0_weightOnBridge : gW (.code yX0_weightOnBridge cX0_weightOnBridge 4 (some .int)) := ⟨List.mem_of_getElem? (i := 236) (by decide +kernel), rfl⟩
theorem qL_X0_177 : gW (.methodLink RX0 177 yX0_pays) := ⟨List.mem_of_getElem? (i := 237) (by decide +kernel), rfl⟩
theorem qI_yX0_pays : gW (.instanceMethod yX0_pays) := ⟨List.mem_of_getElem? (i := 239) (by decide +kernel), rfl⟩
theorem qC_yX0_pays : gW (.code yX0_pays cX0_pays 5 (some .boolean)) := ⟨List.mem_of_getElem? (i := 240) (by decide +kernel), rfl⟩
theorem qL_X0_193 : gW (.methodLink RX0 193 yX3_take) := ⟨List.mem_of_getElem? (i := 241) (by decide +kernel), rfl⟩
theorem qI_yX3_take : gW (.instanceMethod yX3_take) := ⟨List.mem_of_getElem? (i := 242) (by decide +kernel), rfl⟩
theorem qS_yX3_take : gW (.selects RX3 yX3_take yX3_take) := ⟨List.mem_of_getElem? (i := 243) (by decide +kernel), rfl⟩
theorem qC_yX3_take : gW (.code yX3_take cX3_take 4 none) := ⟨List.mem_of_getElem? (i := 244) (by decide +kernel), rfl⟩
theorem qL_X0_181 : gW (.methodLink RX0 181 yX5_addLast) := ⟨List.mem_of_getElem? (i := 245) (by decide +kernel), rfl⟩
theorem qI_yX5_addLast : gW (.instanceMethod yX5_addLast) := ⟨List.mem_of_getElem? (i := 246) (by decide +kernel), rfl⟩
theorem qS_yX5_addLast : gW (.selects RX5 yX5_addLast yX5_addLast) := ⟨List.mem_of_getElem? (i := 247) (by decide +kernel), rfl⟩
theorem qC_yX5_addLast : gW (.code yX5_addLast cX5_addLast 2 none) := ⟨List.mem_of_getElem? (i := 248) (by decide +kernel), rfl⟩
theorem qL_L_36 : gW (.methodLink RL 36 yX6_count) := ⟨List.mem_of_getElem? (i := 249) (by decide +kernel), rfl⟩
theorem qI_yX6_count : gW (.instanceMethod yX6_count) := ⟨List.mem_of_getElem? (i := 250) (by decide +kernel), rfl⟩
theorem qS_yX6_count : gW (.selects RX6 yX6_count yX6_count) := ⟨List.mem_of_getElem? (i := 251) (by decide +kernel), rfl⟩
theorem qC_yX6_count : gW (.code yX6_count cX6_count 2 (some .int)) := ⟨List.mem_of_getElem? (i := 252) (by decide +kernel), rfl⟩
theorem qL_X6_217 : gW (.methodLink RX6 217 yX6_countOf) := ⟨List.mem_of_getElem? (i := 254) (by decide +kernel), rfl⟩
theorem qI_yX6_countOf : gW (.instanceMethod yX6_countOf) := ⟨List.mem_of_getElem? (i := 256) (by decide +kernel), rfl⟩
theorem qIn_X6 : gW (.instantiable RX6 5) := ⟨List.mem_of_getElem? (i := 257) (by decide +kernel), rfl⟩
theorem qC_yX6_countOf : gW (.code yX6_countOf cX6_countOf 2 (some .int)) := ⟨List.mem_of_getElem? (i := 258) (by decide +kernel), rfl⟩
theorem qL_X6_261 : gW (.methodLink RX6 261 yX0_cartsIn) := ⟨List.mem_of_getElem? (i := 259) (by decide +kernel), rfl⟩
theorem qI_yX0_cartsIn : gW (.instanceMethod yX0_cartsIn) := ⟨List.mem_of_getElem? (i := 260) (by decide +kernel), rfl⟩
theorem qS_yX0_cartsIn : gW (.selects RX0 yX0_cartsIn yX0_cartsIn) := ⟨List.mem_of_getElem? (i := 261) (by decide +kernel), rfl⟩
theorem qC_yX0_cartsIn : gW (.code yX0_cartsIn cX0_cartsIn 5 (some .int)) := ⟨List.mem_of_getElem? (i := 262) (by decide +kernel), rfl⟩
theorem qL_X6_264 : gW (.methodLink RX6 264 yX0_weightOnBridge) := ⟨List.mem_of_getElem? (i := 263) (by decide +kernel), rfl⟩
theorem qL_L_69 : gW (.methodLink RL 69 yX6_over) := ⟨List.mem_of_getElem? (i := 264) (by decide +kernel), rfl⟩
theorem qI_yX6_over : gW (.instanceMethod yX6_over) := ⟨List.mem_of_getElem? (i := 265) (by decide +kernel), rfl⟩
theorem qS_yX6_over : gW (.selects RX6 yX6_over yX6_over) := ⟨List.mem_of_getElem? (i := 266) (by decide +kernel), rfl⟩
theorem qC_yX6_over : gW (.code yX6_over cX6_over 3 (some .int)) := ⟨List.mem_of_getElem? (i := 267) (by decide +kernel), rfl⟩
theorem qL_X6_222 : gW (.methodLink RX6 222 yX0_copyFrom) := ⟨List.mem_of_getElem? (i := 269) (by decide +kernel), rfl⟩
theorem qI_yX0_copyFrom : gW (.instanceMethod yX0_copyFrom) := ⟨List.mem_of_getElem? (i := 270) (by decide +kernel), rfl⟩
theorem qS_yX0_copyFrom : gW (.selects RX0 yX0_copyFrom yX0_copyFrom) := ⟨List.mem_of_getElem? (i := 271) (by decide +kernel), rfl⟩
theorem qC_yX0_copyFrom : gW (.code yX0_copyFrom cX0_copyFrom 5 none) := ⟨List.mem_of_getElem? (i := 272) (by decide +kernel), rfl⟩
theorem qL_X0_123 : gW (.methodLink RX0 123 yX1_copyFrom) := ⟨List.mem_of_getElem? (i := 273) (by decide +kernel), rfl⟩
theorem qI_yX1_copyFrom : gW (.instanceMethod yX1_copyFrom) := ⟨List.mem_of_getElem? (i := 274) (by decide +kernel), rfl⟩
theorem qS_yX1_copyFrom : gW (.selects RX1 yX1_copyFrom yX1_copyFrom) := ⟨List.mem_of_getElem? (i := 275) (by decide +kernel), rfl⟩
theorem qC_yX1_copyFrom : gW (.code yX1_copyFrom cX1_copyFrom 2 none) := ⟨List.mem_of_getElem? (i := 276) (by decide +kernel), rfl⟩
theorem qL_X0_127 : gW (.methodLink RX0 127 yX3_copyFrom) := ⟨List.mem_of_getElem? (i := 277) (by decide +kernel), rfl⟩
theorem qI_yX3_copyFrom : gW (.instanceMethod yX3_copyFrom) := ⟨List.mem_of_getElem? (i := 278) (by decide +kernel), rfl⟩
theorem qS_yX3_copyFrom : gW (.selects RX3 yX3_copyFrom yX3_copyFrom) := ⟨List.mem_of_getElem? (i := 279) (by decide +kernel), rfl⟩
theorem qC_yX3_copyFrom : gW (.code yX3_copyFrom cX3_copyFrom 2 none) := ⟨List.mem_of_getElem? (i := 280) (by decide +kernel), rfl⟩
theorem qL_X3_48 : gW (.methodLink RX3 48 yX5_copyFrom) := ⟨List.mem_of_getElem? (i := 281) (by decide +kernel), rfl⟩
theorem qI_yX5_copyFrom : gW (.instanceMethod yX5_copyFrom) := ⟨List.mem_of_getElem? (i := 282) (by decide +kernel), rfl⟩
theorem qS_yX5_copyFrom : gW (.selects RX5 yX5_copyFrom yX5_copyFrom) := ⟨List.mem_of_getElem? (i := 283) (by decide +kernel), rfl⟩
theorem qC_yX5_copyFrom : gW (.code yX5_copyFrom cX5_copyFrom 3 none) := ⟨List.mem_of_getElem? (i := 284) (by decide +kernel), rfl⟩
theorem qL_X0_130 : gW (.methodLink RX0 130 yX5_copyFrom) := ⟨List.mem_of_getElem? (i := 285) (by decide +kernel), rfl⟩
theorem qL_X6_226 : gW (.methodLink RX6 226 yX0_isOver) := ⟨List.mem_of_getElem? (i := 286) (by decide +kernel), rfl⟩
theorem qI_yX0_isOver : gW (.instanceMethod yX0_isOver) := ⟨List.mem_of_getElem? (i := 287) (by decide +kernel), rfl⟩
theorem qS_yX0_isOver : gW (.selects RX0 yX0_isOver yX0_isOver) := ⟨List.mem_of_getElem? (i := 288) (by decide +kernel), rfl⟩
theorem qC_yX0_isOver : gW (.code yX0_isOver cX0_isOver 3 (some .boolean)) := ⟨List.mem_of_getElem? (i := 289) (by decide +kernel), rfl⟩
theorem qL_L_66 : gW (.methodLink RL 66 yX6_keep) := ⟨List.mem_of_getElem? (i := 290) (by decide +kernel), rfl⟩
theorem qI_yX6_keep : gW (.instanceMethod yX6_keep) := ⟨List.mem_of_getElem? (i := 291) (by decide +kernel), rfl⟩
theorem qS_yX6_keep : gW (.selects RX6 yX6_keep yX6_keep) := ⟨List.mem_of_getElem? (i := 292) (by decide +kernel), rfl⟩
theorem qC_yX6_keep : gW (.code yX6_keep cX6_keep 6 (some .int)) := ⟨List.mem_of_getElem? (i := 293) (by decide +kernel), rfl⟩
theorem qL_L_63 : gW (.methodLink RL 63 yX6_foresee) := ⟨List.mem_of_getElem? (i := 294) (by decide +kernel), rfl⟩
theorem qI_yX6_foresee : gW (.instanceMethod yX6_foresee) := ⟨List.mem_of_getElem? (i := 295) (by decide +kernel), rfl⟩
theorem qS_yX6_foresee : gW (.selects RX6 yX6_foresee yX6_foresee) := ⟨List.mem_of_getElem? (i := 296) (by decide +kernel), rfl⟩
theorem qC_yX6_foresee : gW (.code yX6_foresee cX6_foresee 4 (some .int)) := ⟨List.mem_of_getElem? (i := 297) (by decide +kernel), rfl⟩
theorem qL_X6_231 : gW (.methodLink RX6 231 yX0_coinsInBoxes) := ⟨List.mem_of_getElem? (i := 300) (by decide +kernel), rfl⟩
theorem qI_yX0_coinsInBoxes : gW (.instanceMethod yX0_coinsInBoxes) := ⟨List.mem_of_getElem? (i := 301) (by decide +kernel), rfl⟩
theorem qS_yX0_coinsInBoxes : gW (.selects RX0 yX0_coinsInBoxes yX0_coinsInBoxes) := ⟨List.mem_of_getElem? (i := 302) (by decide +kernel), rfl⟩
theorem qC_yX0_coinsInBoxes : gW (.code yX0_coinsInBoxes cX0_coinsInBoxes 1 (some .int)) := ⟨List.mem_of_getElem? (i := 303) (by decide +kernel), rfl⟩
theorem qL_L_59 : gW (.methodLink RL 59 yX6_digest) := ⟨List.mem_of_getElem? (i := 304) (by decide +kernel), rfl⟩
theorem qI_yX6_digest : gW (.instanceMethod yX6_digest) := ⟨List.mem_of_getElem? (i := 305) (by decide +kernel), rfl⟩
theorem qS_yX6_digest : gW (.selects RX6 yX6_digest yX6_digest) := ⟨List.mem_of_getElem? (i := 306) (by decide +kernel), rfl⟩
theorem qC_yX6_digest : gW (.code yX6_digest cX6_digest 4 (some .long)) := ⟨List.mem_of_getElem? (i := 307) (by decide +kernel), rfl⟩
theorem qK_X6_239 : gW (.constantLong RX6 239 (683)) := ⟨List.mem_of_getElem? (i := 308) (by decide +kernel), rfl⟩
theorem qL_X6_241 : gW (.methodLink RX6 241 yX6_mixed) := ⟨List.mem_of_getElem? (i := 309) (by decide +kernel), rfl⟩
theorem qT_yX6_mixed : gW (.static yX6_mixed) := ⟨List.mem_of_getElem? (i := 310) (by decide +kernel), rfl⟩
theorem qC_yX6_mixed : gW (.code yX6_mixed cX6_mixed 3 (some .long)) := ⟨List.mem_of_getElem? (i := 311) (by decide +kernel), rfl⟩
theorem qK_X6_250 : gW (.constantLong RX6 250 (31)) := ⟨List.mem_of_getElem? (i := 312) (by decide +kernel), rfl⟩
theorem qL_X6_245 : gW (.methodLink RX6 245 yX2_mixedInto) := ⟨List.mem_of_getElem? (i := 313) (by decide +kernel), rfl⟩
theorem qI_yX2_mixedInto : gW (.instanceMethod yX2_mixedInto) := ⟨List.mem_of_getElem? (i := 314) (by decide +kernel), rfl⟩
theorem qS_yX2_mixedInto : gW (.selects RX2 yX2_mixedInto yX2_mixedInto) := ⟨List.mem_of_getElem? (i := 315) (by decide +kernel), rfl⟩
theorem qC_yX2_mixedInto : gW (.code yX2_mixedInto cX2_mixedInto 6 (some .long)) := ⟨List.mem_of_getElem? (i := 316) (by decide +kernel), rfl⟩
theorem qL_X2_22 : gW (.methodLink RX2 22 yX2_ringsOf) := ⟨List.mem_of_getElem? (i := 317) (by decide +kernel), rfl⟩
theorem qI_yX2_ringsOf : gW (.instanceMethod yX2_ringsOf) := ⟨List.mem_of_getElem? (i := 318) (by decide +kernel), rfl⟩
theorem qS_yX2_ringsOf : gW (.selects RX2 yX2_ringsOf yX2_ringsOf) := ⟨List.mem_of_getElem? (i := 319) (by decide +kernel), rfl⟩
theorem qC_yX2_ringsOf : gW (.code yX2_ringsOf cX2_ringsOf 2 (some .int)) := ⟨List.mem_of_getElem? (i := 320) (by decide +kernel), rfl⟩
theorem qMN_X2_32 : gW (.methodLinkNest RX2 32 yX6_isIndex "FogBridge") := ⟨List.mem_of_getElem? (i := 321) (by decide +kernel), rfl⟩
theorem qMN_X2_54 : gW (.methodLinkNest RX2 54 yX6_mixed "FogBridge") := ⟨List.mem_of_getElem? (i := 322) (by decide +kernel), rfl⟩
theorem qL_X6_249 : gW (.methodLink RX6 249 yX0_mixedInto) := ⟨List.mem_of_getElem? (i := 323) (by decide +kernel), rfl⟩
theorem qI_yX0_mixedInto : gW (.instanceMethod yX0_mixedInto) := ⟨List.mem_of_getElem? (i := 324) (by decide +kernel), rfl⟩
theorem qS_yX0_mixedInto : gW (.selects RX0 yX0_mixedInto yX0_mixedInto) := ⟨List.mem_of_getElem? (i := 325) (by decide +kernel), rfl⟩
theorem qC_yX0_mixedInto : gW (.code yX0_mixedInto cX0_mixedInto 8 (some .long)) := ⟨List.mem_of_getElem? (i := 326) (by decide +kernel), rfl⟩
theorem qL_X0_111 : gW (.methodLink RX0 111 yX3_mixedInto) := ⟨List.mem_of_getElem? (i := 327) (by decide +kernel), rfl⟩
theorem qI_yX3_mixedInto : gW (.instanceMethod yX3_mixedInto) := ⟨List.mem_of_getElem? (i := 328) (by decide +kernel), rfl⟩
theorem qS_yX3_mixedInto : gW (.selects RX3 yX3_mixedInto yX3_mixedInto) := ⟨List.mem_of_getElem? (i := 329) (by decide +kernel), rfl⟩
theorem qC_yX3_mixedInto : gW (.code yX3_mixedInto cX3_mixedInto 6 (some .long)) := ⟨List.mem_of_getElem? (i := 330) (by decide +kernel), rfl⟩
theorem qL_X3_37 : gW (.methodLink RX3 37 yX3_tell) := ⟨List.mem_of_getElem? (i := 331) (by decide +kernel), rfl⟩
theorem qMN_X3_41 : gW (.methodLinkNest RX3 41 yX6_mixed "FogBridge") := ⟨List.mem_of_getElem? (i := 332) (by decide +kernel), rfl⟩
theorem qL_X3_45 : gW (.methodLink RX3 45 yX5_at) := ⟨List.mem_of_getElem? (i := 333) (by decide +kernel), rfl⟩
theorem qL_X0_115 : gW (.methodLink RX0 115 yX0_tellCart) := ⟨List.mem_of_getElem? (i := 334) (by decide +kernel), rfl⟩
theorem qMN_X0_119 : gW (.methodLinkNest RX0 119 yX6_mixed "FogBridge") := ⟨List.mem_of_getElem? (i := 335) (by decide +kernel), rfl⟩
theorem qL_L_18 : gW (.methodLink RL 18 yL_below) := ⟨List.mem_of_getElem? (i := 336) (by decide +kernel), rfl⟩
theorem qT_yL_below : gW (.static yL_below) := ⟨List.mem_of_getElem? (i := 337) (by decide +kernel), rfl⟩
theorem qC_yL_below : gW (.code yL_below cL_below 2 (some .int)) := ⟨List.mem_of_getElem? (i := 338) (by decide +kernel), rfl⟩
theorem qKi_L_7 : gW (.constant RL 7 (2147483647)) := ⟨List.mem_of_getElem? (i := 339) (by decide +kernel), rfl⟩
theorem qL_L_12 : gW (.methodLink RL 12 yL_cell) := ⟨List.mem_of_getElem? (i := 340) (by decide +kernel), rfl⟩
theorem qT_yL_cell : gW (.static yL_cell) := ⟨List.mem_of_getElem? (i := 341) (by decide +kernel), rfl⟩
theorem qC_yL_cell : gW (.code yL_cell cL_cell 2 (some .int)) := ⟨List.mem_of_getElem? (i := 342) (by decide +kernel), rfl⟩
theorem qKi_L_8 : gW (.constant RL 8 (790386105)) := ⟨List.mem_of_getElem? (i := 343) (by decide +kernel), rfl⟩
theorem qL_L_32 : gW (.methodLink RL 32 yL_bridge) := ⟨List.mem_of_getElem? (i := 344) (by decide +kernel), rfl⟩
theorem qT_yL_bridge : gW (.static yL_bridge) := ⟨List.mem_of_getElem? (i := 345) (by decide +kernel), rfl⟩
theorem qC_yL_bridge : gW (.code yL_bridge cL_bridge 5 (some (.object "FogBridge"))) := ⟨List.mem_of_getElem? (i := 346) (by decide +kernel), rfl⟩
theorem qCL_L_9 : gW (.classLink RL 9 RX6) := ⟨List.mem_of_getElem? (i := 347) (by decide +kernel), rfl⟩
theorem qL_L_11 : gW (.methodLink RL 11 yX6_init) := ⟨List.mem_of_getElem? (i := 348) (by decide +kernel), rfl⟩
theorem qI_yX6_init : gW (.instanceMethod yX6_init) := ⟨List.mem_of_getElem? (i := 349) (by decide +kernel), rfl⟩
theorem qC_yX6_init : gW (.code yX6_init cX6_init 1 none) := ⟨List.mem_of_getElem? (i := 350) (by decide +kernel), rfl⟩
theorem qL_X6_1 : gW (.methodLink RX6 1 objectInit) := ⟨List.mem_of_getElem? (i := 351) (by decide +kernel), rfl⟩
theorem qCL_X6_7 : gW (.classLink RX6 7 RX2) := ⟨List.mem_of_getElem? (i := 352) (by decide +kernel), rfl⟩
theorem qIn_X2 : gW (.instantiable RX2 3) := ⟨List.mem_of_getElem? (i := 353) (by decide +kernel), rfl⟩
theorem qMN_X6_9 : gW (.methodLinkNest RX6 9 yX2_init "FogBridge") := ⟨List.mem_of_getElem? (i := 354) (by decide +kernel), rfl⟩
theorem qI_yX2_init : gW (.instanceMethod yX2_init) := ⟨List.mem_of_getElem? (i := 355) (by decide +kernel), rfl⟩
theorem qC_yX2_init : gW (.code yX2_init cX2_init 1 none) := ⟨List.mem_of_getElem? (i := 356) (by decide +kernel), rfl⟩
theorem qL_X2_3 : gW (.methodLink RX2 3 objectInit) := ⟨List.mem_of_getElem? (i := 357) (by decide +kernel), rfl⟩
theorem qF_X2_9 : gW (.fieldLink RX2 9 "FogBridge$Code" "signals" "[I") := ⟨List.mem_of_getElem? (i := 358) (by decide +kernel), rfl⟩
theorem qF_X2_15 : gW (.fieldLink RX2 15 "FogBridge$Code" "rowsOfLength" "[I") := ⟨List.mem_of_getElem? (i := 359) (by decide +kernel), rfl⟩
theorem qF_X2_18 : gW (.fieldLink RX2 18 "FogBridge$Code" "size" "I") := ⟨List.mem_of_getElem? (i := 360) (by decide +kernel), rfl⟩
theorem qFN_X6_81 : gW (.fieldLinkNest RX6 81 "FogBridge$Code" "size" "I" "FogBridge") := ⟨List.mem_of_getElem? (i := 361) (by decide +kernel), rfl⟩
theorem qA_int : gW (.arrayClass .int) := ⟨List.mem_of_getElem? (i := 369) (by decide +kernel), rfl⟩
theorem qCL_X6_20 : gW (.classLink RX6 20 RX0) := ⟨List.mem_of_getElem? (i := 370) (by decide +kernel), rfl⟩
theorem qL_X6_22 : gW (.methodLink RX6 22 yX0_init) := ⟨List.mem_of_getElem? (i := 371) (by decide +kernel), rfl⟩
theorem qI_yX0_init : gW (.instanceMethod yX0_init) := ⟨List.mem_of_getElem? (i := 372) (by decide +kernel), rfl⟩
theorem qC_yX0_init : gW (.code yX0_init cX0_init 2 none) := ⟨List.mem_of_getElem? (i := 373) (by decide +kernel), rfl⟩
theorem qL_X0_3 : gW (.methodLink RX0 3 objectInit) := ⟨List.mem_of_getElem? (i := 374) (by decide +kernel), rfl⟩
theorem qCL_X0_24 : gW (.classLink RX0 24 RX1) := ⟨List.mem_of_getElem? (i := 375) (by decide +kernel), rfl⟩
theorem qCL_X0_30 : gW (.classLink RX0 30 RX3) := ⟨List.mem_of_getElem? (i := 377) (by decide +kernel), rfl⟩
theorem qIn_X3 : gW (.instantiable RX3 5) := ⟨List.mem_of_getElem? (i := 378) (by decide +kernel), rfl⟩
theorem qMN_X0_32 : gW (.methodLinkNest RX0 32 yX3_init "FogBridge") := ⟨List.mem_of_getElem? (i := 379) (by decide +kernel), rfl⟩
theorem qI_yX3_init : gW (.instanceMethod yX3_init) := ⟨List.mem_of_getElem? (i := 380) (by decide +kernel), rfl⟩
theorem qC_yX3_init : gW (.code yX3_init cX3_init 1 none) := ⟨List.mem_of_getElem? (i := 381) (by decide +kernel), rfl⟩
theorem qL_X3_3 : gW (.methodLink RX3 3 objectInit) := ⟨List.mem_of_getElem? (i := 382) (by decide +kernel), rfl⟩
theorem qCL_X3_9 : gW (.classLink RX3 9 RX5) := ⟨List.mem_of_getElem? (i := 383) (by decide +kernel), rfl⟩
theorem qIn_X5 : gW (.instantiable RX5 2) := ⟨List.mem_of_getElem? (i := 384) (by decide +kernel), rfl⟩
theorem qMN_X3_11 : gW (.methodLinkNest RX3 11 yX5_init "FogBridge") := ⟨List.mem_of_getElem? (i := 385) (by decide +kernel), rfl⟩
theorem qI_yX5_init : gW (.instanceMethod yX5_init) := ⟨List.mem_of_getElem? (i := 386) (by decide +kernel), rfl⟩
theorem qC_yX5_init : gW (.code yX5_init cX5_init 1 none) := ⟨List.mem_of_getElem? (i := 387) (by decide +kernel), rfl⟩
theorem qL_X5_3 : gW (.methodLink RX5 3 objectInit) := ⟨List.mem_of_getElem? (i := 388) (by decide +kernel), rfl⟩
theorem qF_X5_9 : gW (.fieldLink RX5 9 "FogBridge$Row" "carts" "[I") := ⟨List.mem_of_getElem? (i := 389) (by decide +kernel), rfl⟩
theorem qF_X5_15 : gW (.fieldLink RX5 15 "FogBridge$Row" "size" "I") := ⟨List.mem_of_getElem? (i := 390) (by decide +kernel), rfl⟩
theorem qFN_X3_34 : gW (.fieldLinkNest RX3 34 "FogBridge$Row" "size" "I" "FogBridge") := ⟨List.mem_of_getElem? (i := 391) (by decide +kernel), rfl⟩
theorem qFN_X6_114 : gW (.fieldLinkNest RX6 114 "FogBridge$Row" "size" "I" "FogBridge") := ⟨List.mem_of_getElem? (i := 392) (by decide +kernel), rfl⟩
theorem qFN_X0_80 : gW (.fieldLinkNest RX0 80 "FogBridge$Row" "size" "I" "FogBridge") := ⟨List.mem_of_getElem? (i := 393) (by decide +kernel), rfl⟩
theorem qF_X3_12 : gW (.fieldLink RX3 12 "FogBridge$Gate" "waiting" "LFogBridge$Row;") := ⟨List.mem_of_getElem? (i := 399) (by decide +kernel), rfl⟩
theorem qFN_X6_172 : gW (.fieldLinkNest RX6 172 "FogBridge$Gate" "waiting" "LFogBridge$Row;" "FogBridge") := ⟨List.mem_of_getElem? (i := 400) (by decide +kernel), rfl⟩
theorem qFN_X0_157 : gW (.fieldLinkNest RX0 157 "FogBridge$Gate" "waiting" "LFogBridge$Row;" "FogBridge") := ⟨List.mem_of_getElem? (i := 401) (by decide +kernel), rfl⟩
theorem qF_X3_18 : gW (.fieldLink RX3 18 "FogBridge$Gate" "coins" "I") := ⟨List.mem_of_getElem? (i := 402) (by decide +kernel), rfl⟩
theorem qFN_X0_77 : gW (.fieldLinkNest RX0 77 "FogBridge$Gate" "coins" "I" "FogBridge") := ⟨List.mem_of_getElem? (i := 403) (by decide +kernel), rfl⟩
theorem qFN_X6_209 : gW (.fieldLinkNest RX6 209 "FogBridge$Gate" "coins" "I" "FogBridge") := ⟨List.mem_of_getElem? (i := 404) (by decide +kernel), rfl⟩
theorem qF_X3_22 : gW (.fieldLink RX3 22 "FogBridge$Gate" "payers" "I") := ⟨List.mem_of_getElem? (i := 405) (by decide +kernel), rfl⟩
theorem qF_X3_25 : gW (.fieldLink RX3 25 "FogBridge$Gate" "axles" "I") := ⟨List.mem_of_getElem? (i := 406) (by decide +kernel), rfl⟩
theorem qF_X3_31 : gW (.fieldLink RX3 31 "FogBridge$Gate" "keptByCheats" "I") := ⟨List.mem_of_getElem? (i := 407) (by decide +kernel), rfl⟩
theorem qFN_X6_206 : gW (.fieldLinkNest RX6 206 "FogBridge$Gate" "keptByCheats" "I" "FogBridge") := ⟨List.mem_of_getElem? (i := 408) (by decide +kernel), rfl⟩
theorem qCL_X0_40 : gW (.classLink RX0 40 RX5) := ⟨List.mem_of_getElem? (i := 420) (by decide +kernel), rfl⟩
theorem qMN_X0_42 : gW (.methodLinkNest RX0 42 yX5_init "FogBridge") := ⟨List.mem_of_getElem? (i := 421) (by decide +kernel), rfl⟩
theorem qIn_X1 : gW (.instantiable RX1 11) := ⟨List.mem_of_getElem? (i := 422) (by decide +kernel), rfl⟩
theorem qL_X0_47 : gW (.methodLink RX0 47 yX1_init) := ⟨List.mem_of_getElem? (i := 423) (by decide +kernel), rfl⟩
theorem qI_yX1_init : gW (.instanceMethod yX1_init) := ⟨List.mem_of_getElem? (i := 424) (by decide +kernel), rfl⟩
theorem qC_yX1_init : gW (.code yX1_init cX1_init 2 none) := ⟨List.mem_of_getElem? (i := 425) (by decide +kernel), rfl⟩
theorem qL_X1_3 : gW (.methodLink RX1 3 objectInit) := ⟨List.mem_of_getElem? (i := 426) (by decide +kernel), rfl⟩
theorem qF_X1_18 : gW (.fieldLink RX1 18 "FogBridge$Cart" "number" "I") := ⟨List.mem_of_getElem? (i := 427) (by decide +kernel), rfl⟩
theorem qFN_X6_177 : gW (.fieldLinkNest RX6 177 "FogBridge$Cart" "number" "I" "FogBridge") := ⟨List.mem_of_getElem? (i := 428) (by decide +kernel), rfl⟩
theorem qFN_X0_160 : gW (.fieldLinkNest RX0 160 "FogBridge$Cart" "number" "I" "FogBridge") := ⟨List.mem_of_getElem? (i := 429) (by decide +kernel), rfl⟩
theorem qF_X1_21 : gW (.fieldLink RX1 21 "FogBridge$Cart" "end" "I") := ⟨List.mem_of_getElem? (i := 430) (by decide +kernel), rfl⟩
theorem qFN_X6_147 : gW (.fieldLinkNest RX6 147 "FogBridge$Cart" "end" "I" "FogBridge") := ⟨List.mem_of_getElem? (i := 431) (by decide +kernel), rfl⟩
theorem qFN_X0_100 : gW (.fieldLinkNest RX0 100 "FogBridge$Cart" "end" "I" "FogBridge") := ⟨List.mem_of_getElem? (i := 432) (by decide +kernel), rfl⟩
theorem qF_X1_24 : gW (.fieldLink RX1 24 "FogBridge$Cart" "axles" "I") := ⟨List.mem_of_getElem? (i := 433) (by decide +kernel), rfl⟩
theorem qFN_X3_28 : gW (.fieldLinkNest RX3 28 "FogBridge$Cart" "axles" "I" "FogBridge") := ⟨List.mem_of_getElem? (i := 434) (by decide +kernel), rfl⟩
theorem qFN_X6_152 : gW (.fieldLinkNest RX6 152 "FogBridge$Cart" "axles" "I" "FogBridge") := ⟨List.mem_of_getElem? (i := 435) (by decide +kernel), rfl⟩
theorem qFN_X0_93 : gW (.fieldLinkNest RX0 93 "FogBridge$Cart" "axles" "I" "FogBridge") := ⟨List.mem_of_getElem? (i := 436) (by decide +kernel), rfl⟩
theorem qF_X1_27 : gW (.fieldLink RX1 27 "FogBridge$Cart" "weight" "I") := ⟨List.mem_of_getElem? (i := 437) (by decide +kernel), rfl⟩
theorem qFN_X0_87 : gW (.fieldLinkNest RX0 87 "FogBridge$Cart" "weight" "I" "FogBridge") := ⟨List.mem_of_getElem? (i := 438) (by decide +kernel), rfl⟩
theorem qFN_X6_155 : gW (.fieldLinkNest RX6 155 "FogBridge$Cart" "weight" "I" "FogBridge") := ⟨List.mem_of_getElem? (i := 439) (by decide +kernel), rfl⟩
theorem qF_X1_30 : gW (.fieldLink RX1 30 "FogBridge$Cart" "pace" "I") := ⟨List.mem_of_getElem? (i := 440) (by decide +kernel), rfl⟩
theorem qFN_X6_158 : gW (.fieldLinkNest RX6 158 "FogBridge$Cart" "pace" "I" "FogBridge") := ⟨List.mem_of_getElem? (i := 441) (by decide +kernel), rfl⟩
theorem qFN_X0_96 : gW (.fieldLinkNest RX0 96 "FogBridge$Cart" "pace" "I" "FogBridge") := ⟨List.mem_of_getElem? (i := 442) (by decide +kernel), rfl⟩
theorem qF_X1_33 : gW (.fieldLink RX1 33 "FogBridge$Cart" "coins" "I") := ⟨List.mem_of_getElem? (i := 443) (by decide +kernel), rfl⟩
theorem qFN_X6_161 : gW (.fieldLinkNest RX6 161 "FogBridge$Cart" "coins" "I" "FogBridge") := ⟨List.mem_of_getElem? (i := 444) (by decide +kernel), rfl⟩
theorem qFN_X0_99 : gW (.fieldLinkNest RX0 99 "FogBridge$Cart" "coins" "I" "FogBridge") := ⟨List.mem_of_getElem? (i := 445) (by decide +kernel), rfl⟩
theorem qF_X1_36 : gW (.fieldLink RX1 36 "FogBridge$Cart" "isCheat" "Z") := ⟨List.mem_of_getElem? (i := 446) (by decide +kernel), rfl⟩
theorem qFN_X6_164 : gW (.fieldLinkNest RX6 164 "FogBridge$Cart" "isCheat" "Z" "FogBridge") := ⟨List.mem_of_getElem? (i := 447) (by decide +kernel), rfl⟩
theorem qFN_X0_190 : gW (.fieldLinkNest RX0 190 "FogBridge$Cart" "isCheat" "Z" "FogBridge") := ⟨List.mem_of_getElem? (i := 448) (by decide +kernel), rfl⟩
theorem qF_X1_40 : gW (.fieldLink RX1 40 "FogBridge$Cart" "hasPaid" "Z") := ⟨List.mem_of_getElem? (i := 449) (by decide +kernel), rfl⟩
theorem qFN_X0_173 : gW (.fieldLinkNest RX0 173 "FogBridge$Cart" "hasPaid" "Z" "FogBridge") := ⟨List.mem_of_getElem? (i := 450) (by decide +kernel), rfl⟩
theorem qF_X1_9 : gW (.fieldLink RX1 9 "FogBridge$Cart" "state" "I") := ⟨List.mem_of_getElem? (i := 451) (by decide +kernel), rfl⟩
theorem qFN_X0_74 : gW (.fieldLinkNest RX0 74 "FogBridge$Cart" "state" "I" "FogBridge") := ⟨List.mem_of_getElem? (i := 452) (by decide +kernel), rfl⟩
theorem qF_X1_43 : gW (.fieldLink RX1 43 "FogBridge$Cart" "way" "I") := ⟨List.mem_of_getElem? (i := 453) (by decide +kernel), rfl⟩
theorem qFN_X0_133 : gW (.fieldLinkNest RX0 133 "FogBridge$Cart" "way" "I" "FogBridge") := ⟨List.mem_of_getElem? (i := 454) (by decide +kernel), rfl⟩
theorem qF_X1_15 : gW (.fieldLink RX1 15 "FogBridge$Cart" "overTick" "I") := ⟨List.mem_of_getElem? (i := 455) (by decide +kernel), rfl⟩
theorem qFN_X0_90 : gW (.fieldLinkNest RX0 90 "FogBridge$Cart" "overTick" "I" "FogBridge") := ⟨List.mem_of_getElem? (i := 456) (by decide +kernel), rfl⟩
theorem qF_X0_71 : gW (.fieldLink RX0 71 "FogBridge$Bridge" "tick" "I") := ⟨List.mem_of_getElem? (i := 480) (by decide +kernel), rfl⟩
theorem qFN_X6_90 : gW (.fieldLinkNest RX6 90 "FogBridge$Bridge" "tick" "I" "FogBridge") := ⟨List.mem_of_getElem? (i := 481) (by decide +kernel), rfl⟩
theorem qF_X0_61 : gW (.fieldLink RX0 61 "FogBridge$Bridge" "direction" "I") := ⟨List.mem_of_getElem? (i := 482) (by decide +kernel), rfl⟩
theorem qFN_X6_136 : gW (.fieldLinkNest RX6 136 "FogBridge$Bridge" "direction" "I" "FogBridge") := ⟨List.mem_of_getElem? (i := 483) (by decide +kernel), rfl⟩
theorem qF_X0_9 : gW (.fieldLink RX0 9 "FogBridge$Bridge" "places" "I") := ⟨List.mem_of_getElem? (i := 484) (by decide +kernel), rfl⟩
theorem qFN_X6_122 : gW (.fieldLinkNest RX6 122 "FogBridge$Bridge" "places" "I" "FogBridge") := ⟨List.mem_of_getElem? (i := 485) (by decide +kernel), rfl⟩
theorem qF_X0_15 : gW (.fieldLink RX0 15 "FogBridge$Bridge" "bears" "I") := ⟨List.mem_of_getElem? (i := 486) (by decide +kernel), rfl⟩
theorem qFN_X6_119 : gW (.fieldLinkNest RX6 119 "FogBridge$Bridge" "bears" "I" "FogBridge") := ⟨List.mem_of_getElem? (i := 487) (by decide +kernel), rfl⟩
theorem qF_X0_18 : gW (.fieldLink RX0 18 "FogBridge$Bridge" "axleToll" "I") := ⟨List.mem_of_getElem? (i := 488) (by decide +kernel), rfl⟩
theorem qFN_X6_127 : gW (.fieldLinkNest RX6 127 "FogBridge$Bridge" "axleToll" "I" "FogBridge") := ⟨List.mem_of_getElem? (i := 489) (by decide +kernel), rfl⟩
theorem qF_X0_21 : gW (.fieldLink RX0 21 "FogBridge$Bridge" "tenToll" "I") := ⟨List.mem_of_getElem? (i := 490) (by decide +kernel), rfl⟩
theorem qFN_X6_130 : gW (.fieldLinkNest RX6 130 "FogBridge$Bridge" "tenToll" "I" "FogBridge") := ⟨List.mem_of_getElem? (i := 491) (by decide +kernel), rfl⟩
theorem qF_X0_50 : gW (.fieldLink RX0 50 "FogBridge$Bridge" "cartCount" "I") := ⟨List.mem_of_getElem? (i := 492) (by decide +kernel), rfl⟩
theorem qFN_X6_258 : gW (.fieldLinkNest RX6 258 "FogBridge$Bridge" "cartCount" "I" "FogBridge") := ⟨List.mem_of_getElem? (i := 493) (by decide +kernel), rfl⟩
theorem qF_X0_26 : gW (.fieldLink RX0 26 "FogBridge$Bridge" "carts" "[LFogBridge$Cart;") := ⟨List.mem_of_getElem? (i := 494) (by decide +kernel), rfl⟩
theorem qF_X0_33 : gW (.fieldLink RX0 33 "FogBridge$Bridge" "firstGate" "LFogBridge$Gate;") := ⟨List.mem_of_getElem? (i := 495) (by decide +kernel), rfl⟩
theorem qF_X0_37 : gW (.fieldLink RX0 37 "FogBridge$Bridge" "secondGate" "LFogBridge$Gate;") := ⟨List.mem_of_getElem? (i := 496) (by decide +kernel), rfl⟩
theorem qF_X0_43 : gW (.fieldLink RX0 43 "FogBridge$Bridge" "crossing" "LFogBridge$Row;") := ⟨List.mem_of_getElem? (i := 497) (by decide +kernel), rfl⟩
theorem qFN_X6_110 : gW (.fieldLinkNest RX6 110 "FogBridge$Bridge" "crossing" "LFogBridge$Row;" "FogBridge") := ⟨List.mem_of_getElem? (i := 498) (by decide +kernel), rfl⟩
theorem qF_X6_10 : gW (.fieldLink RX6 10 "FogBridge" "code" "LFogBridge$Code;") := ⟨List.mem_of_getElem? (i := 522) (by decide +kernel), rfl⟩
theorem qF_X6_16 : gW (.fieldLink RX6 16 "FogBridge" "fog" "[I") := ⟨List.mem_of_getElem? (i := 523) (by decide +kernel), rfl⟩
theorem qF_X6_23 : gW (.fieldLink RX6 23 "FogBridge" "bridge" "LFogBridge$Bridge;") := ⟨List.mem_of_getElem? (i := 524) (by decide +kernel), rfl⟩
theorem qF_X6_27 : gW (.fieldLink RX6 27 "FogBridge" "ahead" "LFogBridge$Bridge;") := ⟨List.mem_of_getElem? (i := 525) (by decide +kernel), rfl⟩
theorem qF_X6_30 : gW (.fieldLink RX6 30 "FogBridge" "branch" "LFogBridge$Bridge;") := ⟨List.mem_of_getElem? (i := 526) (by decide +kernel), rfl⟩
theorem qL_L_22 : gW (.methodLink RL 22 yX6_rebuild) := ⟨List.mem_of_getElem? (i := 538) (by decide +kernel), rfl⟩
theorem qI_yX6_rebuild : gW (.instanceMethod yX6_rebuild) := ⟨List.mem_of_getElem? (i := 539) (by decide +kernel), rfl⟩
theorem qS_yX6_rebuild : gW (.selects RX6 yX6_rebuild yX6_rebuild) := ⟨List.mem_of_getElem? (i := 540) (by decide +kernel), rfl⟩
theorem qC_yX6_rebuild : gW (.code yX6_rebuild cX6_rebuild 4 (some .int)) := ⟨List.mem_of_getElem? (i := 541) (by decide +kernel), rfl⟩
theorem qCL_X6_58 : gW (.classLink RX6 58 "java/lang/IllegalStateException") := ⟨List.mem_of_getElem? (i := 543) (by decide +kernel), rfl⟩
theorem qL_L_28 : gW (.methodLink RL 28 yX6_come) := ⟨List.mem_of_getElem? (i := 559) (by decide +kernel), rfl⟩
theorem qI_yX6_come : gW (.instanceMethod yX6_come) := ⟨List.mem_of_getElem? (i := 560) (by decide +kernel), rfl⟩
theorem qS_yX6_come : gW (.selects RX6 yX6_come yX6_come) := ⟨List.mem_of_getElem? (i := 561) (by decide +kernel), rfl⟩
theorem qC_yX6_come : gW (.code yX6_come cX6_come 8 (some .int)) := ⟨List.mem_of_getElem? (i := 562) (by decide +kernel), rfl⟩
theorem qL_X6_141 : gW (.methodLink RX6 141 yX0_newCart) := ⟨List.mem_of_getElem? (i := 564) (by decide +kernel), rfl⟩
theorem qI_yX0_newCart : gW (.instanceMethod yX0_newCart) := ⟨List.mem_of_getElem? (i := 565) (by decide +kernel), rfl⟩
theorem qS_yX0_newCart : gW (.selects RX0 yX0_newCart yX0_newCart) := ⟨List.mem_of_getElem? (i := 566) (by decide +kernel), rfl⟩
theorem qC_yX0_newCart : gW (.code yX0_newCart cX0_newCart 1 (some (.object "FogBridge$Cart"))) := ⟨List.mem_of_getElem? (i := 567) (by decide +kernel), rfl⟩
theorem qL_X6_180 : gW (.methodLink RX6 180 yX5_addLast) := ⟨List.mem_of_getElem? (i := 569) (by decide +kernel), rfl⟩
theorem qCll : gW (.methodLink RL 43 ⟨"[I", "clone", "()Ljava/lang/Object;"⟩) := ⟨List.mem_of_getElem? (i := 570) (by decide +kernel), rfl⟩
theorem qCls : gW (.sameMethod "[I" "java/lang/Object" "clone" "()Ljava/lang/Object;") := ⟨List.mem_of_getElem? (i := 571) (by decide +kernel), rfl⟩
theorem qCln : gW (.native ⟨"java/lang/Object", "clone", "()Ljava/lang/Object;"⟩) := ⟨List.mem_of_getElem? (i := 572) (by decide +kernel), rfl⟩
theorem qCli : gW (.instanceMethod ⟨"java/lang/Object", "clone", "()Ljava/lang/Object;"⟩) := ⟨List.mem_of_getElem? (i := 573) (by decide +kernel), rfl⟩
theorem qClx : gW (.selects "[I" ⟨"[I", "clone", "()Ljava/lang/Object;"⟩ ⟨"java/lang/Object", "clone", "()Ljava/lang/Object;"⟩) := ⟨List.mem_of_getElem? (i := 574) (by decide +kernel), rfl⟩
theorem qCL_L_44 : gW (.classLink RL 44 "[I") := ⟨List.mem_of_getElem? (i := 576) (by decide +kernel), rfl⟩
theorem qCm_min : gW (.code Lib.Math.min.name Lib.Math.min.code 2 (some .int)) := ⟨List.mem_of_getElem? (i := 199) (by decide +kernel), rfl⟩
theorem qTm_min : gW (.static Lib.Math.min.name) := ⟨List.mem_of_getElem? (i := 198) (by decide +kernel), rfl⟩
theorem qCm_max : gW (.code Lib.Math.max.name Lib.Math.max.code 2 (some .int)) := ⟨List.mem_of_getElem? (i := 210) (by decide +kernel), rfl⟩
theorem qTm_max : gW (.static Lib.Math.max.name) := ⟨List.mem_of_getElem? (i := 209) (by decide +kernel), rfl⟩
theorem qNm_math : gW (.initialized "java/lang/Math") := ⟨List.mem_of_getElem? (i := 23) (by decide +kernel), rfl⟩
