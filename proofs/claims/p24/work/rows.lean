section
-- ===== PART A: goes FIRST, ahead of the names: the tables' words, and 'selects' of the private methods out of them =====
/-- a private method of a class that the tables say can be made, by its rows of tables_1 -/
def lw_okq (q : MethodName × Nat) : Prop := (q.1.cls ≠ "java/lang/invoke/MethodHandle" ∧ q.1.cls ≠ "java/lang/invoke/VarHandle") ∧ Cond.instantiable q.1.cls q.2 ∈ tables_1 ∧ Cond.privateMethod q.1 ∈ tables_1 ∧ Cond.instanceMethod q.1 ∈ tables_1
theorem lw_p0 : lw_okq (⟨"java/lang/Throwable", "fillInStackTrace", "(I)Ljava/lang/Throwable;"⟩, 6) := ⟨⟨by decide +kernel, by decide +kernel⟩, List.mem_of_getElem? (i := 62) (by decide +kernel), List.mem_of_getElem? (i := 60) (by decide +kernel), List.mem_of_getElem? (i := 61) (by decide +kernel)⟩
theorem lw_p1 : lw_okq (⟨"FogBridge$Bridge", "placeOf", "(LFogBridge$Cart;)I"⟩, 11) := ⟨⟨by decide +kernel, by decide +kernel⟩, List.mem_of_getElem? (i := 134) (by decide +kernel), List.mem_of_getElem? (i := 132) (by decide +kernel), List.mem_of_getElem? (i := 133) (by decide +kernel)⟩
theorem lw_p2 : lw_okq (⟨"FogBridge$Bridge", "tollFor", "(II)I"⟩, 11) := ⟨⟨by decide +kernel, by decide +kernel⟩, List.mem_of_getElem? (i := 134) (by decide +kernel), List.mem_of_getElem? (i := 137) (by decide +kernel), List.mem_of_getElem? (i := 138) (by decide +kernel)⟩
theorem lw_p3 : lw_okq (⟨"FogBridge$Bridge", "move", "()I"⟩, 11) := ⟨⟨by decide +kernel, by decide +kernel⟩, List.mem_of_getElem? (i := 134) (by decide +kernel), List.mem_of_getElem? (i := 178) (by decide +kernel), List.mem_of_getElem? (i := 179) (by decide +kernel)⟩
theorem lw_p4 : lw_okq (⟨"FogBridge$Bridge", "goOn", "()I"⟩, 11) := ⟨⟨by decide +kernel, by decide +kernel⟩, List.mem_of_getElem? (i := 134) (by decide +kernel), List.mem_of_getElem? (i := 184) (by decide +kernel), List.mem_of_getElem? (i := 185) (by decide +kernel)⟩
theorem lw_p5 : lw_okq (⟨"FogBridge$Bridge", "goBack", "()V"⟩, 11) := ⟨⟨by decide +kernel, by decide +kernel⟩, List.mem_of_getElem? (i := 134) (by decide +kernel), List.mem_of_getElem? (i := 195) (by decide +kernel), List.mem_of_getElem? (i := 196) (by decide +kernel)⟩
theorem lw_p6 : lw_okq (⟨"FogBridge$Bridge", "comeOn", "()V"⟩, 11) := ⟨⟨by decide +kernel, by decide +kernel⟩, List.mem_of_getElem? (i := 134) (by decide +kernel), List.mem_of_getElem? (i := 211) (by decide +kernel), List.mem_of_getElem? (i := 212) (by decide +kernel)⟩
theorem lw_p7 : lw_okq (⟨"FogBridge$Bridge", "hasRoomFor", "(LFogBridge$Cart;)Z"⟩, 11) := ⟨⟨by decide +kernel, by decide +kernel⟩, List.mem_of_getElem? (i := 134) (by decide +kernel), List.mem_of_getElem? (i := 215) (by decide +kernel), List.mem_of_getElem? (i := 216) (by decide +kernel)⟩
theorem lw_p8 : lw_okq (⟨"FogBridge$Bridge", "pays", "(LFogBridge$Cart;LFogBridge$Gate;)Z"⟩, 11) := ⟨⟨by decide +kernel, by decide +kernel⟩, List.mem_of_getElem? (i := 134) (by decide +kernel), List.mem_of_getElem? (i := 228) (by decide +kernel), List.mem_of_getElem? (i := 229) (by decide +kernel)⟩
theorem lw_p9 : lw_okq (⟨"FogBridge", "countOf", "(I)I"⟩, 5) := ⟨⟨by decide +kernel, by decide +kernel⟩, List.mem_of_getElem? (i := 247) (by decide +kernel), List.mem_of_getElem? (i := 245) (by decide +kernel), List.mem_of_getElem? (i := 246) (by decide +kernel)⟩
def lw_privs_1 : List (MethodName × Nat) := [(⟨"java/lang/Throwable", "fillInStackTrace", "(I)Ljava/lang/Throwable;"⟩, 6), (⟨"FogBridge$Bridge", "placeOf", "(LFogBridge$Cart;)I"⟩, 11), (⟨"FogBridge$Bridge", "tollFor", "(II)I"⟩, 11), (⟨"FogBridge$Bridge", "move", "()I"⟩, 11), (⟨"FogBridge$Bridge", "goOn", "()I"⟩, 11), (⟨"FogBridge$Bridge", "goBack", "()V"⟩, 11), (⟨"FogBridge$Bridge", "comeOn", "()V"⟩, 11), (⟨"FogBridge$Bridge", "hasRoomFor", "(LFogBridge$Cart;)Z"⟩, 11), (⟨"FogBridge$Bridge", "pays", "(LFogBridge$Cart;LFogBridge$Gate;)Z"⟩, 11), (⟨"FogBridge", "countOf", "(I)I"⟩, 5)]
theorem lw_r1 : ∀ q ∈ lw_privs_1, lw_okq q := List.forall_mem_cons.mpr ⟨lw_p0, List.forall_mem_cons.mpr ⟨lw_p1, List.forall_mem_cons.mpr ⟨lw_p2, List.forall_mem_cons.mpr ⟨lw_p3, List.forall_mem_cons.mpr ⟨lw_p4, List.forall_mem_cons.mpr ⟨lw_p5, List.forall_mem_cons.mpr ⟨lw_p6, List.forall_mem_cons.mpr ⟨lw_p7, List.forall_mem_cons.mpr ⟨lw_p8, List.forall_mem_cons.mpr ⟨lw_p9, fun _ h => absurd h List.not_mem_nil⟩⟩⟩⟩⟩⟩⟩⟩⟩⟩
def lw_privs : List (MethodName × Nat) := lw_privs_1
def lw_tbl : List Cond := k2_sels lw_privs ++ tables_1
theorem lw_privs_ok : ∀ q ∈ lw_privs, lw_okq q := lw_r1
-- ===== end of PART A =====
end
section
def RX0 : String := "FogBridge$Bridge"
def TX0 : u_T := fun k => match k with
  | 0 => ("FogBridge$Bridge", "tick", "I", false)
  | 1 => ("FogBridge$Bridge", "direction", "I", false)
  | 2 => ("FogBridge$Bridge", "places", "I", false)
  | 3 => ("FogBridge$Bridge", "bears", "I", false)
  | 4 => ("FogBridge$Bridge", "axleToll", "I", false)
  | 5 => ("FogBridge$Bridge", "tenToll", "I", false)
  | 6 => ("FogBridge$Bridge", "cartCount", "I", false)
  | 7 => ("FogBridge$Bridge", "carts", "[LFogBridge$Cart;", true)
  | 8 => ("FogBridge$Bridge", "firstGate", "LFogBridge$Gate;", true)
  | 9 => ("FogBridge$Bridge", "secondGate", "LFogBridge$Gate;", true)
  | _ => ("FogBridge$Bridge", "crossing", "LFogBridge$Row;", true)
def tyX0 : Nat → FieldType := fun k => match k with
  | 0 => .int
  | 1 => .int
  | 2 => .int
  | 3 => .int
  | 4 => .int
  | 5 => .int
  | 6 => .int
  | 7 => .array (.object "FogBridge$Cart")
  | 8 => .object "FogBridge$Gate"
  | 9 => .object "FogBridge$Gate"
  | _ => .object "FogBridge$Row"
abbrev wsX00 : List Cond := u_ws RX0 TX0 11
theorem nmX0 : ∀ a, a < 11 → ∀ b, b < 11 → a ≠ b → (TX0 a).2.1 ≠ (TX0 b).2.1 := by decide +kernel
theorem tyX0_ok : ∀ k, k < 11 → parseFieldDescriptor (TX0 k).2.2.1 = some (tyX0 k) := by decide +kernel
abbrev cX0_init : ByteArray := prog_2_method_1_code
def yX0_init : MethodName := ⟨RX0, "<init>", "()V"⟩
abbrev cX0_gateAt : ByteArray := prog_2_method_2_code
def yX0_gateAt : MethodName := ⟨RX0, "gateAt", "(I)LFogBridge$Gate;"⟩
abbrev cX0_cartAt : ByteArray := prog_2_method_3_code
def yX0_cartAt : MethodName := ⟨RX0, "cartAt", "(I)LFogBridge$Cart;"⟩
abbrev cX0_newCart : ByteArray := prog_2_method_4_code
def yX0_newCart : MethodName := ⟨RX0, "newCart", "()LFogBridge$Cart;"⟩
abbrev cX0_turn : ByteArray := prog_2_method_5_code
def yX0_turn : MethodName := ⟨RX0, "turn", "()V"⟩
abbrev cX0_run : ByteArray := prog_2_method_6_code
def yX0_run : MethodName := ⟨RX0, "run", "(I)I"⟩
abbrev cX0_isOver : ByteArray := prog_2_method_7_code
def yX0_isOver : MethodName := ⟨RX0, "isOver", "(I)Z"⟩
abbrev cX0_coinsInBoxes : ByteArray := prog_2_method_8_code
def yX0_coinsInBoxes : MethodName := ⟨RX0, "coinsInBoxes", "()I"⟩
abbrev cX0_cartsIn : ByteArray := prog_2_method_9_code
def yX0_cartsIn : MethodName := ⟨RX0, "cartsIn", "(I)I"⟩
abbrev cX0_weightOnBridge : ByteArray := prog_2_method_10_code
def yX0_weightOnBridge : MethodName := ⟨RX0, "weightOnBridge", "()I"⟩
abbrev cX0_tellCart : ByteArray := prog_2_method_12_code
def yX0_tellCart : MethodName := ⟨RX0, "tellCart", "(LFogBridge$Cart;I)I"⟩
abbrev cX0_mixedInto : ByteArray := prog_2_method_13_code
def yX0_mixedInto : MethodName := ⟨RX0, "mixedInto", "(J)J"⟩
abbrev cX0_copyFrom : ByteArray := prog_2_method_14_code
def yX0_copyFrom : MethodName := ⟨RX0, "copyFrom", "(LFogBridge$Bridge;)V"⟩
abbrev cX0_placeOf : ByteArray := prog_2_method_15_code
def yX0_placeOf : MethodName := ⟨RX0, "placeOf", "(LFogBridge$Cart;)I"⟩
abbrev cX0_tollFor : ByteArray := prog_2_method_16_code
def yX0_tollFor : MethodName := ⟨RX0, "tollFor", "(II)I"⟩
abbrev cX0_move : ByteArray := prog_2_method_17_code
def yX0_move : MethodName := ⟨RX0, "move", "()I"⟩
abbrev cX0_goOn : ByteArray := prog_2_method_18_code
def yX0_goOn : MethodName := ⟨RX0, "goOn", "()I"⟩
abbrev cX0_goBack : ByteArray := prog_2_method_19_code
def yX0_goBack : MethodName := ⟨RX0, "goBack", "()V"⟩
abbrev cX0_comeOn : ByteArray := prog_2_method_20_code
def yX0_comeOn : MethodName := ⟨RX0, "comeOn", "()V"⟩
abbrev cX0_hasRoomFor : ByteArray := prog_2_method_21_code
def yX0_hasRoomFor : MethodName := ⟨RX0, "hasRoomFor", "(LFogBridge$Cart;)Z"⟩
abbrev cX0_pays : ByteArray := prog_2_method_22_code
def yX0_pays : MethodName := ⟨RX0, "pays", "(LFogBridge$Cart;LFogBridge$Gate;)Z"⟩
def RX1 : String := "FogBridge$Cart"
def TX1 : u_T := fun k => match k with
  | 0 => ("FogBridge$Cart", "number", "I", true)
  | 1 => ("FogBridge$Cart", "end", "I", false)
  | 2 => ("FogBridge$Cart", "axles", "I", false)
  | 3 => ("FogBridge$Cart", "weight", "I", false)
  | 4 => ("FogBridge$Cart", "pace", "I", false)
  | 5 => ("FogBridge$Cart", "coins", "I", false)
  | 6 => ("FogBridge$Cart", "isCheat", "Z", false)
  | 7 => ("FogBridge$Cart", "hasPaid", "Z", false)
  | 8 => ("FogBridge$Cart", "state", "I", false)
  | 9 => ("FogBridge$Cart", "way", "I", false)
  | _ => ("FogBridge$Cart", "overTick", "I", false)
def tyX1 : Nat → FieldType := fun k => match k with
  | 0 => .int
  | 1 => .int
  | 2 => .int
  | 3 => .int
  | 4 => .int
  | 5 => .int
  | 6 => .boolean
  | 7 => .boolean
  | 8 => .int
  | 9 => .int
  | _ => .int
abbrev wsX10 : List Cond := u_ws RX1 TX1 11
theorem nmX1 : ∀ a, a < 11 → ∀ b, b < 11 → a ≠ b → (TX1 a).2.1 ≠ (TX1 b).2.1 := by decide +kernel
theorem tyX1_ok : ∀ k, k < 11 → parseFieldDescriptor (TX1 k).2.2.1 = some (tyX1 k) := by decide +kernel
abbrev cX1_init : ByteArray := prog_3_method_1_code
def yX1_init : MethodName := ⟨RX1, "<init>", "(I)V"⟩
abbrev cX1_copyFrom : ByteArray := prog_3_method_2_code
def yX1_copyFrom : MethodName := ⟨RX1, "copyFrom", "(LFogBridge$Cart;)V"⟩
def RX2 : String := "FogBridge$Code"
def TX2 : u_T := fun k => match k with
  | 0 => ("FogBridge$Code", "signals", "[I", true)
  | 1 => ("FogBridge$Code", "rowsOfLength", "[I", true)
  | _ => ("FogBridge$Code", "size", "I", false)
def tyX2 : Nat → FieldType := fun k => match k with
  | 0 => .array .int
  | 1 => .array .int
  | _ => .int
abbrev wsX20 : List Cond := u_ws RX2 TX2 3
theorem nmX2 : ∀ a, a < 3 → ∀ b, b < 3 → a ≠ b → (TX2 a).2.1 ≠ (TX2 b).2.1 := by decide +kernel
theorem tyX2_ok : ∀ k, k < 3 → parseFieldDescriptor (TX2 k).2.2.1 = some (tyX2 k) := by decide +kernel
abbrev cX2_init : ByteArray := prog_4_method_1_code
def yX2_init : MethodName := ⟨RX2, "<init>", "()V"⟩
abbrev cX2_ringsOf : ByteArray := prog_4_method_5_code
def yX2_ringsOf : MethodName := ⟨RX2, "ringsOf", "(I)I"⟩
abbrev cX2_mixedInto : ByteArray := prog_4_method_9_code
def yX2_mixedInto : MethodName := ⟨RX2, "mixedInto", "(J)J"⟩
def RX3 : String := "FogBridge$Gate"
def TX3 : u_T := fun k => match k with
  | 0 => ("FogBridge$Gate", "waiting", "LFogBridge$Row;", true)
  | 1 => ("FogBridge$Gate", "coins", "I", false)
  | 2 => ("FogBridge$Gate", "payers", "I", false)
  | 3 => ("FogBridge$Gate", "axles", "I", false)
  | _ => ("FogBridge$Gate", "keptByCheats", "I", false)
def tyX3 : Nat → FieldType := fun k => match k with
  | 0 => .object "FogBridge$Row"
  | 1 => .int
  | 2 => .int
  | 3 => .int
  | _ => .int
abbrev wsX30 : List Cond := u_ws RX3 TX3 5
theorem nmX3 : ∀ a, a < 5 → ∀ b, b < 5 → a ≠ b → (TX3 a).2.1 ≠ (TX3 b).2.1 := by decide +kernel
theorem tyX3_ok : ∀ k, k < 5 → parseFieldDescriptor (TX3 k).2.2.1 = some (tyX3 k) := by decide +kernel
abbrev cX3_init : ByteArray := prog_5_method_1_code
def yX3_init : MethodName := ⟨RX3, "<init>", "()V"⟩
abbrev cX3_take : ByteArray := prog_5_method_2_code
def yX3_take : MethodName := ⟨RX3, "take", "(LFogBridge$Cart;II)V"⟩
abbrev cX3_tell : ByteArray := prog_5_method_3_code
def yX3_tell : MethodName := ⟨RX3, "tell", "(I)I"⟩
abbrev cX3_mixedInto : ByteArray := prog_5_method_4_code
def yX3_mixedInto : MethodName := ⟨RX3, "mixedInto", "(J)J"⟩
abbrev cX3_copyFrom : ByteArray := prog_5_method_5_code
def yX3_copyFrom : MethodName := ⟨RX3, "copyFrom", "(LFogBridge$Gate;)V"⟩
def RX4 : String := "FogBridge$Rings"
def TX4 : u_T := fun k => match k with
  | _ => ("", "", "", false)
def tyX4 : Nat → FieldType := fun k => match k with
  | _ => .int
abbrev wsX40 : List Cond := u_ws RX4 TX4 0
theorem nmX4 : ∀ a, a < 0 → ∀ b, b < 0 → a ≠ b → (TX4 a).2.1 ≠ (TX4 b).2.1 := by decide +kernel
theorem tyX4_ok : ∀ k, k < 0 → parseFieldDescriptor (TX4 k).2.2.1 = some (tyX4 k) := by decide +kernel
def RX5 : String := "FogBridge$Row"
def TX5 : u_T := fun k => match k with
  | 0 => ("FogBridge$Row", "carts", "[I", true)
  | _ => ("FogBridge$Row", "size", "I", false)
def tyX5 : Nat → FieldType := fun k => match k with
  | 0 => .array .int
  | _ => .int
abbrev wsX50 : List Cond := u_ws RX5 TX5 2
theorem nmX5 : ∀ a, a < 2 → ∀ b, b < 2 → a ≠ b → (TX5 a).2.1 ≠ (TX5 b).2.1 := by decide +kernel
theorem tyX5_ok : ∀ k, k < 2 → parseFieldDescriptor (TX5 k).2.2.1 = some (tyX5 k) := by decide +kernel
abbrev cX5_init : ByteArray := prog_7_method_1_code
def yX5_init : MethodName := ⟨RX5, "<init>", "()V"⟩
abbrev cX5_at : ByteArray := prog_7_method_2_code
def yX5_at : MethodName := ⟨RX5, "at", "(I)I"⟩
abbrev cX5_last : ByteArray := prog_7_method_3_code
def yX5_last : MethodName := ⟨RX5, "last", "()I"⟩
abbrev cX5_addLast : ByteArray := prog_7_method_4_code
def yX5_addLast : MethodName := ⟨RX5, "addLast", "(I)V"⟩
abbrev cX5_addFirst : ByteArray := prog_7_method_5_code
def yX5_addFirst : MethodName := ⟨RX5, "addFirst", "(I)V"⟩
abbrev cX5_removeFirst : ByteArray := prog_7_method_6_code
def yX5_removeFirst : MethodName := ⟨RX5, "removeFirst", "()V"⟩
abbrev cX5_removeLast : ByteArray := prog_7_method_7_code
def yX5_removeLast : MethodName := ⟨RX5, "removeLast", "()V"⟩
abbrev cX5_copyFrom : ByteArray := prog_7_method_8_code
def yX5_copyFrom : MethodName := ⟨RX5, "copyFrom", "(LFogBridge$Row;)V"⟩
def RX6 : String := "FogBridge"
def TX6 : u_T := fun k => match k with
  | 0 => ("FogBridge", "code", "LFogBridge$Code;", true)
  | 1 => ("FogBridge", "fog", "[I", true)
  | 2 => ("FogBridge", "bridge", "LFogBridge$Bridge;", true)
  | 3 => ("FogBridge", "ahead", "LFogBridge$Bridge;", true)
  | _ => ("FogBridge", "branch", "LFogBridge$Bridge;", true)
def tyX6 : Nat → FieldType := fun k => match k with
  | 0 => .object "FogBridge$Code"
  | 1 => .array .int
  | 2 => .object "FogBridge$Bridge"
  | 3 => .object "FogBridge$Bridge"
  | _ => .object "FogBridge$Bridge"
abbrev wsX60 : List Cond := u_ws RX6 TX6 5
theorem nmX6 : ∀ a, a < 5 → ∀ b, b < 5 → a ≠ b → (TX6 a).2.1 ≠ (TX6 b).2.1 := by decide +kernel
theorem tyX6_ok : ∀ k, k < 5 → parseFieldDescriptor (TX6 k).2.2.1 = some (tyX6 k) := by decide +kernel
abbrev cX6_init : ByteArray := prog_1_method_1_code
def yX6_init : MethodName := ⟨RX6, "<init>", "()V"⟩
abbrev cX6_rebuild : ByteArray := prog_1_method_8_code
def yX6_rebuild : MethodName := ⟨RX6, "rebuild", "(II)I"⟩
abbrev cX6_setToll : ByteArray := prog_1_method_9_code
def yX6_setToll : MethodName := ⟨RX6, "setToll", "(II)I"⟩
abbrev cX6_change : ByteArray := prog_1_method_10_code
def yX6_change : MethodName := ⟨RX6, "change", "()I"⟩
abbrev cX6_come : ByteArray := prog_1_method_11_code
def yX6_come : MethodName := ⟨RX6, "come", "(IIIIIZ)I"⟩
abbrev cX6_cart : ByteArray := prog_1_method_12_code
def yX6_cart : MethodName := ⟨RX6, "cart", "(II)I"⟩
abbrev cX6_queue : ByteArray := prog_1_method_13_code
def yX6_queue : MethodName := ⟨RX6, "queue", "(II)I"⟩
abbrev cX6_box : ByteArray := prog_1_method_14_code
def yX6_box : MethodName := ⟨RX6, "box", "(II)I"⟩
abbrev cX6_empty : ByteArray := prog_1_method_15_code
def yX6_empty : MethodName := ⟨RX6, "empty", "(I)I"⟩
abbrev cX6_pass : ByteArray := prog_1_method_16_code
def yX6_pass : MethodName := ⟨RX6, "pass", "(I)I"⟩
abbrev cX6_count : ByteArray := prog_1_method_17_code
def yX6_count : MethodName := ⟨RX6, "count", "(I)I"⟩
abbrev cX6_over : ByteArray := prog_1_method_18_code
def yX6_over : MethodName := ⟨RX6, "over", "(I)I"⟩
abbrev cX6_keep : ByteArray := prog_1_method_19_code
def yX6_keep : MethodName := ⟨RX6, "keep", "()I"⟩
abbrev cX6_foresee : ByteArray := prog_1_method_20_code
def yX6_foresee : MethodName := ⟨RX6, "foresee", "(II)I"⟩
abbrev cX6_digest : ByteArray := prog_1_method_22_code
def yX6_digest : MethodName := ⟨RX6, "digest", "()J"⟩
abbrev cX6_isBetween : ByteArray := prog_1_method_23_code
def yX6_isBetween : MethodName := ⟨RX6, "isBetween", "(III)Z"⟩
abbrev cX6_isIndex : ByteArray := prog_1_method_24_code
def yX6_isIndex : MethodName := ⟨RX6, "isIndex", "(II)Z"⟩
abbrev cX6_mixed : ByteArray := prog_1_method_25_code
def yX6_mixed : MethodName := ⟨RX6, "mixed", "(JI)J"⟩
abbrev cX6_countOf : ByteArray := prog_1_method_28_code
def yX6_countOf : MethodName := ⟨RX6, "countOf", "(I)I"⟩
def RX7 : String := "FogBridgeModel$State"
def TX7 : u_T := fun k => match k with
  | _ => ("", "", "", false)
def tyX7 : Nat → FieldType := fun k => match k with
  | _ => .int
abbrev wsX70 : List Cond := u_ws RX7 TX7 0
theorem nmX7 : ∀ a, a < 0 → ∀ b, b < 0 → a ≠ b → (TX7 a).2.1 ≠ (TX7 b).2.1 := by decide +kernel
theorem tyX7_ok : ∀ k, k < 0 → parseFieldDescriptor (TX7 k).2.2.1 = some (tyX7 k) := by decide +kernel
def RX8 : String := "FogBridgeModel"
def TX8 : u_T := fun k => match k with
  | _ => ("", "", "", false)
def tyX8 : Nat → FieldType := fun k => match k with
  | _ => .int
abbrev wsX80 : List Cond := u_ws RX8 TX8 0
theorem nmX8 : ∀ a, a < 0 → ∀ b, b < 0 → a ≠ b → (TX8 a).2.1 ≠ (TX8 b).2.1 := by decide +kernel
theorem tyX8_ok : ∀ k, k < 0 → parseFieldDescriptor (TX8 k).2.2.1 = some (tyX8 k) := by decide +kernel
def RJx8e188 : String := "java/lang/Cloneable"
def TJx8e188 : u_T := fun k => match k with
  | _ => ("", "", "", false)
def tyJx8e188 : Nat → FieldType := fun k => match k with
  | _ => .int
theorem nmJx8e188 : ∀ a, a < 0 → ∀ b, b < 0 → a ≠ b → (TJx8e188 a).2.1 ≠ (TJx8e188 b).2.1 := by decide +kernel
theorem tyJx8e188_ok : ∀ k, k < 0 → parseFieldDescriptor (TJx8e188 k).2.2.1 = some (tyJx8e188 k) := by decide +kernel
def RJ9 : String := "java/lang/Math"
def TJ9 : u_T := fun k => match k with
  | _ => ("", "", "", false)
def tyJ9 : Nat → FieldType := fun k => match k with
  | _ => .int
theorem nmJ9 : ∀ a, a < 0 → ∀ b, b < 0 → a ≠ b → (TJ9 a).2.1 ≠ (TJ9 b).2.1 := by decide +kernel
theorem tyJ9_ok : ∀ k, k < 0 → parseFieldDescriptor (TJ9 k).2.2.1 = some (tyJ9 k) := by decide +kernel
abbrev cJ9_max_7cf53 : ByteArray := prog_16_method_65_code
def yJ9_max_7cf53 : MethodName := ⟨RJ9, "max", "(II)I"⟩
abbrev cJ9_min_7cf53 : ByteArray := prog_16_method_69_code
def yJ9_min_7cf53 : MethodName := ⟨RJ9, "min", "(II)I"⟩
def RJ0 : String := "java/lang/String"
def TJ0 : u_T := fun k => match k with
  | _ => ("", "", "", false)
def tyJ0 : Nat → FieldType := fun k => match k with
  | _ => .int
theorem nmJ0 : ∀ a, a < 0 → ∀ b, b < 0 → a ≠ b → (TJ0 a).2.1 ≠ (TJ0 b).2.1 := by decide +kernel
theorem tyJ0_ok : ∀ k, k < 0 → parseFieldDescriptor (TJ0 k).2.2.1 = some (tyJ0 k) := by decide +kernel
def RL : String := "FogBridgeLaw"
abbrev cL_below : ByteArray := method_2_code
def yL_below : MethodName := ⟨RL, "below", "(II)I"⟩
abbrev cL_cell : ByteArray := method_3_code
def yL_cell : MethodName := ⟨RL, "cell", "([II)I"⟩
abbrev cL_bridge : ByteArray := method_4_code
def yL_bridge : MethodName := ⟨RL, "bridge", "([I)LFogBridge;"⟩
abbrev cL_law : ByteArray := code
def yL_law : MethodName := ⟨RL, "law", "([I)Z"⟩
abbrev vwCl : List vw_C := [(RX0, TX0, 11), (RX1, TX1, 11), (RX2, TX2, 3), (RX3, TX3, 5), (RX5, TX5, 2), (RX6, TX6, 5)]
/-! names: classes, fields, methods; the words of the tables by their places -/
/-- a word that stays as the machine warms up -/
def gok (w : Cond) : Bool := goodWord w || (match w with
  | .fieldLinkNest _ _ _ _ _ _ => true
  | .methodLinkNest _ _ _ _ => true
  | _ => false)
def gW (w : Cond) : Prop := w ∈ lw_tbl ∧ gok w = true
theorem gU_X0 : ∀ w ∈ wsX00, gW w := by
  have h : (wsX00.all fun w => decide (w ∈ lw_tbl) && gok w) = true := by decide +kernel
  intro w hw
  have := List.all_eq_true.mp h w hw
  simp only [Bool.and_eq_true, decide_eq_true_eq] at this
  exact this
theorem gU_X1 : ∀ w ∈ wsX10, gW w := by
  have h : (wsX10.all fun w => decide (w ∈ lw_tbl) && gok w) = true := by decide +kernel
  intro w hw
  have := List.all_eq_true.mp h w hw
  simp only [Bool.and_eq_true, decide_eq_true_eq] at this
  exact this
theorem gU_X2 : ∀ w ∈ wsX20, gW w := by
  have h : (wsX20.all fun w => decide (w ∈ lw_tbl) && gok w) = true := by decide +kernel
  intro w hw
  have := List.all_eq_true.mp h w hw
  simp only [Bool.and_eq_true, decide_eq_true_eq] at this
  exact this
theorem gU_X3 : ∀ w ∈ wsX30, gW w := by
  have h : (wsX30.all fun w => decide (w ∈ lw_tbl) && gok w) = true := by decide +kernel
  intro w hw
  have := List.all_eq_true.mp h w hw
  simp only [Bool.and_eq_true, decide_eq_true_eq] at this
  exact this
theorem gU_X5 : ∀ w ∈ wsX50, gW w := by
  have h : (wsX50.all fun w => decide (w ∈ lw_tbl) && gok w) = true := by decide +kernel
  intro w hw
  have := List.all_eq_true.mp h w hw
  simp only [Bool.and_eq_true, decide_eq_true_eq] at this
  exact this
theorem gU_X6 : ∀ w ∈ wsX60, gW w := by
  have h : (wsX60.all fun w => decide (w ∈ lw_tbl) && gok w) = true := by decide +kernel
  intro w hw
  have := List.all_eq_true.mp h w hw
  simp only [Bool.and_eq_true, decide_eq_true_eq] at this
  exact this
theorem qS_yX0_placeOf : gW (.selects RX0 yX0_placeOf yX0_placeOf) := ⟨List.mem_of_getElem? (i := 1) (by decide +kernel), rfl⟩
theorem qS_yX0_tollFor : gW (.selects RX0 yX0_tollFor yX0_tollFor) := ⟨List.mem_of_getElem? (i := 2) (by decide +kernel), rfl⟩
theorem qS_yX0_move : gW (.selects RX0 yX0_move yX0_move) := ⟨List.mem_of_getElem? (i := 3) (by decide +kernel), rfl⟩
theorem qS_yX0_goOn : gW (.selects RX0 yX0_goOn yX0_goOn) := ⟨List.mem_of_getElem? (i := 4) (by decide +kernel), rfl⟩
theorem qS_yX0_goBack : gW (.selects RX0 yX0_goBack yX0_goBack) := ⟨List.mem_of_getElem? (i := 5) (by decide +kernel), rfl⟩
theorem qS_yX0_comeOn : gW (.selects RX0 yX0_comeOn yX0_comeOn) := ⟨List.mem_of_getElem? (i := 6) (by decide +kernel), rfl⟩
theorem qS_yX0_hasRoomFor : gW (.selects RX0 yX0_hasRoomFor yX0_hasRoomFor) := ⟨List.mem_of_getElem? (i := 7) (by decide +kernel), rfl⟩
theorem qS_yX0_pays : gW (.selects RX0 yX0_pays yX0_pays) := ⟨List.mem_of_getElem? (i := 8) (by decide +kernel), rfl⟩
theorem qS_yX6_countOf : gW (.selects RX6 yX6_countOf yX6_countOf) := ⟨List.mem_of_getElem? (i := 9) (by decide +kernel), rfl⟩
theorem qN_L : gW (.initialized RL) := ⟨List.mem_of_getElem? (i := 10) (by decide +kernel), rfl⟩
theorem qN_X6 : gW (.initialized RX6) := ⟨List.mem_of_getElem? (i := 11) (by decide +kernel), rfl⟩
theorem qN_X2 : gW (.initialized RX2) := ⟨List.mem_of_getElem? (i := 12) (by decide +kernel), rfl⟩
theorem qN_X0 : gW (.initialized RX0) := ⟨List.mem_of_getElem? (i := 13) (by decide +kernel), rfl⟩
theorem qN_X3 : gW (.initialized RX3) := ⟨List.mem_of_getElem? (i := 14) (by decide +kernel), rfl⟩
theorem qN_X5 : gW (.initialized RX5) := ⟨List.mem_of_getElem? (i := 15) (by decide +kernel), rfl⟩
theorem qN_X1 : gW (.initialized RX1) := ⟨List.mem_of_getElem? (i := 16) (by decide +kernel), rfl⟩
theorem qN_J9 : gW (.initialized RJ9) := ⟨List.mem_of_getElem? (i := 23) (by decide +kernel), rfl⟩
theorem qL_L_25 : gW (.methodLink RL 25 yX6_setToll) := ⟨List.mem_of_getElem? (i := 24) (by decide +kernel), rfl⟩
theorem qI_yX6_setToll : gW (.instanceMethod yX6_setToll) := ⟨List.mem_of_getElem? (i := 25) (by decide +kernel), rfl⟩
theorem qS_yX6_setToll : gW (.selects RX6 yX6_setToll yX6_setToll) := ⟨List.mem_of_getElem? (i := 26) (by decide +kernel), rfl⟩
theorem qC_yX6_setToll : gW (.code yX6_setToll cX6_setToll 4 (some .int)) := ⟨List.mem_of_getElem? (i := 27) (by decide +kernel), rfl⟩
theorem qL_X6_39 : gW (.methodLink RX6 39 yX6_isBetween) := ⟨List.mem_of_getElem? (i := 28) (by decide +kernel), rfl⟩
theorem qT_yX6_isBetween : gW (.static yX6_isBetween) := ⟨List.mem_of_getElem? (i := 29) (by decide +kernel), rfl⟩
theorem qC_yX6_isBetween : gW (.code yX6_isBetween cX6_isBetween 3 (some .boolean)) := ⟨List.mem_of_getElem? (i := 30) (by decide +kernel), rfl⟩
theorem qCL_X6_43 : gW (.classLink RX6 43 "java/lang/IllegalArgumentException") := ⟨List.mem_of_getElem? (i := 31) (by decide +kernel), rfl⟩
theorem qI_objectInit : gW (.instanceMethod objectInit) := ⟨List.mem_of_getElem? (i := 57) (by decide +kernel), rfl⟩
theorem qC_objectInit : gW (.code objectInit ⟨#[0xb1]⟩ 1 none) := ⟨List.mem_of_getElem? (i := 58) (by decide +kernel), rfl⟩
theorem qL_L_49 : gW (.methodLink RL 49 yX6_change) := ⟨List.mem_of_getElem? (i := 101) (by decide +kernel), rfl⟩
theorem qI_yX6_change : gW (.instanceMethod yX6_change) := ⟨List.mem_of_getElem? (i := 102) (by decide +kernel), rfl⟩
theorem qS_yX6_change : gW (.selects RX6 yX6_change yX6_change) := ⟨List.mem_of_getElem? (i := 103) (by decide +kernel), rfl⟩
theorem qC_yX6_change : gW (.code yX6_change cX6_change 1 (some .int)) := ⟨List.mem_of_getElem? (i := 104) (by decide +kernel), rfl⟩
theorem qL_X6_133 : gW (.methodLink RX6 133 yX0_turn) := ⟨List.mem_of_getElem? (i := 105) (by decide +kernel), rfl⟩
theorem qI_yX0_turn : gW (.instanceMethod yX0_turn) := ⟨List.mem_of_getElem? (i := 106) (by decide +kernel), rfl⟩
theorem qS_yX0_turn : gW (.selects RX0 yX0_turn yX0_turn) := ⟨List.mem_of_getElem? (i := 107) (by decide +kernel), rfl⟩
theorem qC_yX0_turn : gW (.code yX0_turn cX0_turn 1 none) := ⟨List.mem_of_getElem? (i := 108) (by decide +kernel), rfl⟩
theorem qL_L_40 : gW (.methodLink RL 40 yX6_cart) := ⟨List.mem_of_getElem? (i := 109) (by decide +kernel), rfl⟩
theorem qI_yX6_cart : gW (.instanceMethod yX6_cart) := ⟨List.mem_of_getElem? (i := 110) (by decide +kernel), rfl⟩
theorem qS_yX6_cart : gW (.selects RX6 yX6_cart yX6_cart) := ⟨List.mem_of_getElem? (i := 111) (by decide +kernel), rfl⟩
theorem qC_yX6_cart : gW (.code yX6_cart cX6_cart 4 (some .int)) := ⟨List.mem_of_getElem? (i := 112) (by decide +kernel), rfl⟩
theorem qL_X6_184 : gW (.methodLink RX6 184 yX0_cartAt) := ⟨List.mem_of_getElem? (i := 113) (by decide +kernel), rfl⟩
theorem qI_yX0_cartAt : gW (.instanceMethod yX0_cartAt) := ⟨List.mem_of_getElem? (i := 114) (by decide +kernel), rfl⟩
theorem qS_yX0_cartAt : gW (.selects RX0 yX0_cartAt yX0_cartAt) := ⟨List.mem_of_getElem? (i := 115) (by decide +kernel), rfl⟩
theorem qC_yX0_cartAt : gW (.code yX0_cartAt cX0_cartAt 2 (some (.object "FogBridge$Cart"))) := ⟨List.mem_of_getElem? (i := 116) (by decide +kernel), rfl⟩
theorem qMN_X0_53 : gW (.methodLinkNest RX0 53 yX6_isIndex "FogBridge") := ⟨List.mem_of_getElem? (i := 117) (by decide +kernel), rfl⟩
theorem qT_yX6_isIndex : gW (.static yX6_isIndex) := ⟨List.mem_of_getElem? (i := 118) (by decide +kernel), rfl⟩
theorem qC_yX6_isIndex : gW (.code yX6_isIndex cX6_isIndex 2 (some .boolean)) := ⟨List.mem_of_getElem? (i := 119) (by decide +kernel), rfl⟩
theorem qL_X6_68 : gW (.methodLink RX6 68 yX6_isIndex) := ⟨List.mem_of_getElem? (i := 120) (by decide +kernel), rfl⟩
theorem qCL_X6_72 : gW (.classLink RX6 72 "java/lang/IndexOutOfBoundsException") := ⟨List.mem_of_getElem? (i := 121) (by decide +kernel), rfl⟩
theorem qL_X6_190 : gW (.methodLink RX6 190 yX0_tellCart) := ⟨List.mem_of_getElem? (i := 137) (by decide +kernel), rfl⟩
theorem qI_yX0_tellCart : gW (.instanceMethod yX0_tellCart) := ⟨List.mem_of_getElem? (i := 138) (by decide +kernel), rfl⟩
theorem qS_yX0_tellCart : gW (.selects RX0 yX0_tellCart yX0_tellCart) := ⟨List.mem_of_getElem? (i := 139) (by decide +kernel), rfl⟩
theorem qC_yX0_tellCart : gW (.code yX0_tellCart cX0_tellCart 3 (some .int)) := ⟨List.mem_of_getElem? (i := 140) (by decide +kernel), rfl⟩
theorem qL_X0_103 : gW (.methodLink RX0 103 yX0_placeOf) := ⟨List.mem_of_getElem? (i := 141) (by decide +kernel), rfl⟩
theorem qI_yX0_placeOf : gW (.instanceMethod yX0_placeOf) := ⟨List.mem_of_getElem? (i := 143) (by decide +kernel), rfl⟩
theorem qIn_X0 : gW (.instantiable RX0 11) := ⟨List.mem_of_getElem? (i := 144) (by decide +kernel), rfl⟩
theorem qC_yX0_placeOf : gW (.code yX0_placeOf cX0_placeOf 2 (some .int)) := ⟨List.mem_of_getElem? (i := 145) (by decide +kernel), rfl⟩
theorem qL_X0_107 : gW (.methodLink RX0 107 yX0_tollFor) := ⟨List.mem_of_getElem? (i := 146) (by decide +kernel), rfl⟩
theorem qI_yX0_tollFor : gW (.instanceMethod yX0_tollFor) := ⟨List.mem_of_getElem? (i := 148) (by decide +kernel), rfl⟩
theorem qC_yX0_tollFor : gW (.code yX0_tollFor cX0_tollFor 3 (some .int)) := ⟨List.mem_of_getElem? (i := 149) (by decide +kernel), rfl⟩
theorem qL_L_75 : gW (.methodLink RL 75 yX6_queue) := ⟨List.mem_of_getElem? (i := 150) (by decide +kernel), rfl⟩
theorem qI_yX6_queue : gW (.instanceMethod yX6_queue) := ⟨List.mem_of_getElem? (i := 151) (by decide +kernel), rfl⟩
theorem qS_yX6_queue : gW (.selects RX6 yX6_queue yX6_queue) := ⟨List.mem_of_getElem? (i := 152) (by decide +kernel), rfl⟩
theorem qC_yX6_queue : gW (.code yX6_queue cX6_queue 3 (some .int)) := ⟨List.mem_of_getElem? (i := 153) (by decide +kernel), rfl⟩
theorem qL_X6_168 : gW (.methodLink RX6 168 yX0_gateAt) := ⟨List.mem_of_getElem? (i := 154) (by decide +kernel), rfl⟩
theorem qI_yX0_gateAt : gW (.instanceMethod yX0_gateAt) := ⟨List.mem_of_getElem? (i := 155) (by decide +kernel), rfl⟩
theorem qS_yX0_gateAt : gW (.selects RX0 yX0_gateAt yX0_gateAt) := ⟨List.mem_of_getElem? (i := 156) (by decide +kernel), rfl⟩
theorem qC_yX0_gateAt : gW (.code yX0_gateAt cX0_gateAt 2 (some (.object "FogBridge$Gate"))) := ⟨List.mem_of_getElem? (i := 157) (by decide +kernel), rfl⟩
theorem qL_X6_196 : gW (.methodLink RX6 196 yX5_at) := ⟨List.mem_of_getElem? (i := 159) (by decide +kernel), rfl⟩
theorem qI_yX5_at : gW (.instanceMethod yX5_at) := ⟨List.mem_of_getElem? (i := 160) (by decide +kernel), rfl⟩
theorem qS_yX5_at : gW (.selects RX5 yX5_at yX5_at) := ⟨List.mem_of_getElem? (i := 161) (by decide +kernel), rfl⟩
theorem qC_yX5_at : gW (.code yX5_at cX5_at 2 (some .int)) := ⟨List.mem_of_getElem? (i := 162) (by decide +kernel), rfl⟩
theorem qMN_X5_19 : gW (.methodLinkNest RX5 19 yX6_isIndex "FogBridge") := ⟨List.mem_of_getElem? (i := 163) (by decide +kernel), rfl⟩
theorem qL_L_53 : gW (.methodLink RL 53 yX6_box) := ⟨List.mem_of_getElem? (i := 164) (by decide +kernel), rfl⟩
theorem qI_yX6_box : gW (.instanceMethod yX6_box) := ⟨List.mem_of_getElem? (i := 165) (by decide +kernel), rfl⟩
theorem qS_yX6_box : gW (.selects RX6 yX6_box yX6_box) := ⟨List.mem_of_getElem? (i := 166) (by decide +kernel), rfl⟩
theorem qC_yX6_box : gW (.code yX6_box cX6_box 3 (some .int)) := ⟨List.mem_of_getElem? (i := 167) (by decide +kernel), rfl⟩
theorem qL_X6_201 : gW (.methodLink RX6 201 yX3_tell) := ⟨List.mem_of_getElem? (i := 169) (by decide +kernel), rfl⟩
theorem qI_yX3_tell : gW (.instanceMethod yX3_tell) := ⟨List.mem_of_getElem? (i := 170) (by decide +kernel), rfl⟩
theorem qS_yX3_tell : gW (.selects RX3 yX3_tell yX3_tell) := ⟨List.mem_of_getElem? (i := 171) (by decide +kernel), rfl⟩
theorem qC_yX3_tell : gW (.code yX3_tell cX3_tell 2 (some .int)) := ⟨List.mem_of_getElem? (i := 172) (by decide +kernel), rfl⟩
theorem qL_L_56 : gW (.methodLink RL 56 yX6_empty) := ⟨List.mem_of_getElem? (i := 173) (by decide +kernel), rfl⟩
theorem qI_yX6_empty : gW (.instanceMethod yX6_empty) := ⟨List.mem_of_getElem? (i := 174) (by decide +kernel), rfl⟩
theorem qS_yX6_empty : gW (.selects RX6 yX6_empty yX6_empty) := ⟨List.mem_of_getElem? (i := 175) (by decide +kernel), rfl⟩
theorem qC_yX6_empty : gW (.code yX6_empty cX6_empty 4 (some .int)) := ⟨List.mem_of_getElem? (i := 176) (by decide +kernel), rfl⟩
theorem qL_L_72 : gW (.methodLink RL 72 yX6_pass) := ⟨List.mem_of_getElem? (i := 178) (by decide +kernel), rfl⟩
theorem qI_yX6_pass : gW (.instanceMethod yX6_pass) := ⟨List.mem_of_getElem? (i := 179) (by decide +kernel), rfl⟩
theorem qS_yX6_pass : gW (.selects RX6 yX6_pass yX6_pass) := ⟨List.mem_of_getElem? (i := 180) (by decide +kernel), rfl⟩
theorem qC_yX6_pass : gW (.code yX6_pass cX6_pass 2 (some .int)) := ⟨List.mem_of_getElem? (i := 181) (by decide +kernel), rfl⟩
theorem qL_X6_212 : gW (.methodLink RX6 212 yX0_run) := ⟨List.mem_of_getElem? (i := 183) (by decide +kernel), rfl⟩
theorem qI_yX0_run : gW (.instanceMethod yX0_run) := ⟨List.mem_of_getElem? (i := 184) (by decide +kernel), rfl⟩
theorem qS_yX0_run : gW (.selects RX0 yX0_run yX0_run) := ⟨List.mem_of_getElem? (i := 185) (by decide +kernel), rfl⟩
theorem qC_yX0_run : gW (.code yX0_run cX0_run 4 (some .int)) := ⟨List.mem_of_getElem? (i := 186) (by decide +kernel), rfl⟩
theorem qL_X0_64 : gW (.methodLink RX0 64 yX0_move) := ⟨List.mem_of_getElem? (i := 187) (by decide +kernel), rfl⟩
theorem qI_yX0_move : gW (.instanceMethod yX0_move) := ⟨List.mem_of_getElem? (i := 189) (by decide +kernel), rfl⟩
theorem qC_yX0_move : gW (.code yX0_move cX0_move 2 (some .int)) := ⟨List.mem_of_getElem? (i := 190) (by decide +kernel), rfl⟩
theorem qL_X0_83 : gW (.methodLink RX0 83 yX5_at) := ⟨List.mem_of_getElem? (i := 191) (by decide +kernel), rfl⟩
theorem qL_X0_57 : gW (.methodLink RX0 57 yX0_cartAt) := ⟨List.mem_of_getElem? (i := 192) (by decide +kernel), rfl⟩
theorem qL_X0_136 : gW (.methodLink RX0 136 yX0_goOn) := ⟨List.mem_of_getElem? (i := 193) (by decide +kernel), rfl⟩
theorem qI_yX0_goOn : gW (.instanceMethod yX0_goOn) := ⟨List.mem_of_getElem? (i := 195) (by decide +kernel), rfl⟩
theorem qC_yX0_goOn : gW (.code yX0_goOn cX0_goOn 6 (some .int)) := ⟨List.mem_of_getElem? (i := 196) (by decide +kernel), rfl⟩
theorem qL_X0_142 : gW (.methodLink RX0 142 yJ9_min_7cf53) := ⟨List.mem_of_getElem? (i := 197) (by decide +kernel), rfl⟩
theorem qT_yJ9_min_7cf53 : gW (.static yJ9_min_7cf53) := ⟨List.mem_of_getElem? (i := 198) (by decide +kernel), rfl⟩
theorem qC_yJ9_min_7cf53 : gW (.code yJ9_min_7cf53 cJ9_min_7cf53 2 (some .int)) := ⟨List.mem_of_getElem? (i := 199) (by decide +kernel), rfl⟩
theorem qL_X0_147 : gW (.methodLink RX0 147 yX5_removeFirst) := ⟨List.mem_of_getElem? (i := 200) (by decide +kernel), rfl⟩
theorem qI_yX5_removeFirst : gW (.instanceMethod yX5_removeFirst) := ⟨List.mem_of_getElem? (i := 201) (by decide +kernel), rfl⟩
theorem qS_yX5_removeFirst : gW (.selects RX5 yX5_removeFirst yX5_removeFirst) := ⟨List.mem_of_getElem? (i := 202) (by decide +kernel), rfl⟩
theorem qC_yX5_removeFirst : gW (.code yX5_removeFirst cX5_removeFirst 2 none) := ⟨List.mem_of_getElem? (i := 203) (by decide +kernel), rfl⟩
theorem qL_X0_139 : gW (.methodLink RX0 139 yX0_goBack) := ⟨List.mem_of_getElem? (i := 204) (by decide +kernel), rfl⟩
theorem qI_yX0_goBack : gW (.instanceMethod yX0_goBack) := ⟨List.mem_of_getElem? (i := 206) (by decide +kernel), rfl⟩
theorem qC_yX0_goBack : gW (.code yX0_goBack cX0_goBack 5 none) := ⟨List.mem_of_getElem? (i := 207) (by decide +kernel), rfl⟩
theorem qL_X0_150 : gW (.methodLink RX0 150 yJ9_max_7cf53) := ⟨List.mem_of_getElem? (i := 208) (by decide +kernel), rfl⟩
theorem qT_yJ9_max_7cf53 : gW (.static yJ9_max_7cf53) := ⟨List.mem_of_getElem? (i := 209) (by decide +kernel), rfl⟩
theorem qC_yJ9_max_7cf53 : gW (.code yJ9_max_7cf53 cJ9_max_7cf53 2 (some .int)) := ⟨List.mem_of_getElem? (i := 210) (by decide +kernel), rfl⟩
theorem qL_X0_153 : gW (.methodLink RX0 153 yX0_gateAt) := ⟨List.mem_of_getElem? (i := 211) (by decide +kernel), rfl⟩
theorem qL_X0_163 : gW (.methodLink RX0 163 yX5_addFirst) := ⟨List.mem_of_getElem? (i := 212) (by decide +kernel), rfl⟩
theorem qI_yX5_addFirst : gW (.instanceMethod yX5_addFirst) := ⟨List.mem_of_getElem? (i := 213) (by decide +kernel), rfl⟩
theorem qS_yX5_addFirst : gW (.selects RX5 yX5_addFirst yX5_addFirst) := ⟨List.mem_of_getElem? (i := 214) (by decide +kernel), rfl⟩
theorem qC_yX5_addFirst : gW (.code yX5_addFirst cX5_addFirst 3 none) := ⟨List.mem_of_getElem? (i := 215) (by decide +kernel), rfl⟩
theorem qL_X0_166 : gW (.methodLink RX0 166 yX5_removeLast) := ⟨List.mem_of_getElem? (i := 216) (by decide +kernel), rfl⟩
theorem qI_yX5_removeLast : gW (.instanceMethod yX5_removeLast) := ⟨List.mem_of_getElem? (i := 217) (by decide +kernel), rfl⟩
theorem qS_yX5_removeLast : gW (.selects RX5 yX5_removeLast yX5_removeLast) := ⟨List.mem_of_getElem? (i := 218) (by decide +kernel), rfl⟩
theorem qC_yX5_removeLast : gW (.code yX5_removeLast cX5_removeLast 1 none) := ⟨List.mem_of_getElem? (i := 219) (by decide +kernel), rfl⟩
theorem qL_X0_68 : gW (.methodLink RX0 68 yX0_comeOn) := ⟨List.mem_of_getElem? (i := 220) (by decide +kernel), rfl⟩
theorem qI_yX0_comeOn : gW (.instanceMethod yX0_comeOn) := ⟨List.mem_of_getElem? (i := 222) (by decide +kernel), rfl⟩
theorem qC_yX0_comeOn : gW (.code yX0_comeOn cX0_comeOn 3 none) := ⟨List.mem_of_getElem? (i := 223) (by decide +kernel), rfl⟩
theorem qL_X0_169 : gW (.methodLink RX0 169 yX0_hasRoomFor) := ⟨List.mem_of_getElem? (i := 224) (by decide +kernel), rfl⟩
theorem qI_yX0_hasRoomFor : gW (.instanceMethod yX0_hasRoomFor) := ⟨List.mem_of_getElem? (i := 226) (by decide +kernel), rfl⟩
theorem qC_yX0_hasRoomFor : gW (.code yX0_hasRoomFor cX0_hasRoomFor 4 (some .boolean)) := ⟨List.mem_of_getElem? (i := 227) (by decide +kernel), rfl⟩
theorem qL_X0_184 : gW (.methodLink RX0 184 yX5_last) := ⟨List.mem_of_getElem? (i := 228) (by decide +kernel), rfl⟩
theorem qI_yX5_last : gW (.instanceMethod yX5_last) := ⟨List.mem_of_getElem? (i := 229) (by decide +kernel), rfl⟩
theorem qS_yX5_last : gW (.selects RX5 yX5_last yX5_last) := ⟨List.mem_of_getElem? (i := 230) (by decide +kernel), rfl⟩
theorem qC_yX5_last : gW (.code yX5_last cX5_last 1 (some .int)) := ⟨List.mem_of_getElem? (i := 231) (by decide +kernel), rfl⟩
theorem qL_X5_23 : gW (.methodLink RX5 23 yX5_at) := ⟨List.mem_of_getElem? (i := 232) (by decide +kernel), rfl⟩
theorem qL_X0_187 : gW (.methodLink RX0 187 yX0_weightOnBridge) := ⟨List.mem_of_getElem? (i := 233) (by decide +kernel), rfl⟩
theorem qI_yX0_weightOnBridge : gW (.instanceMethod yX0_weightOnBridge) := ⟨List.mem_of_getElem? (i := 234) (by decide +kernel), rfl⟩
theorem qS_yX0_weightOnBridge : gW (.selects RX0 yX0_weightOnBridge yX0_weightOnBridge) := ⟨List.mem_of_getElem? (i := 235) (by decide +kernel), rfl⟩
theorem qC_yX0_weightOnBridge : gW (.code yX0_weightOnBridge cX0_weightOnBridge 4 (some .int)) := ⟨List.mem_of_getElem? (i := 236) (by decide +kernel), rfl⟩
theorem qL_X0_177 : gW (.methodLink RX0 177 yX0_pays) := ⟨List.mem_of_getElem? (i := 237) (by decide +kernel), rfl⟩
theorem qI_yX0_pays : gW (.instanceMethod yX0_pays) := ⟨List.mem_of_getElem? (i := 239) (by decide +kernel), rfl⟩
theorem qC_yX0_pays : gW (.code yX0_pays cX0_pays 5 (some .boolean)) := ⟨List.mem_of_getElem? (i := 240) (by decide +kernel), rfl⟩
theorem qL_X0_193 : gW (.methodLink RX0 193 yX3_take) := ⟨List.mem_of_getElem? (i := 241) (by decide +kernel), rfl⟩
theorem qI_yX3_take : gW (.instanceMethod yX3_take) := ⟨List.mem_of_getElem? (i := 242) (by decide +kernel), rfl⟩
theorem qS_yX3_take : gW (.selects RX3 yX3_take yX3_take) := ⟨List.mem_of_getElem? (i := 243) (by decide +kernel), rfl⟩
theorem qC_yX3_take : gW (.code yX3_take cX3_take 4 none) := ⟨List.mem_of_getElem? (i := 244) (by decide +kernel), rfl⟩
theorem qL_X0_181 : gW (.methodLink RX0 181 yX5_addLast) := ⟨List.mem_of_getElem? (i := 245) (by decide +kernel), rfl⟩
theorem qI_yX5_addLast : gW (.instanceMethod yX5_addLast) := ⟨List.mem_of_getElem? (i := 246) (by decide +kernel), rfl⟩
theorem qS_yX5_addLast : gW (.selects RX5 yX5_addLast yX5_addLast) := ⟨List.mem_of_getElem? (i := 247) (by decide +kernel), rfl⟩
theorem qC_yX5_addLast : gW (.code yX5_addLast cX5_addLast 2 none) := ⟨List.mem_of_getElem? (i := 248) (by decide +kernel), rfl⟩
theorem qL_L_36 : gW (.methodLink RL 36 yX6_count) := ⟨List.mem_of_getElem? (i := 249) (by decide +kernel), rfl⟩
theorem qI_yX6_count : gW (.instanceMethod yX6_count) := ⟨List.mem_of_getElem? (i := 250) (by decide +kernel), rfl⟩
theorem qS_yX6_count : gW (.selects RX6 yX6_count yX6_count) := ⟨List.mem_of_getElem? (i := 251) (by decide +kernel), rfl⟩
theorem qC_yX6_count : gW (.code yX6_count cX6_count 2 (some .int)) := ⟨List.mem_of_getElem? (i := 252) (by decide +kernel), rfl⟩
theorem qL_X6_217 : gW (.methodLink RX6 217 yX6_countOf) := ⟨List.mem_of_getElem? (i := 254) (by decide +kernel), rfl⟩
theorem qI_yX6_countOf : gW (.instanceMethod yX6_countOf) := ⟨List.mem_of_getElem? (i := 256) (by decide +kernel), rfl⟩
theorem qIn_X6 : gW (.instantiable RX6 5) := ⟨List.mem_of_getElem? (i := 257) (by decide +kernel), rfl⟩
theorem qC_yX6_countOf : gW (.code yX6_countOf cX6_countOf 2 (some .int)) := ⟨List.mem_of_getElem? (i := 258) (by decide +kernel), rfl⟩
theorem qL_X6_261 : gW (.methodLink RX6 261 yX0_cartsIn) := ⟨List.mem_of_getElem? (i := 259) (by decide +kernel), rfl⟩
theorem qI_yX0_cartsIn : gW (.instanceMethod yX0_cartsIn) := ⟨List.mem_of_getElem? (i := 260) (by decide +kernel), rfl⟩
theorem qS_yX0_cartsIn : gW (.selects RX0 yX0_cartsIn yX0_cartsIn) := ⟨List.mem_of_getElem? (i := 261) (by decide +kernel), rfl⟩
theorem qC_yX0_cartsIn : gW (.code yX0_cartsIn cX0_cartsIn 5 (some .int)) := ⟨List.mem_of_getElem? (i := 262) (by decide +kernel), rfl⟩
theorem qL_X6_264 : gW (.methodLink RX6 264 yX0_weightOnBridge) := ⟨List.mem_of_getElem? (i := 263) (by decide +kernel), rfl⟩
theorem qL_L_69 : gW (.methodLink RL 69 yX6_over) := ⟨List.mem_of_getElem? (i := 264) (by decide +kernel), rfl⟩
theorem qI_yX6_over : gW (.instanceMethod yX6_over) := ⟨List.mem_of_getElem? (i := 265) (by decide +kernel), rfl⟩
theorem qS_yX6_over : gW (.selects RX6 yX6_over yX6_over) := ⟨List.mem_of_getElem? (i := 266) (by decide +kernel), rfl⟩
theorem qC_yX6_over : gW (.code yX6_over cX6_over 3 (some .int)) := ⟨List.mem_of_getElem? (i := 267) (by decide +kernel), rfl⟩
theorem qL_X6_222 : gW (.methodLink RX6 222 yX0_copyFrom) := ⟨List.mem_of_getElem? (i := 269) (by decide +kernel), rfl⟩
theorem qI_yX0_copyFrom : gW (.instanceMethod yX0_copyFrom) := ⟨List.mem_of_getElem? (i := 270) (by decide +kernel), rfl⟩
theorem qS_yX0_copyFrom : gW (.selects RX0 yX0_copyFrom yX0_copyFrom) := ⟨List.mem_of_getElem? (i := 271) (by decide +kernel), rfl⟩
theorem qC_yX0_copyFrom : gW (.code yX0_copyFrom cX0_copyFrom 5 none) := ⟨List.mem_of_getElem? (i := 272) (by decide +kernel), rfl⟩
theorem qL_X0_123 : gW (.methodLink RX0 123 yX1_copyFrom) := ⟨List.mem_of_getElem? (i := 273) (by decide +kernel), rfl⟩
theorem qI_yX1_copyFrom : gW (.instanceMethod yX1_copyFrom) := ⟨List.mem_of_getElem? (i := 274) (by decide +kernel), rfl⟩
theorem qS_yX1_copyFrom : gW (.selects RX1 yX1_copyFrom yX1_copyFrom) := ⟨List.mem_of_getElem? (i := 275) (by decide +kernel), rfl⟩
theorem qC_yX1_copyFrom : gW (.code yX1_copyFrom cX1_copyFrom 2 none) := ⟨List.mem_of_getElem? (i := 276) (by decide +kernel), rfl⟩
theorem qL_X0_127 : gW (.methodLink RX0 127 yX3_copyFrom) := ⟨List.mem_of_getElem? (i := 277) (by decide +kernel), rfl⟩
theorem qI_yX3_copyFrom : gW (.instanceMethod yX3_copyFrom) := ⟨List.mem_of_getElem? (i := 278) (by decide +kernel), rfl⟩
theorem qS_yX3_copyFrom : gW (.selects RX3 yX3_copyFrom yX3_copyFrom) := ⟨List.mem_of_getElem? (i := 279) (by decide +kernel), rfl⟩
theorem qC_yX3_copyFrom : gW (.code yX3_copyFrom cX3_copyFrom 2 none) := ⟨List.mem_of_getElem? (i := 280) (by decide +kernel), rfl⟩
theorem qL_X3_48 : gW (.methodLink RX3 48 yX5_copyFrom) := ⟨List.mem_of_getElem? (i := 281) (by decide +kernel), rfl⟩
theorem qI_yX5_copyFrom : gW (.instanceMethod yX5_copyFrom) := ⟨List.mem_of_getElem? (i := 282) (by decide +kernel), rfl⟩
theorem qS_yX5_copyFrom : gW (.selects RX5 yX5_copyFrom yX5_copyFrom) := ⟨List.mem_of_getElem? (i := 283) (by decide +kernel), rfl⟩
theorem qC_yX5_copyFrom : gW (.code yX5_copyFrom cX5_copyFrom 3 none) := ⟨List.mem_of_getElem? (i := 284) (by decide +kernel), rfl⟩
theorem qL_X0_130 : gW (.methodLink RX0 130 yX5_copyFrom) := ⟨List.mem_of_getElem? (i := 285) (by decide +kernel), rfl⟩
theorem qL_X6_226 : gW (.methodLink RX6 226 yX0_isOver) := ⟨List.mem_of_getElem? (i := 286) (by decide +kernel), rfl⟩
theorem qI_yX0_isOver : gW (.instanceMethod yX0_isOver) := ⟨List.mem_of_getElem? (i := 287) (by decide +kernel), rfl⟩
theorem qS_yX0_isOver : gW (.selects RX0 yX0_isOver yX0_isOver) := ⟨List.mem_of_getElem? (i := 288) (by decide +kernel), rfl⟩
theorem qC_yX0_isOver : gW (.code yX0_isOver cX0_isOver 3 (some .boolean)) := ⟨List.mem_of_getElem? (i := 289) (by decide +kernel), rfl⟩
theorem qL_L_66 : gW (.methodLink RL 66 yX6_keep) := ⟨List.mem_of_getElem? (i := 290) (by decide +kernel), rfl⟩
theorem qI_yX6_keep : gW (.instanceMethod yX6_keep) := ⟨List.mem_of_getElem? (i := 291) (by decide +kernel), rfl⟩
theorem qS_yX6_keep : gW (.selects RX6 yX6_keep yX6_keep) := ⟨List.mem_of_getElem? (i := 292) (by decide +kernel), rfl⟩
theorem qC_yX6_keep : gW (.code yX6_keep cX6_keep 6 (some .int)) := ⟨List.mem_of_getElem? (i := 293) (by decide +kernel), rfl⟩
theorem qL_L_63 : gW (.methodLink RL 63 yX6_foresee) := ⟨List.mem_of_getElem? (i := 294) (by decide +kernel), rfl⟩
theorem qI_yX6_foresee : gW (.instanceMethod yX6_foresee) := ⟨List.mem_of_getElem? (i := 295) (by decide +kernel), rfl⟩
theorem qS_yX6_foresee : gW (.selects RX6 yX6_foresee yX6_foresee) := ⟨List.mem_of_getElem? (i := 296) (by decide +kernel), rfl⟩
theorem qC_yX6_foresee : gW (.code yX6_foresee cX6_foresee 4 (some .int)) := ⟨List.mem_of_getElem? (i := 297) (by decide +kernel), rfl⟩
theorem qL_X6_231 : gW (.methodLink RX6 231 yX0_coinsInBoxes) := ⟨List.mem_of_getElem? (i := 300) (by decide +kernel), rfl⟩
theorem qI_yX0_coinsInBoxes : gW (.instanceMethod yX0_coinsInBoxes) := ⟨List.mem_of_getElem? (i := 301) (by decide +kernel), rfl⟩
theorem qS_yX0_coinsInBoxes : gW (.selects RX0 yX0_coinsInBoxes yX0_coinsInBoxes) := ⟨List.mem_of_getElem? (i := 302) (by decide +kernel), rfl⟩
theorem qC_yX0_coinsInBoxes : gW (.code yX0_coinsInBoxes cX0_coinsInBoxes 1 (some .int)) := ⟨List.mem_of_getElem? (i := 303) (by decide +kernel), rfl⟩
theorem qL_L_59 : gW (.methodLink RL 59 yX6_digest) := ⟨List.mem_of_getElem? (i := 304) (by decide +kernel), rfl⟩
theorem qI_yX6_digest : gW (.instanceMethod yX6_digest) := ⟨List.mem_of_getElem? (i := 305) (by decide +kernel), rfl⟩
theorem qS_yX6_digest : gW (.selects RX6 yX6_digest yX6_digest) := ⟨List.mem_of_getElem? (i := 306) (by decide +kernel), rfl⟩
theorem qC_yX6_digest : gW (.code yX6_digest cX6_digest 4 (some .long)) := ⟨List.mem_of_getElem? (i := 307) (by decide +kernel), rfl⟩
theorem qK_X6_239 : gW (.constantLong RX6 239 (683)) := ⟨List.mem_of_getElem? (i := 308) (by decide +kernel), rfl⟩
theorem qL_X6_241 : gW (.methodLink RX6 241 yX6_mixed) := ⟨List.mem_of_getElem? (i := 309) (by decide +kernel), rfl⟩
theorem qT_yX6_mixed : gW (.static yX6_mixed) := ⟨List.mem_of_getElem? (i := 310) (by decide +kernel), rfl⟩
theorem qC_yX6_mixed : gW (.code yX6_mixed cX6_mixed 3 (some .long)) := ⟨List.mem_of_getElem? (i := 311) (by decide +kernel), rfl⟩
theorem qK_X6_250 : gW (.constantLong RX6 250 (31)) := ⟨List.mem_of_getElem? (i := 312) (by decide +kernel), rfl⟩
theorem qL_X6_245 : gW (.methodLink RX6 245 yX2_mixedInto) := ⟨List.mem_of_getElem? (i := 313) (by decide +kernel), rfl⟩
theorem qI_yX2_mixedInto : gW (.instanceMethod yX2_mixedInto) := ⟨List.mem_of_getElem? (i := 314) (by decide +kernel), rfl⟩
theorem qS_yX2_mixedInto : gW (.selects RX2 yX2_mixedInto yX2_mixedInto) := ⟨List.mem_of_getElem? (i := 315) (by decide +kernel), rfl⟩
theorem qC_yX2_mixedInto : gW (.code yX2_mixedInto cX2_mixedInto 6 (some .long)) := ⟨List.mem_of_getElem? (i := 316) (by decide +kernel), rfl⟩
theorem qL_X2_22 : gW (.methodLink RX2 22 yX2_ringsOf) := ⟨List.mem_of_getElem? (i := 317) (by decide +kernel), rfl⟩
theorem qI_yX2_ringsOf : gW (.instanceMethod yX2_ringsOf) := ⟨List.mem_of_getElem? (i := 318) (by decide +kernel), rfl⟩
theorem qS_yX2_ringsOf : gW (.selects RX2 yX2_ringsOf yX2_ringsOf) := ⟨List.mem_of_getElem? (i := 319) (by decide +kernel), rfl⟩
theorem qC_yX2_ringsOf : gW (.code yX2_ringsOf cX2_ringsOf 2 (some .int)) := ⟨List.mem_of_getElem? (i := 320) (by decide +kernel), rfl⟩
theorem qMN_X2_32 : gW (.methodLinkNest RX2 32 yX6_isIndex "FogBridge") := ⟨List.mem_of_getElem? (i := 321) (by decide +kernel), rfl⟩
theorem qMN_X2_54 : gW (.methodLinkNest RX2 54 yX6_mixed "FogBridge") := ⟨List.mem_of_getElem? (i := 322) (by decide +kernel), rfl⟩
theorem qL_X6_249 : gW (.methodLink RX6 249 yX0_mixedInto) := ⟨List.mem_of_getElem? (i := 323) (by decide +kernel), rfl⟩
theorem qI_yX0_mixedInto : gW (.instanceMethod yX0_mixedInto) := ⟨List.mem_of_getElem? (i := 324) (by decide +kernel), rfl⟩
theorem qS_yX0_mixedInto : gW (.selects RX0 yX0_mixedInto yX0_mixedInto) := ⟨List.mem_of_getElem? (i := 325) (by decide +kernel), rfl⟩
theorem qC_yX0_mixedInto : gW (.code yX0_mixedInto cX0_mixedInto 8 (some .long)) := ⟨List.mem_of_getElem? (i := 326) (by decide +kernel), rfl⟩
theorem qL_X0_111 : gW (.methodLink RX0 111 yX3_mixedInto) := ⟨List.mem_of_getElem? (i := 327) (by decide +kernel), rfl⟩
theorem qI_yX3_mixedInto : gW (.instanceMethod yX3_mixedInto) := ⟨List.mem_of_getElem? (i := 328) (by decide +kernel), rfl⟩
theorem qS_yX3_mixedInto : gW (.selects RX3 yX3_mixedInto yX3_mixedInto) := ⟨List.mem_of_getElem? (i := 329) (by decide +kernel), rfl⟩
theorem qC_yX3_mixedInto : gW (.code yX3_mixedInto cX3_mixedInto 6 (some .long)) := ⟨List.mem_of_getElem? (i := 330) (by decide +kernel), rfl⟩
theorem qL_X3_37 : gW (.methodLink RX3 37 yX3_tell) := ⟨List.mem_of_getElem? (i := 331) (by decide +kernel), rfl⟩
theorem qMN_X3_41 : gW (.methodLinkNest RX3 41 yX6_mixed "FogBridge") := ⟨List.mem_of_getElem? (i := 332) (by decide +kernel), rfl⟩
theorem qL_X3_45 : gW (.methodLink RX3 45 yX5_at) := ⟨List.mem_of_getElem? (i := 333) (by decide +kernel), rfl⟩
theorem qL_X0_115 : gW (.methodLink RX0 115 yX0_tellCart) := ⟨List.mem_of_getElem? (i := 334) (by decide +kernel), rfl⟩
theorem qMN_X0_119 : gW (.methodLinkNest RX0 119 yX6_mixed "FogBridge") := ⟨List.mem_of_getElem? (i := 335) (by decide +kernel), rfl⟩
theorem qL_L_18 : gW (.methodLink RL 18 yL_below) := ⟨List.mem_of_getElem? (i := 336) (by decide +kernel), rfl⟩
theorem qT_yL_below : gW (.static yL_below) := ⟨List.mem_of_getElem? (i := 337) (by decide +kernel), rfl⟩
theorem qC_yL_below : gW (.code yL_below cL_below 2 (some .int)) := ⟨List.mem_of_getElem? (i := 338) (by decide +kernel), rfl⟩
theorem qKi_L_7 : gW (.constant RL 7 (2147483647)) := ⟨List.mem_of_getElem? (i := 339) (by decide +kernel), rfl⟩
theorem qL_L_12 : gW (.methodLink RL 12 yL_cell) := ⟨List.mem_of_getElem? (i := 340) (by decide +kernel), rfl⟩
theorem qT_yL_cell : gW (.static yL_cell) := ⟨List.mem_of_getElem? (i := 341) (by decide +kernel), rfl⟩
theorem qC_yL_cell : gW (.code yL_cell cL_cell 2 (some .int)) := ⟨List.mem_of_getElem? (i := 342) (by decide +kernel), rfl⟩
theorem qKi_L_8 : gW (.constant RL 8 (790386105)) := ⟨List.mem_of_getElem? (i := 343) (by decide +kernel), rfl⟩
theorem qL_L_32 : gW (.methodLink RL 32 yL_bridge) := ⟨List.mem_of_getElem? (i := 344) (by decide +kernel), rfl⟩
theorem qT_yL_bridge : gW (.static yL_bridge) := ⟨List.mem_of_getElem? (i := 345) (by decide +kernel), rfl⟩
theorem qC_yL_bridge : gW (.code yL_bridge cL_bridge 5 (some (.object "FogBridge"))) := ⟨List.mem_of_getElem? (i := 346) (by decide +kernel), rfl⟩
theorem qCL_L_9 : gW (.classLink RL 9 RX6) := ⟨List.mem_of_getElem? (i := 347) (by decide +kernel), rfl⟩
theorem qL_L_11 : gW (.methodLink RL 11 yX6_init) := ⟨List.mem_of_getElem? (i := 348) (by decide +kernel), rfl⟩
theorem qI_yX6_init : gW (.instanceMethod yX6_init) := ⟨List.mem_of_getElem? (i := 349) (by decide +kernel), rfl⟩
theorem qC_yX6_init : gW (.code yX6_init cX6_init 1 none) := ⟨List.mem_of_getElem? (i := 350) (by decide +kernel), rfl⟩
theorem qL_X6_1 : gW (.methodLink RX6 1 objectInit) := ⟨List.mem_of_getElem? (i := 351) (by decide +kernel), rfl⟩
theorem qCL_X6_7 : gW (.classLink RX6 7 RX2) := ⟨List.mem_of_getElem? (i := 352) (by decide +kernel), rfl⟩
theorem qIn_X2 : gW (.instantiable RX2 3) := ⟨List.mem_of_getElem? (i := 353) (by decide +kernel), rfl⟩
theorem qMN_X6_9 : gW (.methodLinkNest RX6 9 yX2_init "FogBridge") := ⟨List.mem_of_getElem? (i := 354) (by decide +kernel), rfl⟩
theorem qI_yX2_init : gW (.instanceMethod yX2_init) := ⟨List.mem_of_getElem? (i := 355) (by decide +kernel), rfl⟩
theorem qC_yX2_init : gW (.code yX2_init cX2_init 1 none) := ⟨List.mem_of_getElem? (i := 356) (by decide +kernel), rfl⟩
theorem qL_X2_3 : gW (.methodLink RX2 3 objectInit) := ⟨List.mem_of_getElem? (i := 357) (by decide +kernel), rfl⟩
theorem qF_X2_9 : gW (.fieldLink RX2 9 "FogBridge$Code" "signals" "[I") := ⟨List.mem_of_getElem? (i := 358) (by decide +kernel), rfl⟩
theorem qF_X2_15 : gW (.fieldLink RX2 15 "FogBridge$Code" "rowsOfLength" "[I") := ⟨List.mem_of_getElem? (i := 359) (by decide +kernel), rfl⟩
theorem qF_X2_18 : gW (.fieldLink RX2 18 "FogBridge$Code" "size" "I") := ⟨List.mem_of_getElem? (i := 360) (by decide +kernel), rfl⟩
theorem qFN_X6_81 : gW (.fieldLinkNest RX6 81 "FogBridge$Code" "size" "I" "FogBridge") := ⟨List.mem_of_getElem? (i := 361) (by decide +kernel), rfl⟩
theorem qA_int : gW (.arrayClass .int) := ⟨List.mem_of_getElem? (i := 369) (by decide +kernel), rfl⟩
theorem qCL_X6_20 : gW (.classLink RX6 20 RX0) := ⟨List.mem_of_getElem? (i := 370) (by decide +kernel), rfl⟩
theorem qL_X6_22 : gW (.methodLink RX6 22 yX0_init) := ⟨List.mem_of_getElem? (i := 371) (by decide +kernel), rfl⟩
theorem qI_yX0_init : gW (.instanceMethod yX0_init) := ⟨List.mem_of_getElem? (i := 372) (by decide +kernel), rfl⟩
theorem qC_yX0_init : gW (.code yX0_init cX0_init 2 none) := ⟨List.mem_of_getElem? (i := 373) (by decide +kernel), rfl⟩
theorem qL_X0_3 : gW (.methodLink RX0 3 objectInit) := ⟨List.mem_of_getElem? (i := 374) (by decide +kernel), rfl⟩
theorem qCL_X0_24 : gW (.classLink RX0 24 RX1) := ⟨List.mem_of_getElem? (i := 375) (by decide +kernel), rfl⟩
theorem qCL_X0_30 : gW (.classLink RX0 30 RX3) := ⟨List.mem_of_getElem? (i := 377) (by decide +kernel), rfl⟩
theorem qIn_X3 : gW (.instantiable RX3 5) := ⟨List.mem_of_getElem? (i := 378) (by decide +kernel), rfl⟩
theorem qMN_X0_32 : gW (.methodLinkNest RX0 32 yX3_init "FogBridge") := ⟨List.mem_of_getElem? (i := 379) (by decide +kernel), rfl⟩
theorem qI_yX3_init : gW (.instanceMethod yX3_init) := ⟨List.mem_of_getElem? (i := 380) (by decide +kernel), rfl⟩
theorem qC_yX3_init : gW (.code yX3_init cX3_init 1 none) := ⟨List.mem_of_getElem? (i := 381) (by decide +kernel), rfl⟩
theorem qL_X3_3 : gW (.methodLink RX3 3 objectInit) := ⟨List.mem_of_getElem? (i := 382) (by decide +kernel), rfl⟩
theorem qCL_X3_9 : gW (.classLink RX3 9 RX5) := ⟨List.mem_of_getElem? (i := 383) (by decide +kernel), rfl⟩
theorem qIn_X5 : gW (.instantiable RX5 2) := ⟨List.mem_of_getElem? (i := 384) (by decide +kernel), rfl⟩
theorem qMN_X3_11 : gW (.methodLinkNest RX3 11 yX5_init "FogBridge") := ⟨List.mem_of_getElem? (i := 385) (by decide +kernel), rfl⟩
theorem qI_yX5_init : gW (.instanceMethod yX5_init) := ⟨List.mem_of_getElem? (i := 386) (by decide +kernel), rfl⟩
theorem qC_yX5_init : gW (.code yX5_init cX5_init 1 none) := ⟨List.mem_of_getElem? (i := 387) (by decide +kernel), rfl⟩
theorem qL_X5_3 : gW (.methodLink RX5 3 objectInit) := ⟨List.mem_of_getElem? (i := 388) (by decide +kernel), rfl⟩
theorem qF_X5_9 : gW (.fieldLink RX5 9 "FogBridge$Row" "carts" "[I") := ⟨List.mem_of_getElem? (i := 389) (by decide +kernel), rfl⟩
theorem qF_X5_15 : gW (.fieldLink RX5 15 "FogBridge$Row" "size" "I") := ⟨List.mem_of_getElem? (i := 390) (by decide +kernel), rfl⟩
theorem qFN_X3_34 : gW (.fieldLinkNest RX3 34 "FogBridge$Row" "size" "I" "FogBridge") := ⟨List.mem_of_getElem? (i := 391) (by decide +kernel), rfl⟩
theorem qFN_X6_114 : gW (.fieldLinkNest RX6 114 "FogBridge$Row" "size" "I" "FogBridge") := ⟨List.mem_of_getElem? (i := 392) (by decide +kernel), rfl⟩
theorem qFN_X0_80 : gW (.fieldLinkNest RX0 80 "FogBridge$Row" "size" "I" "FogBridge") := ⟨List.mem_of_getElem? (i := 393) (by decide +kernel), rfl⟩
theorem qF_X3_12 : gW (.fieldLink RX3 12 "FogBridge$Gate" "waiting" "LFogBridge$Row;") := ⟨List.mem_of_getElem? (i := 399) (by decide +kernel), rfl⟩
theorem qFN_X6_172 : gW (.fieldLinkNest RX6 172 "FogBridge$Gate" "waiting" "LFogBridge$Row;" "FogBridge") := ⟨List.mem_of_getElem? (i := 400) (by decide +kernel), rfl⟩
theorem qFN_X0_157 : gW (.fieldLinkNest RX0 157 "FogBridge$Gate" "waiting" "LFogBridge$Row;" "FogBridge") := ⟨List.mem_of_getElem? (i := 401) (by decide +kernel), rfl⟩
theorem qF_X3_18 : gW (.fieldLink RX3 18 "FogBridge$Gate" "coins" "I") := ⟨List.mem_of_getElem? (i := 402) (by decide +kernel), rfl⟩
theorem qFN_X0_77 : gW (.fieldLinkNest RX0 77 "FogBridge$Gate" "coins" "I" "FogBridge") := ⟨List.mem_of_getElem? (i := 403) (by decide +kernel), rfl⟩
theorem qFN_X6_209 : gW (.fieldLinkNest RX6 209 "FogBridge$Gate" "coins" "I" "FogBridge") := ⟨List.mem_of_getElem? (i := 404) (by decide +kernel), rfl⟩
theorem qF_X3_22 : gW (.fieldLink RX3 22 "FogBridge$Gate" "payers" "I") := ⟨List.mem_of_getElem? (i := 405) (by decide +kernel), rfl⟩
theorem qF_X3_25 : gW (.fieldLink RX3 25 "FogBridge$Gate" "axles" "I") := ⟨List.mem_of_getElem? (i := 406) (by decide +kernel), rfl⟩
theorem qF_X3_31 : gW (.fieldLink RX3 31 "FogBridge$Gate" "keptByCheats" "I") := ⟨List.mem_of_getElem? (i := 407) (by decide +kernel), rfl⟩
theorem qFN_X6_206 : gW (.fieldLinkNest RX6 206 "FogBridge$Gate" "keptByCheats" "I" "FogBridge") := ⟨List.mem_of_getElem? (i := 408) (by decide +kernel), rfl⟩
theorem qCL_X0_40 : gW (.classLink RX0 40 RX5) := ⟨List.mem_of_getElem? (i := 420) (by decide +kernel), rfl⟩
theorem qMN_X0_42 : gW (.methodLinkNest RX0 42 yX5_init "FogBridge") := ⟨List.mem_of_getElem? (i := 421) (by decide +kernel), rfl⟩
theorem qIn_X1 : gW (.instantiable RX1 11) := ⟨List.mem_of_getElem? (i := 422) (by decide +kernel), rfl⟩
theorem qL_X0_47 : gW (.methodLink RX0 47 yX1_init) := ⟨List.mem_of_getElem? (i := 423) (by decide +kernel), rfl⟩
theorem qI_yX1_init : gW (.instanceMethod yX1_init) := ⟨List.mem_of_getElem? (i := 424) (by decide +kernel), rfl⟩
theorem qC_yX1_init : gW (.code yX1_init cX1_init 2 none) := ⟨List.mem_of_getElem? (i := 425) (by decide +kernel), rfl⟩
theorem qL_X1_3 : gW (.methodLink RX1 3 objectInit) := ⟨List.mem_of_getElem? (i := 426) (by decide +kernel), rfl⟩
theorem qF_X1_18 : gW (.fieldLink RX1 18 "FogBridge$Cart" "number" "I") := ⟨List.mem_of_getElem? (i := 427) (by decide +kernel), rfl⟩
theorem qFN_X6_177 : gW (.fieldLinkNest RX6 177 "FogBridge$Cart" "number" "I" "FogBridge") := ⟨List.mem_of_getElem? (i := 428) (by decide +kernel), rfl⟩
theorem qFN_X0_160 : gW (.fieldLinkNest RX0 160 "FogBridge$Cart" "number" "I" "FogBridge") := ⟨List.mem_of_getElem? (i := 429) (by decide +kernel), rfl⟩
theorem qF_X1_21 : gW (.fieldLink RX1 21 "FogBridge$Cart" "end" "I") := ⟨List.mem_of_getElem? (i := 430) (by decide +kernel), rfl⟩
theorem qFN_X6_147 : gW (.fieldLinkNest RX6 147 "FogBridge$Cart" "end" "I" "FogBridge") := ⟨List.mem_of_getElem? (i := 431) (by decide +kernel), rfl⟩
theorem qFN_X0_100 : gW (.fieldLinkNest RX0 100 "FogBridge$Cart" "end" "I" "FogBridge") := ⟨List.mem_of_getElem? (i := 432) (by decide +kernel), rfl⟩
theorem qF_X1_24 : gW (.fieldLink RX1 24 "FogBridge$Cart" "axles" "I") := ⟨List.mem_of_getElem? (i := 433) (by decide +kernel), rfl⟩
theorem qFN_X3_28 : gW (.fieldLinkNest RX3 28 "FogBridge$Cart" "axles" "I" "FogBridge") := ⟨List.mem_of_getElem? (i := 434) (by decide +kernel), rfl⟩
theorem qFN_X6_152 : gW (.fieldLinkNest RX6 152 "FogBridge$Cart" "axles" "I" "FogBridge") := ⟨List.mem_of_getElem? (i := 435) (by decide +kernel), rfl⟩
theorem qFN_X0_93 : gW (.fieldLinkNest RX0 93 "FogBridge$Cart" "axles" "I" "FogBridge") := ⟨List.mem_of_getElem? (i := 436) (by decide +kernel), rfl⟩
theorem qF_X1_27 : gW (.fieldLink RX1 27 "FogBridge$Cart" "weight" "I") := ⟨List.mem_of_getElem? (i := 437) (by decide +kernel), rfl⟩
theorem qFN_X0_87 : gW (.fieldLinkNest RX0 87 "FogBridge$Cart" "weight" "I" "FogBridge") := ⟨List.mem_of_getElem? (i := 438) (by decide +kernel), rfl⟩
theorem qFN_X6_155 : gW (.fieldLinkNest RX6 155 "FogBridge$Cart" "weight" "I" "FogBridge") := ⟨List.mem_of_getElem? (i := 439) (by decide +kernel), rfl⟩
theorem qF_X1_30 : gW (.fieldLink RX1 30 "FogBridge$Cart" "pace" "I") := ⟨List.mem_of_getElem? (i := 440) (by decide +kernel), rfl⟩
theorem qFN_X6_158 : gW (.fieldLinkNest RX6 158 "FogBridge$Cart" "pace" "I" "FogBridge") := ⟨List.mem_of_getElem? (i := 441) (by decide +kernel), rfl⟩
theorem qFN_X0_96 : gW (.fieldLinkNest RX0 96 "FogBridge$Cart" "pace" "I" "FogBridge") := ⟨List.mem_of_getElem? (i := 442) (by decide +kernel), rfl⟩
theorem qF_X1_33 : gW (.fieldLink RX1 33 "FogBridge$Cart" "coins" "I") := ⟨List.mem_of_getElem? (i := 443) (by decide +kernel), rfl⟩
theorem qFN_X6_161 : gW (.fieldLinkNest RX6 161 "FogBridge$Cart" "coins" "I" "FogBridge") := ⟨List.mem_of_getElem? (i := 444) (by decide +kernel), rfl⟩
theorem qFN_X0_99 : gW (.fieldLinkNest RX0 99 "FogBridge$Cart" "coins" "I" "FogBridge") := ⟨List.mem_of_getElem? (i := 445) (by decide +kernel), rfl⟩
theorem qF_X1_36 : gW (.fieldLink RX1 36 "FogBridge$Cart" "isCheat" "Z") := ⟨List.mem_of_getElem? (i := 446) (by decide +kernel), rfl⟩
theorem qFN_X6_164 : gW (.fieldLinkNest RX6 164 "FogBridge$Cart" "isCheat" "Z" "FogBridge") := ⟨List.mem_of_getElem? (i := 447) (by decide +kernel), rfl⟩
theorem qFN_X0_190 : gW (.fieldLinkNest RX0 190 "FogBridge$Cart" "isCheat" "Z" "FogBridge") := ⟨List.mem_of_getElem? (i := 448) (by decide +kernel), rfl⟩
theorem qF_X1_40 : gW (.fieldLink RX1 40 "FogBridge$Cart" "hasPaid" "Z") := ⟨List.mem_of_getElem? (i := 449) (by decide +kernel), rfl⟩
theorem qFN_X0_173 : gW (.fieldLinkNest RX0 173 "FogBridge$Cart" "hasPaid" "Z" "FogBridge") := ⟨List.mem_of_getElem? (i := 450) (by decide +kernel), rfl⟩
theorem qF_X1_9 : gW (.fieldLink RX1 9 "FogBridge$Cart" "state" "I") := ⟨List.mem_of_getElem? (i := 451) (by decide +kernel), rfl⟩
theorem qFN_X0_74 : gW (.fieldLinkNest RX0 74 "FogBridge$Cart" "state" "I" "FogBridge") := ⟨List.mem_of_getElem? (i := 452) (by decide +kernel), rfl⟩
theorem qF_X1_43 : gW (.fieldLink RX1 43 "FogBridge$Cart" "way" "I") := ⟨List.mem_of_getElem? (i := 453) (by decide +kernel), rfl⟩
theorem qFN_X0_133 : gW (.fieldLinkNest RX0 133 "FogBridge$Cart" "way" "I" "FogBridge") := ⟨List.mem_of_getElem? (i := 454) (by decide +kernel), rfl⟩
theorem qF_X1_15 : gW (.fieldLink RX1 15 "FogBridge$Cart" "overTick" "I") := ⟨List.mem_of_getElem? (i := 455) (by decide +kernel), rfl⟩
theorem qFN_X0_90 : gW (.fieldLinkNest RX0 90 "FogBridge$Cart" "overTick" "I" "FogBridge") := ⟨List.mem_of_getElem? (i := 456) (by decide +kernel), rfl⟩
theorem qF_X0_71 : gW (.fieldLink RX0 71 "FogBridge$Bridge" "tick" "I") := ⟨List.mem_of_getElem? (i := 480) (by decide +kernel), rfl⟩
theorem qFN_X6_90 : gW (.fieldLinkNest RX6 90 "FogBridge$Bridge" "tick" "I" "FogBridge") := ⟨List.mem_of_getElem? (i := 481) (by decide +kernel), rfl⟩
theorem qF_X0_61 : gW (.fieldLink RX0 61 "FogBridge$Bridge" "direction" "I") := ⟨List.mem_of_getElem? (i := 482) (by decide +kernel), rfl⟩
theorem qFN_X6_136 : gW (.fieldLinkNest RX6 136 "FogBridge$Bridge" "direction" "I" "FogBridge") := ⟨List.mem_of_getElem? (i := 483) (by decide +kernel), rfl⟩
theorem qF_X0_9 : gW (.fieldLink RX0 9 "FogBridge$Bridge" "places" "I") := ⟨List.mem_of_getElem? (i := 484) (by decide +kernel), rfl⟩
theorem qFN_X6_122 : gW (.fieldLinkNest RX6 122 "FogBridge$Bridge" "places" "I" "FogBridge") := ⟨List.mem_of_getElem? (i := 485) (by decide +kernel), rfl⟩
theorem qF_X0_15 : gW (.fieldLink RX0 15 "FogBridge$Bridge" "bears" "I") := ⟨List.mem_of_getElem? (i := 486) (by decide +kernel), rfl⟩
theorem qFN_X6_119 : gW (.fieldLinkNest RX6 119 "FogBridge$Bridge" "bears" "I" "FogBridge") := ⟨List.mem_of_getElem? (i := 487) (by decide +kernel), rfl⟩
theorem qF_X0_18 : gW (.fieldLink RX0 18 "FogBridge$Bridge" "axleToll" "I") := ⟨List.mem_of_getElem? (i := 488) (by decide +kernel), rfl⟩
theorem qFN_X6_127 : gW (.fieldLinkNest RX6 127 "FogBridge$Bridge" "axleToll" "I" "FogBridge") := ⟨List.mem_of_getElem? (i := 489) (by decide +kernel), rfl⟩
theorem qF_X0_21 : gW (.fieldLink RX0 21 "FogBridge$Bridge" "tenToll" "I") := ⟨List.mem_of_getElem? (i := 490) (by decide +kernel), rfl⟩
theorem qFN_X6_130 : gW (.fieldLinkNest RX6 130 "FogBridge$Bridge" "tenToll" "I" "FogBridge") := ⟨List.mem_of_getElem? (i := 491) (by decide +kernel), rfl⟩
theorem qF_X0_50 : gW (.fieldLink RX0 50 "FogBridge$Bridge" "cartCount" "I") := ⟨List.mem_of_getElem? (i := 492) (by decide +kernel), rfl⟩
theorem qFN_X6_258 : gW (.fieldLinkNest RX6 258 "FogBridge$Bridge" "cartCount" "I" "FogBridge") := ⟨List.mem_of_getElem? (i := 493) (by decide +kernel), rfl⟩
theorem qF_X0_26 : gW (.fieldLink RX0 26 "FogBridge$Bridge" "carts" "[LFogBridge$Cart;") := ⟨List.mem_of_getElem? (i := 494) (by decide +kernel), rfl⟩
theorem qF_X0_33 : gW (.fieldLink RX0 33 "FogBridge$Bridge" "firstGate" "LFogBridge$Gate;") := ⟨List.mem_of_getElem? (i := 495) (by decide +kernel), rfl⟩
theorem qF_X0_37 : gW (.fieldLink RX0 37 "FogBridge$Bridge" "secondGate" "LFogBridge$Gate;") := ⟨List.mem_of_getElem? (i := 496) (by decide +kernel), rfl⟩
theorem qF_X0_43 : gW (.fieldLink RX0 43 "FogBridge$Bridge" "crossing" "LFogBridge$Row;") := ⟨List.mem_of_getElem? (i := 497) (by decide +kernel), rfl⟩
theorem qFN_X6_110 : gW (.fieldLinkNest RX6 110 "FogBridge$Bridge" "crossing" "LFogBridge$Row;" "FogBridge") := ⟨List.mem_of_getElem? (i := 498) (by decide +kernel), rfl⟩
theorem qF_X6_10 : gW (.fieldLink RX6 10 "FogBridge" "code" "LFogBridge$Code;") := ⟨List.mem_of_getElem? (i := 522) (by decide +kernel), rfl⟩
theorem qF_X6_16 : gW (.fieldLink RX6 16 "FogBridge" "fog" "[I") := ⟨List.mem_of_getElem? (i := 523) (by decide +kernel), rfl⟩
theorem qF_X6_23 : gW (.fieldLink RX6 23 "FogBridge" "bridge" "LFogBridge$Bridge;") := ⟨List.mem_of_getElem? (i := 524) (by decide +kernel), rfl⟩
theorem qF_X6_27 : gW (.fieldLink RX6 27 "FogBridge" "ahead" "LFogBridge$Bridge;") := ⟨List.mem_of_getElem? (i := 525) (by decide +kernel), rfl⟩
theorem qF_X6_30 : gW (.fieldLink RX6 30 "FogBridge" "branch" "LFogBridge$Bridge;") := ⟨List.mem_of_getElem? (i := 526) (by decide +kernel), rfl⟩
theorem qL_L_22 : gW (.methodLink RL 22 yX6_rebuild) := ⟨List.mem_of_getElem? (i := 538) (by decide +kernel), rfl⟩
theorem qI_yX6_rebuild : gW (.instanceMethod yX6_rebuild) := ⟨List.mem_of_getElem? (i := 539) (by decide +kernel), rfl⟩
theorem qS_yX6_rebuild : gW (.selects RX6 yX6_rebuild yX6_rebuild) := ⟨List.mem_of_getElem? (i := 540) (by decide +kernel), rfl⟩
theorem qC_yX6_rebuild : gW (.code yX6_rebuild cX6_rebuild 4 (some .int)) := ⟨List.mem_of_getElem? (i := 541) (by decide +kernel), rfl⟩
theorem qCL_X6_58 : gW (.classLink RX6 58 "java/lang/IllegalStateException") := ⟨List.mem_of_getElem? (i := 543) (by decide +kernel), rfl⟩
theorem qL_L_28 : gW (.methodLink RL 28 yX6_come) := ⟨List.mem_of_getElem? (i := 559) (by decide +kernel), rfl⟩
theorem qI_yX6_come : gW (.instanceMethod yX6_come) := ⟨List.mem_of_getElem? (i := 560) (by decide +kernel), rfl⟩
theorem qS_yX6_come : gW (.selects RX6 yX6_come yX6_come) := ⟨List.mem_of_getElem? (i := 561) (by decide +kernel), rfl⟩
theorem qC_yX6_come : gW (.code yX6_come cX6_come 8 (some .int)) := ⟨List.mem_of_getElem? (i := 562) (by decide +kernel), rfl⟩
theorem qL_X6_141 : gW (.methodLink RX6 141 yX0_newCart) := ⟨List.mem_of_getElem? (i := 564) (by decide +kernel), rfl⟩
theorem qI_yX0_newCart : gW (.instanceMethod yX0_newCart) := ⟨List.mem_of_getElem? (i := 565) (by decide +kernel), rfl⟩
theorem qS_yX0_newCart : gW (.selects RX0 yX0_newCart yX0_newCart) := ⟨List.mem_of_getElem? (i := 566) (by decide +kernel), rfl⟩
theorem qC_yX0_newCart : gW (.code yX0_newCart cX0_newCart 1 (some (.object "FogBridge$Cart"))) := ⟨List.mem_of_getElem? (i := 567) (by decide +kernel), rfl⟩
theorem qL_X6_180 : gW (.methodLink RX6 180 yX5_addLast) := ⟨List.mem_of_getElem? (i := 569) (by decide +kernel), rfl⟩
theorem qCll : gW (.methodLink RL 43 ⟨"[I", "clone", "()Ljava/lang/Object;"⟩) := ⟨List.mem_of_getElem? (i := 570) (by decide +kernel), rfl⟩
theorem qCls : gW (.sameMethod "[I" "java/lang/Object" "clone" "()Ljava/lang/Object;") := ⟨List.mem_of_getElem? (i := 571) (by decide +kernel), rfl⟩
theorem qCln : gW (.native ⟨"java/lang/Object", "clone", "()Ljava/lang/Object;"⟩) := ⟨List.mem_of_getElem? (i := 572) (by decide +kernel), rfl⟩
theorem qCli : gW (.instanceMethod ⟨"java/lang/Object", "clone", "()Ljava/lang/Object;"⟩) := ⟨List.mem_of_getElem? (i := 573) (by decide +kernel), rfl⟩
theorem qClx : gW (.selects "[I" ⟨"[I", "clone", "()Ljava/lang/Object;"⟩ ⟨"java/lang/Object", "clone", "()Ljava/lang/Object;"⟩) := ⟨List.mem_of_getElem? (i := 574) (by decide +kernel), rfl⟩
theorem qCL_L_44 : gW (.classLink RL 44 "[I") := ⟨List.mem_of_getElem? (i := 576) (by decide +kernel), rfl⟩
theorem qCm_min : gW (.code Lib.Math.min.name Lib.Math.min.code 2 (some .int)) := ⟨List.mem_of_getElem? (i := 199) (by decide +kernel), rfl⟩
theorem qTm_min : gW (.static Lib.Math.min.name) := ⟨List.mem_of_getElem? (i := 198) (by decide +kernel), rfl⟩
theorem qCm_max : gW (.code Lib.Math.max.name Lib.Math.max.code 2 (some .int)) := ⟨List.mem_of_getElem? (i := 210) (by decide +kernel), rfl⟩
theorem qTm_max : gW (.static Lib.Math.max.name) := ⟨List.mem_of_getElem? (i := 209) (by decide +kernel), rfl⟩
theorem qNm_math : gW (.initialized "java/lang/Math") := ⟨List.mem_of_getElem? (i := 23) (by decide +kernel), rfl⟩
end
section
theorem dX0_init_0 : decode cX0_init 0 = .ok (.aload_n 0, 1) := by decide +kernel
theorem dX0_init_1 : decode cX0_init 1 = .ok (.invokespecial 3, 3) := by decide +kernel
theorem dX0_init_4 : decode cX0_init 4 = .ok (.aload_n 0, 1) := by decide +kernel
theorem dX0_init_5 : decode cX0_init 5 = .ok (.bipush 10, 2) := by decide +kernel
theorem dX0_init_7 : decode cX0_init 7 = .ok (.putfield 9, 3) := by decide +kernel
theorem dX0_init_10 : decode cX0_init 10 = .ok (.aload_n 0, 1) := by decide +kernel
theorem dX0_init_11 : decode cX0_init 11 = .ok (.sipush 200, 3) := by decide +kernel
theorem dX0_init_14 : decode cX0_init 14 = .ok (.putfield 15, 3) := by decide +kernel
theorem dX0_init_17 : decode cX0_init 17 = .ok (.aload_n 0, 1) := by decide +kernel
theorem dX0_init_18 : decode cX0_init 18 = .ok (.iconst 1, 1) := by decide +kernel
theorem dX0_init_19 : decode cX0_init 19 = .ok (.putfield 18, 3) := by decide +kernel
theorem dX0_init_22 : decode cX0_init 22 = .ok (.aload_n 0, 1) := by decide +kernel
theorem dX0_init_23 : decode cX0_init 23 = .ok (.iconst 1, 1) := by decide +kernel
theorem dX0_init_24 : decode cX0_init 24 = .ok (.putfield 21, 3) := by decide +kernel
theorem dX0_init_27 : decode cX0_init 27 = .ok (.aload_n 0, 1) := by decide +kernel
theorem dX0_init_28 : decode cX0_init 28 = .ok (.bipush 16, 2) := by decide +kernel
theorem dX0_init_30 : decode cX0_init 30 = .ok (.anewarray 24, 3) := by decide +kernel
theorem dX0_init_33 : decode cX0_init 33 = .ok (.putfield 26, 3) := by decide +kernel
theorem dX0_init_36 : decode cX0_init 36 = .ok (.aload_n 0, 1) := by decide +kernel
theorem dX0_init_37 : decode cX0_init 37 = .ok (.new 30, 3) := by decide +kernel
theorem dX0_init_40 : decode cX0_init 40 = .ok (.dup, 1) := by decide +kernel
theorem dX0_init_41 : decode cX0_init 41 = .ok (.invokespecial 32, 3) := by decide +kernel
theorem dX0_init_44 : decode cX0_init 44 = .ok (.putfield 33, 3) := by decide +kernel
theorem dX0_init_47 : decode cX0_init 47 = .ok (.aload_n 0, 1) := by decide +kernel
theorem dX0_init_48 : decode cX0_init 48 = .ok (.new 30, 3) := by decide +kernel
theorem dX0_init_51 : decode cX0_init 51 = .ok (.dup, 1) := by decide +kernel
theorem dX0_init_52 : decode cX0_init 52 = .ok (.invokespecial 32, 3) := by decide +kernel
theorem dX0_init_55 : decode cX0_init 55 = .ok (.putfield 37, 3) := by decide +kernel
theorem dX0_init_58 : decode cX0_init 58 = .ok (.aload_n 0, 1) := by decide +kernel
theorem dX0_init_59 : decode cX0_init 59 = .ok (.new 40, 3) := by decide +kernel
theorem dX0_init_62 : decode cX0_init 62 = .ok (.dup, 1) := by decide +kernel
theorem dX0_init_63 : decode cX0_init 63 = .ok (.invokespecial 42, 3) := by decide +kernel
theorem dX0_init_66 : decode cX0_init 66 = .ok (.putfield 43, 3) := by decide +kernel
theorem dX0_init_69 : decode cX0_init 69 = .ok (.iconst 0, 1) := by decide +kernel
theorem dX0_init_70 : decode cX0_init 70 = .ok (.istore_n 1, 1) := by decide +kernel
theorem dX0_init_71 : decode cX0_init 71 = .ok (.iload_n 1, 1) := by decide +kernel
theorem dX0_init_72 : decode cX0_init 72 = .ok (.aload_n 0, 1) := by decide +kernel
theorem dX0_init_73 : decode cX0_init 73 = .ok (.getfield 26, 3) := by decide +kernel
theorem dX0_init_76 : decode cX0_init 76 = .ok (.arraylength, 1) := by decide +kernel
theorem dX0_init_77 : decode cX0_init 77 = .ok (.if_icmp .ge 23, 3) := by decide +kernel
theorem dX0_init_80 : decode cX0_init 80 = .ok (.aload_n 0, 1) := by decide +kernel
theorem dX0_init_81 : decode cX0_init 81 = .ok (.getfield 26, 3) := by decide +kernel
theorem dX0_init_84 : decode cX0_init 84 = .ok (.iload_n 1, 1) := by decide +kernel
theorem dX0_init_85 : decode cX0_init 85 = .ok (.new 24, 3) := by decide +kernel
theorem dX0_init_88 : decode cX0_init 88 = .ok (.dup, 1) := by decide +kernel
theorem dX0_init_89 : decode cX0_init 89 = .ok (.iload_n 1, 1) := by decide +kernel
theorem dX0_init_90 : decode cX0_init 90 = .ok (.invokespecial 47, 3) := by decide +kernel
theorem dX0_init_93 : decode cX0_init 93 = .ok (.aastore, 1) := by decide +kernel
theorem dX0_init_94 : decode cX0_init 94 = .ok (.iinc 1 1, 3) := by decide +kernel
theorem dX0_init_97 : decode cX0_init 97 = .ok (.goto (-26), 3) := by decide +kernel
theorem dX0_init_100 : decode cX0_init 100 = .ok (.return_, 1) := by decide +kernel
theorem dX0_gateAt_0 : decode cX0_gateAt 0 = .ok (.iload_n 1, 1) := by decide +kernel
theorem dX0_gateAt_1 : decode cX0_gateAt 1 = .ok (.ifCond .ne 10, 3) := by decide +kernel
theorem dX0_gateAt_4 : decode cX0_gateAt 4 = .ok (.aload_n 0, 1) := by decide +kernel
theorem dX0_gateAt_5 : decode cX0_gateAt 5 = .ok (.getfield 33, 3) := by decide +kernel
theorem dX0_gateAt_8 : decode cX0_gateAt 8 = .ok (.goto 7, 3) := by decide +kernel
theorem dX0_gateAt_11 : decode cX0_gateAt 11 = .ok (.aload_n 0, 1) := by decide +kernel
theorem dX0_gateAt_12 : decode cX0_gateAt 12 = .ok (.getfield 37, 3) := by decide +kernel
theorem dX0_gateAt_15 : decode cX0_gateAt 15 = .ok (.areturn, 1) := by decide +kernel
theorem dX0_cartAt_0 : decode cX0_cartAt 0 = .ok (.iload_n 1, 1) := by decide +kernel
theorem dX0_cartAt_1 : decode cX0_cartAt 1 = .ok (.aload_n 0, 1) := by decide +kernel
theorem dX0_cartAt_2 : decode cX0_cartAt 2 = .ok (.getfield 50, 3) := by decide +kernel
theorem dX0_cartAt_5 : decode cX0_cartAt 5 = .ok (.if_icmp .ge 24, 3) := by decide +kernel
theorem dX0_cartAt_8 : decode cX0_cartAt 8 = .ok (.iload_n 1, 1) := by decide +kernel
theorem dX0_cartAt_9 : decode cX0_cartAt 9 = .ok (.aload_n 0, 1) := by decide +kernel
theorem dX0_cartAt_10 : decode cX0_cartAt 10 = .ok (.getfield 26, 3) := by decide +kernel
theorem dX0_cartAt_13 : decode cX0_cartAt 13 = .ok (.arraylength, 1) := by decide +kernel
theorem dX0_cartAt_14 : decode cX0_cartAt 14 = .ok (.invokestatic 53, 3) := by decide +kernel
theorem dX0_cartAt_17 : decode cX0_cartAt 17 = .ok (.ifCond .eq 12, 3) := by decide +kernel
theorem dX0_cartAt_20 : decode cX0_cartAt 20 = .ok (.aload_n 0, 1) := by decide +kernel
theorem dX0_cartAt_21 : decode cX0_cartAt 21 = .ok (.getfield 26, 3) := by decide +kernel
theorem dX0_cartAt_24 : decode cX0_cartAt 24 = .ok (.iload_n 1, 1) := by decide +kernel
theorem dX0_cartAt_25 : decode cX0_cartAt 25 = .ok (.aaload, 1) := by decide +kernel
theorem dX0_cartAt_26 : decode cX0_cartAt 26 = .ok (.goto 4, 3) := by decide +kernel
theorem dX0_cartAt_29 : decode cX0_cartAt 29 = .ok (.aconst_null, 1) := by decide +kernel
theorem dX0_cartAt_30 : decode cX0_cartAt 30 = .ok (.areturn, 1) := by decide +kernel
theorem dX0_newCart_0 : decode cX0_newCart 0 = .ok (.aload_n 0, 1) := by decide +kernel
theorem dX0_newCart_1 : decode cX0_newCart 1 = .ok (.getfield 50, 3) := by decide +kernel
theorem dX0_newCart_4 : decode cX0_newCart 4 = .ok (.aload_n 0, 1) := by decide +kernel
theorem dX0_newCart_5 : decode cX0_newCart 5 = .ok (.getfield 26, 3) := by decide +kernel
theorem dX0_newCart_8 : decode cX0_newCart 8 = .ok (.arraylength, 1) := by decide +kernel
theorem dX0_newCart_9 : decode cX0_newCart 9 = .ok (.if_icmp .lt 5, 3) := by decide +kernel
theorem dX0_newCart_12 : decode cX0_newCart 12 = .ok (.aconst_null, 1) := by decide +kernel
theorem dX0_newCart_13 : decode cX0_newCart 13 = .ok (.areturn, 1) := by decide +kernel
theorem dX0_newCart_14 : decode cX0_newCart 14 = .ok (.aload_n 0, 1) := by decide +kernel
theorem dX0_newCart_15 : decode cX0_newCart 15 = .ok (.dup, 1) := by decide +kernel
theorem dX0_newCart_16 : decode cX0_newCart 16 = .ok (.getfield 50, 3) := by decide +kernel
theorem dX0_newCart_19 : decode cX0_newCart 19 = .ok (.iconst 1, 1) := by decide +kernel
theorem dX0_newCart_20 : decode cX0_newCart 20 = .ok (.iadd, 1) := by decide +kernel
theorem dX0_newCart_21 : decode cX0_newCart 21 = .ok (.putfield 50, 3) := by decide +kernel
theorem dX0_newCart_24 : decode cX0_newCart 24 = .ok (.aload_n 0, 1) := by decide +kernel
theorem dX0_newCart_25 : decode cX0_newCart 25 = .ok (.aload_n 0, 1) := by decide +kernel
theorem dX0_newCart_26 : decode cX0_newCart 26 = .ok (.getfield 50, 3) := by decide +kernel
theorem dX0_newCart_29 : decode cX0_newCart 29 = .ok (.iconst 1, 1) := by decide +kernel
theorem dX0_newCart_30 : decode cX0_newCart 30 = .ok (.isub, 1) := by decide +kernel
theorem dX0_newCart_31 : decode cX0_newCart 31 = .ok (.invokevirtual 57, 3) := by decide +kernel
theorem dX0_newCart_34 : decode cX0_newCart 34 = .ok (.areturn, 1) := by decide +kernel
theorem dX0_turn_0 : decode cX0_turn 0 = .ok (.aload_n 0, 1) := by decide +kernel
theorem dX0_turn_1 : decode cX0_turn 1 = .ok (.iconst 1, 1) := by decide +kernel
theorem dX0_turn_2 : decode cX0_turn 2 = .ok (.aload_n 0, 1) := by decide +kernel
theorem dX0_turn_3 : decode cX0_turn 3 = .ok (.getfield 61, 3) := by decide +kernel
theorem dX0_turn_6 : decode cX0_turn 6 = .ok (.isub, 1) := by decide +kernel
theorem dX0_turn_7 : decode cX0_turn 7 = .ok (.putfield 61, 3) := by decide +kernel
theorem dX0_turn_10 : decode cX0_turn 10 = .ok (.return_, 1) := by decide +kernel
theorem dX0_run_0 : decode cX0_run 0 = .ok (.iconst 0, 1) := by decide +kernel
theorem dX0_run_1 : decode cX0_run 1 = .ok (.istore_n 2, 1) := by decide +kernel
theorem dX0_run_2 : decode cX0_run 2 = .ok (.iconst 0, 1) := by decide +kernel
theorem dX0_run_3 : decode cX0_run 3 = .ok (.istore_n 3, 1) := by decide +kernel
theorem dX0_run_4 : decode cX0_run 4 = .ok (.iload_n 3, 1) := by decide +kernel
theorem dX0_run_5 : decode cX0_run 5 = .ok (.iload_n 1, 1) := by decide +kernel
theorem dX0_run_6 : decode cX0_run 6 = .ok (.if_icmp .ge 30, 3) := by decide +kernel
theorem dX0_run_9 : decode cX0_run 9 = .ok (.iload_n 2, 1) := by decide +kernel
theorem dX0_run_10 : decode cX0_run 10 = .ok (.aload_n 0, 1) := by decide +kernel
theorem dX0_run_11 : decode cX0_run 11 = .ok (.invokevirtual 64, 3) := by decide +kernel
theorem dX0_run_14 : decode cX0_run 14 = .ok (.iadd, 1) := by decide +kernel
theorem dX0_run_15 : decode cX0_run 15 = .ok (.istore_n 2, 1) := by decide +kernel
theorem dX0_run_16 : decode cX0_run 16 = .ok (.aload_n 0, 1) := by decide +kernel
theorem dX0_run_17 : decode cX0_run 17 = .ok (.invokevirtual 68, 3) := by decide +kernel
theorem dX0_run_20 : decode cX0_run 20 = .ok (.aload_n 0, 1) := by decide +kernel
theorem dX0_run_21 : decode cX0_run 21 = .ok (.dup, 1) := by decide +kernel
theorem dX0_run_22 : decode cX0_run 22 = .ok (.getfield 71, 3) := by decide +kernel
theorem dX0_run_25 : decode cX0_run 25 = .ok (.iconst 1, 1) := by decide +kernel
theorem dX0_run_26 : decode cX0_run 26 = .ok (.iadd, 1) := by decide +kernel
theorem dX0_run_27 : decode cX0_run 27 = .ok (.putfield 71, 3) := by decide +kernel
theorem dX0_run_30 : decode cX0_run 30 = .ok (.iinc 3 1, 3) := by decide +kernel
theorem dX0_run_33 : decode cX0_run 33 = .ok (.goto (-29), 3) := by decide +kernel
theorem dX0_run_36 : decode cX0_run 36 = .ok (.iload_n 2, 1) := by decide +kernel
theorem dX0_run_37 : decode cX0_run 37 = .ok (.ireturn, 1) := by decide +kernel
theorem dX0_isOver_0 : decode cX0_isOver 0 = .ok (.aload_n 0, 1) := by decide +kernel
theorem dX0_isOver_1 : decode cX0_isOver 1 = .ok (.iload_n 1, 1) := by decide +kernel
theorem dX0_isOver_2 : decode cX0_isOver 2 = .ok (.invokevirtual 57, 3) := by decide +kernel
theorem dX0_isOver_5 : decode cX0_isOver 5 = .ok (.astore_n 2, 1) := by decide +kernel
theorem dX0_isOver_6 : decode cX0_isOver 6 = .ok (.aload_n 2, 1) := by decide +kernel
theorem dX0_isOver_7 : decode cX0_isOver 7 = .ok (.ifnull 15, 3) := by decide +kernel
theorem dX0_isOver_10 : decode cX0_isOver 10 = .ok (.aload_n 2, 1) := by decide +kernel
theorem dX0_isOver_11 : decode cX0_isOver 11 = .ok (.getfield 74, 3) := by decide +kernel
theorem dX0_isOver_14 : decode cX0_isOver 14 = .ok (.iconst 2, 1) := by decide +kernel
theorem dX0_isOver_15 : decode cX0_isOver 15 = .ok (.if_icmp .ne 7, 3) := by decide +kernel
theorem dX0_isOver_18 : decode cX0_isOver 18 = .ok (.iconst 1, 1) := by decide +kernel
theorem dX0_isOver_19 : decode cX0_isOver 19 = .ok (.goto 4, 3) := by decide +kernel
theorem dX0_isOver_22 : decode cX0_isOver 22 = .ok (.iconst 0, 1) := by decide +kernel
theorem dX0_isOver_23 : decode cX0_isOver 23 = .ok (.ireturn, 1) := by decide +kernel
theorem dX0_coinsInBoxes_0 : decode cX0_coinsInBoxes 0 = .ok (.aload_n 0, 1) := by decide +kernel
theorem dX0_coinsInBoxes_1 : decode cX0_coinsInBoxes 1 = .ok (.getfield 33, 3) := by decide +kernel
theorem dX0_coinsInBoxes_4 : decode cX0_coinsInBoxes 4 = .ok (.getfield 77, 3) := by decide +kernel
theorem dX0_coinsInBoxes_7 : decode cX0_coinsInBoxes 7 = .ok (.aload_n 0, 1) := by decide +kernel
theorem dX0_coinsInBoxes_8 : decode cX0_coinsInBoxes 8 = .ok (.getfield 37, 3) := by decide +kernel
theorem dX0_coinsInBoxes_11 : decode cX0_coinsInBoxes 11 = .ok (.getfield 77, 3) := by decide +kernel
theorem dX0_coinsInBoxes_14 : decode cX0_coinsInBoxes 14 = .ok (.iadd, 1) := by decide +kernel
theorem dX0_coinsInBoxes_15 : decode cX0_coinsInBoxes 15 = .ok (.ireturn, 1) := by decide +kernel
theorem dX0_cartsIn_0 : decode cX0_cartsIn 0 = .ok (.iconst 0, 1) := by decide +kernel
theorem dX0_cartsIn_1 : decode cX0_cartsIn 1 = .ok (.istore_n 2, 1) := by decide +kernel
theorem dX0_cartsIn_2 : decode cX0_cartsIn 2 = .ok (.iconst 0, 1) := by decide +kernel
theorem dX0_cartsIn_3 : decode cX0_cartsIn 3 = .ok (.istore_n 3, 1) := by decide +kernel
theorem dX0_cartsIn_4 : decode cX0_cartsIn 4 = .ok (.iload_n 3, 1) := by decide +kernel
theorem dX0_cartsIn_5 : decode cX0_cartsIn 5 = .ok (.aload_n 0, 1) := by decide +kernel
theorem dX0_cartsIn_6 : decode cX0_cartsIn 6 = .ok (.getfield 50, 3) := by decide +kernel
theorem dX0_cartsIn_9 : decode cX0_cartsIn 9 = .ok (.if_icmp .ge 33, 3) := by decide +kernel
theorem dX0_cartsIn_12 : decode cX0_cartsIn 12 = .ok (.aload_n 0, 1) := by decide +kernel
theorem dX0_cartsIn_13 : decode cX0_cartsIn 13 = .ok (.iload_n 3, 1) := by decide +kernel
theorem dX0_cartsIn_14 : decode cX0_cartsIn 14 = .ok (.invokevirtual 57, 3) := by decide +kernel
theorem dX0_cartsIn_17 : decode cX0_cartsIn 17 = .ok (.astore 4, 2) := by decide +kernel
theorem dX0_cartsIn_19 : decode cX0_cartsIn 19 = .ok (.aload 4, 2) := by decide +kernel
theorem dX0_cartsIn_21 : decode cX0_cartsIn 21 = .ok (.ifnull 15, 3) := by decide +kernel
theorem dX0_cartsIn_24 : decode cX0_cartsIn 24 = .ok (.aload 4, 2) := by decide +kernel
theorem dX0_cartsIn_26 : decode cX0_cartsIn 26 = .ok (.getfield 74, 3) := by decide +kernel
theorem dX0_cartsIn_29 : decode cX0_cartsIn 29 = .ok (.iload_n 1, 1) := by decide +kernel
theorem dX0_cartsIn_30 : decode cX0_cartsIn 30 = .ok (.if_icmp .ne 6, 3) := by decide +kernel
theorem dX0_cartsIn_33 : decode cX0_cartsIn 33 = .ok (.iinc 2 1, 3) := by decide +kernel
theorem dX0_cartsIn_36 : decode cX0_cartsIn 36 = .ok (.iinc 3 1, 3) := by decide +kernel
theorem dX0_cartsIn_39 : decode cX0_cartsIn 39 = .ok (.goto (-35), 3) := by decide +kernel
theorem dX0_cartsIn_42 : decode cX0_cartsIn 42 = .ok (.iload_n 2, 1) := by decide +kernel
theorem dX0_cartsIn_43 : decode cX0_cartsIn 43 = .ok (.ireturn, 1) := by decide +kernel
theorem dX0_weightOnBridge_0 : decode cX0_weightOnBridge 0 = .ok (.iconst 0, 1) := by decide +kernel
theorem dX0_weightOnBridge_1 : decode cX0_weightOnBridge 1 = .ok (.istore_n 1, 1) := by decide +kernel
theorem dX0_weightOnBridge_2 : decode cX0_weightOnBridge 2 = .ok (.iconst 0, 1) := by decide +kernel
theorem dX0_weightOnBridge_3 : decode cX0_weightOnBridge 3 = .ok (.istore_n 2, 1) := by decide +kernel
theorem dX0_weightOnBridge_4 : decode cX0_weightOnBridge 4 = .ok (.iload_n 2, 1) := by decide +kernel
theorem dX0_weightOnBridge_5 : decode cX0_weightOnBridge 5 = .ok (.aload_n 0, 1) := by decide +kernel
theorem dX0_weightOnBridge_6 : decode cX0_weightOnBridge 6 = .ok (.getfield 43, 3) := by decide +kernel
theorem dX0_weightOnBridge_9 : decode cX0_weightOnBridge 9 = .ok (.getfield 80, 3) := by decide +kernel
theorem dX0_weightOnBridge_12 : decode cX0_weightOnBridge 12 = .ok (.if_icmp .ge 33, 3) := by decide +kernel
theorem dX0_weightOnBridge_15 : decode cX0_weightOnBridge 15 = .ok (.aload_n 0, 1) := by decide +kernel
theorem dX0_weightOnBridge_16 : decode cX0_weightOnBridge 16 = .ok (.aload_n 0, 1) := by decide +kernel
theorem dX0_weightOnBridge_17 : decode cX0_weightOnBridge 17 = .ok (.getfield 43, 3) := by decide +kernel
theorem dX0_weightOnBridge_20 : decode cX0_weightOnBridge 20 = .ok (.iload_n 2, 1) := by decide +kernel
theorem dX0_weightOnBridge_21 : decode cX0_weightOnBridge 21 = .ok (.invokevirtual 83, 3) := by decide +kernel
theorem dX0_weightOnBridge_24 : decode cX0_weightOnBridge 24 = .ok (.invokevirtual 57, 3) := by decide +kernel
theorem dX0_weightOnBridge_27 : decode cX0_weightOnBridge 27 = .ok (.astore_n 3, 1) := by decide +kernel
theorem dX0_weightOnBridge_28 : decode cX0_weightOnBridge 28 = .ok (.aload_n 3, 1) := by decide +kernel
theorem dX0_weightOnBridge_29 : decode cX0_weightOnBridge 29 = .ok (.ifnull 10, 3) := by decide +kernel
theorem dX0_weightOnBridge_32 : decode cX0_weightOnBridge 32 = .ok (.iload_n 1, 1) := by decide +kernel
theorem dX0_weightOnBridge_33 : decode cX0_weightOnBridge 33 = .ok (.aload_n 3, 1) := by decide +kernel
theorem dX0_weightOnBridge_34 : decode cX0_weightOnBridge 34 = .ok (.getfield 87, 3) := by decide +kernel
theorem dX0_weightOnBridge_37 : decode cX0_weightOnBridge 37 = .ok (.iadd, 1) := by decide +kernel
theorem dX0_weightOnBridge_38 : decode cX0_weightOnBridge 38 = .ok (.istore_n 1, 1) := by decide +kernel
theorem dX0_weightOnBridge_39 : decode cX0_weightOnBridge 39 = .ok (.iinc 2 1, 3) := by decide +kernel
theorem dX0_weightOnBridge_42 : decode cX0_weightOnBridge 42 = .ok (.goto (-38), 3) := by decide +kernel
theorem dX0_weightOnBridge_45 : decode cX0_weightOnBridge 45 = .ok (.iload_n 1, 1) := by decide +kernel
theorem dX0_weightOnBridge_46 : decode cX0_weightOnBridge 46 = .ok (.ireturn, 1) := by decide +kernel
theorem dX0_tellCart_0 : decode cX0_tellCart 0 = .ok (.iload_n 2, 1) := by decide +kernel
theorem dX0_tellCart_1 : decode cX0_tellCart 1 = .ok (.tableswitch 96 0 7 #[47, 52, 57, 62, 67, 72, 77, 83], 47) := by decide +kernel
theorem dX0_tellCart_48 : decode cX0_tellCart 48 = .ok (.aload_n 1, 1) := by decide +kernel
theorem dX0_tellCart_49 : decode cX0_tellCart 49 = .ok (.getfield 93, 3) := by decide +kernel
theorem dX0_tellCart_52 : decode cX0_tellCart 52 = .ok (.ireturn, 1) := by decide +kernel
theorem dX0_tellCart_53 : decode cX0_tellCart 53 = .ok (.aload_n 1, 1) := by decide +kernel
theorem dX0_tellCart_54 : decode cX0_tellCart 54 = .ok (.getfield 87, 3) := by decide +kernel
theorem dX0_tellCart_57 : decode cX0_tellCart 57 = .ok (.ireturn, 1) := by decide +kernel
theorem dX0_tellCart_58 : decode cX0_tellCart 58 = .ok (.aload_n 1, 1) := by decide +kernel
theorem dX0_tellCart_59 : decode cX0_tellCart 59 = .ok (.getfield 96, 3) := by decide +kernel
theorem dX0_tellCart_62 : decode cX0_tellCart 62 = .ok (.ireturn, 1) := by decide +kernel
theorem dX0_tellCart_63 : decode cX0_tellCart 63 = .ok (.aload_n 1, 1) := by decide +kernel
theorem dX0_tellCart_64 : decode cX0_tellCart 64 = .ok (.getfield 99, 3) := by decide +kernel
theorem dX0_tellCart_67 : decode cX0_tellCart 67 = .ok (.ireturn, 1) := by decide +kernel
theorem dX0_tellCart_68 : decode cX0_tellCart 68 = .ok (.aload_n 1, 1) := by decide +kernel
theorem dX0_tellCart_69 : decode cX0_tellCart 69 = .ok (.getfield 100, 3) := by decide +kernel
theorem dX0_tellCart_72 : decode cX0_tellCart 72 = .ok (.ireturn, 1) := by decide +kernel
theorem dX0_tellCart_73 : decode cX0_tellCart 73 = .ok (.aload_n 1, 1) := by decide +kernel
theorem dX0_tellCart_74 : decode cX0_tellCart 74 = .ok (.getfield 74, 3) := by decide +kernel
theorem dX0_tellCart_77 : decode cX0_tellCart 77 = .ok (.ireturn, 1) := by decide +kernel
theorem dX0_tellCart_78 : decode cX0_tellCart 78 = .ok (.aload_n 0, 1) := by decide +kernel
theorem dX0_tellCart_79 : decode cX0_tellCart 79 = .ok (.aload_n 1, 1) := by decide +kernel
theorem dX0_tellCart_80 : decode cX0_tellCart 80 = .ok (.invokevirtual 103, 3) := by decide +kernel
theorem dX0_tellCart_83 : decode cX0_tellCart 83 = .ok (.ireturn, 1) := by decide +kernel
theorem dX0_tellCart_84 : decode cX0_tellCart 84 = .ok (.aload_n 0, 1) := by decide +kernel
theorem dX0_tellCart_85 : decode cX0_tellCart 85 = .ok (.aload_n 1, 1) := by decide +kernel
theorem dX0_tellCart_86 : decode cX0_tellCart 86 = .ok (.getfield 93, 3) := by decide +kernel
theorem dX0_tellCart_89 : decode cX0_tellCart 89 = .ok (.aload_n 1, 1) := by decide +kernel
theorem dX0_tellCart_90 : decode cX0_tellCart 90 = .ok (.getfield 87, 3) := by decide +kernel
theorem dX0_tellCart_93 : decode cX0_tellCart 93 = .ok (.invokevirtual 107, 3) := by decide +kernel
theorem dX0_tellCart_96 : decode cX0_tellCart 96 = .ok (.ireturn, 1) := by decide +kernel
theorem dX0_tellCart_97 : decode cX0_tellCart 97 = .ok (.aload_n 1, 1) := by decide +kernel
theorem dX0_tellCart_98 : decode cX0_tellCart 98 = .ok (.getfield 90, 3) := by decide +kernel
theorem dX0_tellCart_101 : decode cX0_tellCart 101 = .ok (.ireturn, 1) := by decide +kernel
theorem dX0_mixedInto_0 : decode cX0_mixedInto 0 = .ok (.aload_n 0, 1) := by decide +kernel
theorem dX0_mixedInto_1 : decode cX0_mixedInto 1 = .ok (.getfield 37, 3) := by decide +kernel
theorem dX0_mixedInto_4 : decode cX0_mixedInto 4 = .ok (.aload_n 0, 1) := by decide +kernel
theorem dX0_mixedInto_5 : decode cX0_mixedInto 5 = .ok (.getfield 33, 3) := by decide +kernel
theorem dX0_mixedInto_8 : decode cX0_mixedInto 8 = .ok (.lload_n 1, 1) := by decide +kernel
theorem dX0_mixedInto_9 : decode cX0_mixedInto 9 = .ok (.invokevirtual 111, 3) := by decide +kernel
theorem dX0_mixedInto_12 : decode cX0_mixedInto 12 = .ok (.invokevirtual 111, 3) := by decide +kernel
theorem dX0_mixedInto_15 : decode cX0_mixedInto 15 = .ok (.lstore_n 3, 1) := by decide +kernel
theorem dX0_mixedInto_16 : decode cX0_mixedInto 16 = .ok (.iconst 0, 1) := by decide +kernel
theorem dX0_mixedInto_17 : decode cX0_mixedInto 17 = .ok (.istore 5, 2) := by decide +kernel
theorem dX0_mixedInto_19 : decode cX0_mixedInto 19 = .ok (.iload 5, 2) := by decide +kernel
theorem dX0_mixedInto_21 : decode cX0_mixedInto 21 = .ok (.aload_n 0, 1) := by decide +kernel
theorem dX0_mixedInto_22 : decode cX0_mixedInto 22 = .ok (.getfield 50, 3) := by decide +kernel
theorem dX0_mixedInto_25 : decode cX0_mixedInto 25 = .ok (.if_icmp .ge 51, 3) := by decide +kernel
theorem dX0_mixedInto_28 : decode cX0_mixedInto 28 = .ok (.aload_n 0, 1) := by decide +kernel
theorem dX0_mixedInto_29 : decode cX0_mixedInto 29 = .ok (.iload 5, 2) := by decide +kernel
theorem dX0_mixedInto_31 : decode cX0_mixedInto 31 = .ok (.invokevirtual 57, 3) := by decide +kernel
theorem dX0_mixedInto_34 : decode cX0_mixedInto 34 = .ok (.astore 6, 2) := by decide +kernel
theorem dX0_mixedInto_36 : decode cX0_mixedInto 36 = .ok (.iconst 0, 1) := by decide +kernel
theorem dX0_mixedInto_37 : decode cX0_mixedInto 37 = .ok (.istore 7, 2) := by decide +kernel
theorem dX0_mixedInto_39 : decode cX0_mixedInto 39 = .ok (.aload 6, 2) := by decide +kernel
theorem dX0_mixedInto_41 : decode cX0_mixedInto 41 = .ok (.ifnull 29, 3) := by decide +kernel
theorem dX0_mixedInto_44 : decode cX0_mixedInto 44 = .ok (.iload 7, 2) := by decide +kernel
theorem dX0_mixedInto_46 : decode cX0_mixedInto 46 = .ok (.bipush 9, 2) := by decide +kernel
theorem dX0_mixedInto_48 : decode cX0_mixedInto 48 = .ok (.if_icmp .ge 22, 3) := by decide +kernel
theorem dX0_mixedInto_51 : decode cX0_mixedInto 51 = .ok (.lload_n 3, 1) := by decide +kernel
theorem dX0_mixedInto_52 : decode cX0_mixedInto 52 = .ok (.aload_n 0, 1) := by decide +kernel
theorem dX0_mixedInto_53 : decode cX0_mixedInto 53 = .ok (.aload 6, 2) := by decide +kernel
theorem dX0_mixedInto_55 : decode cX0_mixedInto 55 = .ok (.iload 7, 2) := by decide +kernel
theorem dX0_mixedInto_57 : decode cX0_mixedInto 57 = .ok (.invokevirtual 115, 3) := by decide +kernel
theorem dX0_mixedInto_60 : decode cX0_mixedInto 60 = .ok (.invokestatic 119, 3) := by decide +kernel
theorem dX0_mixedInto_63 : decode cX0_mixedInto 63 = .ok (.lstore_n 3, 1) := by decide +kernel
theorem dX0_mixedInto_64 : decode cX0_mixedInto 64 = .ok (.iinc 7 1, 3) := by decide +kernel
theorem dX0_mixedInto_67 : decode cX0_mixedInto 67 = .ok (.goto (-28), 3) := by decide +kernel
theorem dX0_mixedInto_70 : decode cX0_mixedInto 70 = .ok (.iinc 5 1, 3) := by decide +kernel
theorem dX0_mixedInto_73 : decode cX0_mixedInto 73 = .ok (.goto (-54), 3) := by decide +kernel
theorem dX0_mixedInto_76 : decode cX0_mixedInto 76 = .ok (.lload_n 3, 1) := by decide +kernel
theorem dX0_mixedInto_77 : decode cX0_mixedInto 77 = .ok (.lreturn, 1) := by decide +kernel
theorem dX0_copyFrom_0 : decode cX0_copyFrom 0 = .ok (.aload_n 0, 1) := by decide +kernel
theorem dX0_copyFrom_1 : decode cX0_copyFrom 1 = .ok (.aload_n 1, 1) := by decide +kernel
theorem dX0_copyFrom_2 : decode cX0_copyFrom 2 = .ok (.getfield 71, 3) := by decide +kernel
theorem dX0_copyFrom_5 : decode cX0_copyFrom 5 = .ok (.putfield 71, 3) := by decide +kernel
theorem dX0_copyFrom_8 : decode cX0_copyFrom 8 = .ok (.aload_n 0, 1) := by decide +kernel
theorem dX0_copyFrom_9 : decode cX0_copyFrom 9 = .ok (.aload_n 1, 1) := by decide +kernel
theorem dX0_copyFrom_10 : decode cX0_copyFrom 10 = .ok (.getfield 61, 3) := by decide +kernel
theorem dX0_copyFrom_13 : decode cX0_copyFrom 13 = .ok (.putfield 61, 3) := by decide +kernel
theorem dX0_copyFrom_16 : decode cX0_copyFrom 16 = .ok (.aload_n 0, 1) := by decide +kernel
theorem dX0_copyFrom_17 : decode cX0_copyFrom 17 = .ok (.aload_n 1, 1) := by decide +kernel
theorem dX0_copyFrom_18 : decode cX0_copyFrom 18 = .ok (.getfield 9, 3) := by decide +kernel
theorem dX0_copyFrom_21 : decode cX0_copyFrom 21 = .ok (.putfield 9, 3) := by decide +kernel
theorem dX0_copyFrom_24 : decode cX0_copyFrom 24 = .ok (.aload_n 0, 1) := by decide +kernel
theorem dX0_copyFrom_25 : decode cX0_copyFrom 25 = .ok (.aload_n 1, 1) := by decide +kernel
theorem dX0_copyFrom_26 : decode cX0_copyFrom 26 = .ok (.getfield 15, 3) := by decide +kernel
theorem dX0_copyFrom_29 : decode cX0_copyFrom 29 = .ok (.putfield 15, 3) := by decide +kernel
theorem dX0_copyFrom_32 : decode cX0_copyFrom 32 = .ok (.aload_n 0, 1) := by decide +kernel
theorem dX0_copyFrom_33 : decode cX0_copyFrom 33 = .ok (.aload_n 1, 1) := by decide +kernel
theorem dX0_copyFrom_34 : decode cX0_copyFrom 34 = .ok (.getfield 18, 3) := by decide +kernel
theorem dX0_copyFrom_37 : decode cX0_copyFrom 37 = .ok (.putfield 18, 3) := by decide +kernel
theorem dX0_copyFrom_40 : decode cX0_copyFrom 40 = .ok (.aload_n 0, 1) := by decide +kernel
theorem dX0_copyFrom_41 : decode cX0_copyFrom 41 = .ok (.aload_n 1, 1) := by decide +kernel
theorem dX0_copyFrom_42 : decode cX0_copyFrom 42 = .ok (.getfield 21, 3) := by decide +kernel
theorem dX0_copyFrom_45 : decode cX0_copyFrom 45 = .ok (.putfield 21, 3) := by decide +kernel
theorem dX0_copyFrom_48 : decode cX0_copyFrom 48 = .ok (.aload_n 0, 1) := by decide +kernel
theorem dX0_copyFrom_49 : decode cX0_copyFrom 49 = .ok (.aload_n 1, 1) := by decide +kernel
theorem dX0_copyFrom_50 : decode cX0_copyFrom 50 = .ok (.getfield 50, 3) := by decide +kernel
theorem dX0_copyFrom_53 : decode cX0_copyFrom 53 = .ok (.putfield 50, 3) := by decide +kernel
theorem dX0_copyFrom_56 : decode cX0_copyFrom 56 = .ok (.iconst 0, 1) := by decide +kernel
theorem dX0_copyFrom_57 : decode cX0_copyFrom 57 = .ok (.istore_n 2, 1) := by decide +kernel
theorem dX0_copyFrom_58 : decode cX0_copyFrom 58 = .ok (.iload_n 2, 1) := by decide +kernel
theorem dX0_copyFrom_59 : decode cX0_copyFrom 59 = .ok (.aload_n 0, 1) := by decide +kernel
theorem dX0_copyFrom_60 : decode cX0_copyFrom 60 = .ok (.getfield 50, 3) := by decide +kernel
theorem dX0_copyFrom_63 : decode cX0_copyFrom 63 = .ok (.if_icmp .ge 37, 3) := by decide +kernel
theorem dX0_copyFrom_66 : decode cX0_copyFrom 66 = .ok (.aload_n 0, 1) := by decide +kernel
theorem dX0_copyFrom_67 : decode cX0_copyFrom 67 = .ok (.iload_n 2, 1) := by decide +kernel
theorem dX0_copyFrom_68 : decode cX0_copyFrom 68 = .ok (.invokevirtual 57, 3) := by decide +kernel
theorem dX0_copyFrom_71 : decode cX0_copyFrom 71 = .ok (.astore_n 3, 1) := by decide +kernel
theorem dX0_copyFrom_72 : decode cX0_copyFrom 72 = .ok (.aload_n 1, 1) := by decide +kernel
theorem dX0_copyFrom_73 : decode cX0_copyFrom 73 = .ok (.iload_n 2, 1) := by decide +kernel
theorem dX0_copyFrom_74 : decode cX0_copyFrom 74 = .ok (.invokevirtual 57, 3) := by decide +kernel
theorem dX0_copyFrom_77 : decode cX0_copyFrom 77 = .ok (.astore 4, 2) := by decide +kernel
theorem dX0_copyFrom_79 : decode cX0_copyFrom 79 = .ok (.aload_n 3, 1) := by decide +kernel
theorem dX0_copyFrom_80 : decode cX0_copyFrom 80 = .ok (.ifnull 14, 3) := by decide +kernel
theorem dX0_copyFrom_83 : decode cX0_copyFrom 83 = .ok (.aload 4, 2) := by decide +kernel
theorem dX0_copyFrom_85 : decode cX0_copyFrom 85 = .ok (.ifnull 9, 3) := by decide +kernel
theorem dX0_copyFrom_88 : decode cX0_copyFrom 88 = .ok (.aload_n 3, 1) := by decide +kernel
theorem dX0_copyFrom_89 : decode cX0_copyFrom 89 = .ok (.aload 4, 2) := by decide +kernel
theorem dX0_copyFrom_91 : decode cX0_copyFrom 91 = .ok (.invokevirtual 123, 3) := by decide +kernel
theorem dX0_copyFrom_94 : decode cX0_copyFrom 94 = .ok (.iinc 2 1, 3) := by decide +kernel
theorem dX0_copyFrom_97 : decode cX0_copyFrom 97 = .ok (.goto (-39), 3) := by decide +kernel
theorem dX0_copyFrom_100 : decode cX0_copyFrom 100 = .ok (.aload_n 0, 1) := by decide +kernel
theorem dX0_copyFrom_101 : decode cX0_copyFrom 101 = .ok (.getfield 33, 3) := by decide +kernel
theorem dX0_copyFrom_104 : decode cX0_copyFrom 104 = .ok (.aload_n 1, 1) := by decide +kernel
theorem dX0_copyFrom_105 : decode cX0_copyFrom 105 = .ok (.getfield 33, 3) := by decide +kernel
theorem dX0_copyFrom_108 : decode cX0_copyFrom 108 = .ok (.invokevirtual 127, 3) := by decide +kernel
theorem dX0_copyFrom_111 : decode cX0_copyFrom 111 = .ok (.aload_n 0, 1) := by decide +kernel
theorem dX0_copyFrom_112 : decode cX0_copyFrom 112 = .ok (.getfield 37, 3) := by decide +kernel
theorem dX0_copyFrom_115 : decode cX0_copyFrom 115 = .ok (.aload_n 1, 1) := by decide +kernel
theorem dX0_copyFrom_116 : decode cX0_copyFrom 116 = .ok (.getfield 37, 3) := by decide +kernel
theorem dX0_copyFrom_119 : decode cX0_copyFrom 119 = .ok (.invokevirtual 127, 3) := by decide +kernel
theorem dX0_copyFrom_122 : decode cX0_copyFrom 122 = .ok (.aload_n 0, 1) := by decide +kernel
theorem dX0_copyFrom_123 : decode cX0_copyFrom 123 = .ok (.getfield 43, 3) := by decide +kernel
theorem dX0_copyFrom_126 : decode cX0_copyFrom 126 = .ok (.aload_n 1, 1) := by decide +kernel
theorem dX0_copyFrom_127 : decode cX0_copyFrom 127 = .ok (.getfield 43, 3) := by decide +kernel
theorem dX0_copyFrom_130 : decode cX0_copyFrom 130 = .ok (.invokevirtual 130, 3) := by decide +kernel
theorem dX0_copyFrom_133 : decode cX0_copyFrom 133 = .ok (.return_, 1) := by decide +kernel
theorem dX0_placeOf_0 : decode cX0_placeOf 0 = .ok (.aload_n 1, 1) := by decide +kernel
theorem dX0_placeOf_1 : decode cX0_placeOf 1 = .ok (.getfield 74, 3) := by decide +kernel
theorem dX0_placeOf_4 : decode cX0_placeOf 4 = .ok (.iconst 1, 1) := by decide +kernel
theorem dX0_placeOf_5 : decode cX0_placeOf 5 = .ok (.if_icmp .eq 5, 3) := by decide +kernel
theorem dX0_placeOf_8 : decode cX0_placeOf 8 = .ok (.iconst (-1), 1) := by decide +kernel
theorem dX0_placeOf_9 : decode cX0_placeOf 9 = .ok (.ireturn, 1) := by decide +kernel
theorem dX0_placeOf_10 : decode cX0_placeOf 10 = .ok (.aload_n 1, 1) := by decide +kernel
theorem dX0_placeOf_11 : decode cX0_placeOf 11 = .ok (.getfield 100, 3) := by decide +kernel
theorem dX0_placeOf_14 : decode cX0_placeOf 14 = .ok (.ifCond .ne 10, 3) := by decide +kernel
theorem dX0_placeOf_17 : decode cX0_placeOf 17 = .ok (.aload_n 1, 1) := by decide +kernel
theorem dX0_placeOf_18 : decode cX0_placeOf 18 = .ok (.getfield 133, 3) := by decide +kernel
theorem dX0_placeOf_21 : decode cX0_placeOf 21 = .ok (.goto 14, 3) := by decide +kernel
theorem dX0_placeOf_24 : decode cX0_placeOf 24 = .ok (.aload_n 0, 1) := by decide +kernel
theorem dX0_placeOf_25 : decode cX0_placeOf 25 = .ok (.getfield 9, 3) := by decide +kernel
theorem dX0_placeOf_28 : decode cX0_placeOf 28 = .ok (.iconst 1, 1) := by decide +kernel
theorem dX0_placeOf_29 : decode cX0_placeOf 29 = .ok (.isub, 1) := by decide +kernel
theorem dX0_placeOf_30 : decode cX0_placeOf 30 = .ok (.aload_n 1, 1) := by decide +kernel
theorem dX0_placeOf_31 : decode cX0_placeOf 31 = .ok (.getfield 133, 3) := by decide +kernel
theorem dX0_placeOf_34 : decode cX0_placeOf 34 = .ok (.isub, 1) := by decide +kernel
theorem dX0_placeOf_35 : decode cX0_placeOf 35 = .ok (.ireturn, 1) := by decide +kernel
theorem dX0_tollFor_0 : decode cX0_tollFor 0 = .ok (.iload_n 1, 1) := by decide +kernel
theorem dX0_tollFor_1 : decode cX0_tollFor 1 = .ok (.aload_n 0, 1) := by decide +kernel
theorem dX0_tollFor_2 : decode cX0_tollFor 2 = .ok (.getfield 18, 3) := by decide +kernel
theorem dX0_tollFor_5 : decode cX0_tollFor 5 = .ok (.imul, 1) := by decide +kernel
theorem dX0_tollFor_6 : decode cX0_tollFor 6 = .ok (.iload_n 2, 1) := by decide +kernel
theorem dX0_tollFor_7 : decode cX0_tollFor 7 = .ok (.bipush 10, 2) := by decide +kernel
theorem dX0_tollFor_9 : decode cX0_tollFor 9 = .ok (.idiv, 1) := by decide +kernel
theorem dX0_tollFor_10 : decode cX0_tollFor 10 = .ok (.aload_n 0, 1) := by decide +kernel
theorem dX0_tollFor_11 : decode cX0_tollFor 11 = .ok (.getfield 21, 3) := by decide +kernel
theorem dX0_tollFor_14 : decode cX0_tollFor 14 = .ok (.imul, 1) := by decide +kernel
theorem dX0_tollFor_15 : decode cX0_tollFor 15 = .ok (.iadd, 1) := by decide +kernel
theorem dX0_tollFor_16 : decode cX0_tollFor 16 = .ok (.ireturn, 1) := by decide +kernel
theorem dX0_move_0 : decode cX0_move 0 = .ok (.aload_n 0, 1) := by decide +kernel
theorem dX0_move_1 : decode cX0_move 1 = .ok (.aload_n 0, 1) := by decide +kernel
theorem dX0_move_2 : decode cX0_move 2 = .ok (.getfield 43, 3) := by decide +kernel
theorem dX0_move_5 : decode cX0_move 5 = .ok (.iconst 0, 1) := by decide +kernel
theorem dX0_move_6 : decode cX0_move 6 = .ok (.invokevirtual 83, 3) := by decide +kernel
theorem dX0_move_9 : decode cX0_move 9 = .ok (.invokevirtual 57, 3) := by decide +kernel
theorem dX0_move_12 : decode cX0_move 12 = .ok (.astore_n 1, 1) := by decide +kernel
theorem dX0_move_13 : decode cX0_move 13 = .ok (.aload_n 1, 1) := by decide +kernel
theorem dX0_move_14 : decode cX0_move 14 = .ok (.ifnonnull 5, 3) := by decide +kernel
theorem dX0_move_17 : decode cX0_move 17 = .ok (.iconst 0, 1) := by decide +kernel
theorem dX0_move_18 : decode cX0_move 18 = .ok (.ireturn, 1) := by decide +kernel
theorem dX0_move_19 : decode cX0_move 19 = .ok (.aload_n 1, 1) := by decide +kernel
theorem dX0_move_20 : decode cX0_move 20 = .ok (.getfield 100, 3) := by decide +kernel
theorem dX0_move_23 : decode cX0_move 23 = .ok (.aload_n 0, 1) := by decide +kernel
theorem dX0_move_24 : decode cX0_move 24 = .ok (.getfield 61, 3) := by decide +kernel
theorem dX0_move_27 : decode cX0_move 27 = .ok (.if_icmp .ne 8, 3) := by decide +kernel
theorem dX0_move_30 : decode cX0_move 30 = .ok (.aload_n 0, 1) := by decide +kernel
theorem dX0_move_31 : decode cX0_move 31 = .ok (.invokevirtual 136, 3) := by decide +kernel
theorem dX0_move_34 : decode cX0_move 34 = .ok (.ireturn, 1) := by decide +kernel
theorem dX0_move_35 : decode cX0_move 35 = .ok (.aload_n 0, 1) := by decide +kernel
theorem dX0_move_36 : decode cX0_move 36 = .ok (.invokevirtual 139, 3) := by decide +kernel
theorem dX0_move_39 : decode cX0_move 39 = .ok (.iconst 0, 1) := by decide +kernel
theorem dX0_move_40 : decode cX0_move 40 = .ok (.ireturn, 1) := by decide +kernel
theorem dX0_goOn_0 : decode cX0_goOn 0 = .ok (.iconst 0, 1) := by decide +kernel
theorem dX0_goOn_1 : decode cX0_goOn 1 = .ok (.istore_n 1, 1) := by decide +kernel
theorem dX0_goOn_2 : decode cX0_goOn 2 = .ok (.aload_n 0, 1) := by decide +kernel
theorem dX0_goOn_3 : decode cX0_goOn 3 = .ok (.getfield 9, 3) := by decide +kernel
theorem dX0_goOn_6 : decode cX0_goOn 6 = .ok (.iconst 3, 1) := by decide +kernel
theorem dX0_goOn_7 : decode cX0_goOn 7 = .ok (.iadd, 1) := by decide +kernel
theorem dX0_goOn_8 : decode cX0_goOn 8 = .ok (.istore_n 2, 1) := by decide +kernel
theorem dX0_goOn_9 : decode cX0_goOn 9 = .ok (.iconst 0, 1) := by decide +kernel
theorem dX0_goOn_10 : decode cX0_goOn 10 = .ok (.istore_n 3, 1) := by decide +kernel
theorem dX0_goOn_11 : decode cX0_goOn 11 = .ok (.iload_n 3, 1) := by decide +kernel
theorem dX0_goOn_12 : decode cX0_goOn 12 = .ok (.aload_n 0, 1) := by decide +kernel
theorem dX0_goOn_13 : decode cX0_goOn 13 = .ok (.getfield 43, 3) := by decide +kernel
theorem dX0_goOn_16 : decode cX0_goOn 16 = .ok (.getfield 80, 3) := by decide +kernel
theorem dX0_goOn_19 : decode cX0_goOn 19 = .ok (.if_icmp .ge 90, 3) := by decide +kernel
theorem dX0_goOn_22 : decode cX0_goOn 22 = .ok (.aload_n 0, 1) := by decide +kernel
theorem dX0_goOn_23 : decode cX0_goOn 23 = .ok (.aload_n 0, 1) := by decide +kernel
theorem dX0_goOn_24 : decode cX0_goOn 24 = .ok (.getfield 43, 3) := by decide +kernel
theorem dX0_goOn_27 : decode cX0_goOn 27 = .ok (.iload_n 3, 1) := by decide +kernel
theorem dX0_goOn_28 : decode cX0_goOn 28 = .ok (.invokevirtual 83, 3) := by decide +kernel
theorem dX0_goOn_31 : decode cX0_goOn 31 = .ok (.invokevirtual 57, 3) := by decide +kernel
theorem dX0_goOn_34 : decode cX0_goOn 34 = .ok (.astore 4, 2) := by decide +kernel
theorem dX0_goOn_36 : decode cX0_goOn 36 = .ok (.aload 4, 2) := by decide +kernel
theorem dX0_goOn_38 : decode cX0_goOn 38 = .ok (.ifnonnull 6, 3) := by decide +kernel
theorem dX0_goOn_41 : decode cX0_goOn 41 = .ok (.goto 68, 3) := by decide +kernel
theorem dX0_goOn_44 : decode cX0_goOn 44 = .ok (.aload 4, 2) := by decide +kernel
theorem dX0_goOn_46 : decode cX0_goOn 46 = .ok (.getfield 133, 3) := by decide +kernel
theorem dX0_goOn_49 : decode cX0_goOn 49 = .ok (.aload 4, 2) := by decide +kernel
theorem dX0_goOn_51 : decode cX0_goOn 51 = .ok (.getfield 96, 3) := by decide +kernel
theorem dX0_goOn_54 : decode cX0_goOn 54 = .ok (.iadd, 1) := by decide +kernel
theorem dX0_goOn_55 : decode cX0_goOn 55 = .ok (.iload_n 2, 1) := by decide +kernel
theorem dX0_goOn_56 : decode cX0_goOn 56 = .ok (.invokestatic 142, 3) := by decide +kernel
theorem dX0_goOn_59 : decode cX0_goOn 59 = .ok (.istore 5, 2) := by decide +kernel
theorem dX0_goOn_61 : decode cX0_goOn 61 = .ok (.iload 5, 2) := by decide +kernel
theorem dX0_goOn_63 : decode cX0_goOn 63 = .ok (.aload_n 0, 1) := by decide +kernel
theorem dX0_goOn_64 : decode cX0_goOn 64 = .ok (.getfield 9, 3) := by decide +kernel
theorem dX0_goOn_67 : decode cX0_goOn 67 = .ok (.if_icmp .ge 18, 3) := by decide +kernel
theorem dX0_goOn_70 : decode cX0_goOn 70 = .ok (.aload 4, 2) := by decide +kernel
theorem dX0_goOn_72 : decode cX0_goOn 72 = .ok (.iload 5, 2) := by decide +kernel
theorem dX0_goOn_74 : decode cX0_goOn 74 = .ok (.putfield 133, 3) := by decide +kernel
theorem dX0_goOn_77 : decode cX0_goOn 77 = .ok (.iload 5, 2) := by decide +kernel
theorem dX0_goOn_79 : decode cX0_goOn 79 = .ok (.iconst 1, 1) := by decide +kernel
theorem dX0_goOn_80 : decode cX0_goOn 80 = .ok (.isub, 1) := by decide +kernel
theorem dX0_goOn_81 : decode cX0_goOn 81 = .ok (.istore_n 2, 1) := by decide +kernel
theorem dX0_goOn_82 : decode cX0_goOn 82 = .ok (.goto 21, 3) := by decide +kernel
theorem dX0_goOn_85 : decode cX0_goOn 85 = .ok (.aload 4, 2) := by decide +kernel
theorem dX0_goOn_87 : decode cX0_goOn 87 = .ok (.iconst 2, 1) := by decide +kernel
theorem dX0_goOn_88 : decode cX0_goOn 88 = .ok (.putfield 74, 3) := by decide +kernel
theorem dX0_goOn_91 : decode cX0_goOn 91 = .ok (.aload 4, 2) := by decide +kernel
theorem dX0_goOn_93 : decode cX0_goOn 93 = .ok (.aload_n 0, 1) := by decide +kernel
theorem dX0_goOn_94 : decode cX0_goOn 94 = .ok (.getfield 71, 3) := by decide +kernel
theorem dX0_goOn_97 : decode cX0_goOn 97 = .ok (.putfield 90, 3) := by decide +kernel
theorem dX0_goOn_100 : decode cX0_goOn 100 = .ok (.iinc 1 1, 3) := by decide +kernel
theorem dX0_goOn_103 : decode cX0_goOn 103 = .ok (.iinc 3 1, 3) := by decide +kernel
theorem dX0_goOn_106 : decode cX0_goOn 106 = .ok (.goto (-95), 3) := by decide +kernel
theorem dX0_goOn_109 : decode cX0_goOn 109 = .ok (.iconst 0, 1) := by decide +kernel
theorem dX0_goOn_110 : decode cX0_goOn 110 = .ok (.istore_n 3, 1) := by decide +kernel
theorem dX0_goOn_111 : decode cX0_goOn 111 = .ok (.iload_n 3, 1) := by decide +kernel
theorem dX0_goOn_112 : decode cX0_goOn 112 = .ok (.iload_n 1, 1) := by decide +kernel
theorem dX0_goOn_113 : decode cX0_goOn 113 = .ok (.if_icmp .ge 16, 3) := by decide +kernel
theorem dX0_goOn_116 : decode cX0_goOn 116 = .ok (.aload_n 0, 1) := by decide +kernel
theorem dX0_goOn_117 : decode cX0_goOn 117 = .ok (.getfield 43, 3) := by decide +kernel
theorem dX0_goOn_120 : decode cX0_goOn 120 = .ok (.invokevirtual 147, 3) := by decide +kernel
theorem dX0_goOn_123 : decode cX0_goOn 123 = .ok (.iinc 3 1, 3) := by decide +kernel
theorem dX0_goOn_126 : decode cX0_goOn 126 = .ok (.goto (-15), 3) := by decide +kernel
theorem dX0_goOn_129 : decode cX0_goOn 129 = .ok (.iload_n 1, 1) := by decide +kernel
theorem dX0_goOn_130 : decode cX0_goOn 130 = .ok (.ireturn, 1) := by decide +kernel
theorem dX0_goBack_0 : decode cX0_goBack 0 = .ok (.iconst (-1), 1) := by decide +kernel
theorem dX0_goBack_1 : decode cX0_goBack 1 = .ok (.istore_n 1, 1) := by decide +kernel
theorem dX0_goBack_2 : decode cX0_goBack 2 = .ok (.aload_n 0, 1) := by decide +kernel
theorem dX0_goBack_3 : decode cX0_goBack 3 = .ok (.getfield 43, 3) := by decide +kernel
theorem dX0_goBack_6 : decode cX0_goBack 6 = .ok (.getfield 80, 3) := by decide +kernel
theorem dX0_goBack_9 : decode cX0_goBack 9 = .ok (.iconst 1, 1) := by decide +kernel
theorem dX0_goBack_10 : decode cX0_goBack 10 = .ok (.isub, 1) := by decide +kernel
theorem dX0_goBack_11 : decode cX0_goBack 11 = .ok (.istore_n 2, 1) := by decide +kernel
theorem dX0_goBack_12 : decode cX0_goBack 12 = .ok (.iload_n 2, 1) := by decide +kernel
theorem dX0_goBack_13 : decode cX0_goBack 13 = .ok (.ifCond .lt 90, 3) := by decide +kernel
theorem dX0_goBack_16 : decode cX0_goBack 16 = .ok (.aload_n 0, 1) := by decide +kernel
theorem dX0_goBack_17 : decode cX0_goBack 17 = .ok (.aload_n 0, 1) := by decide +kernel
theorem dX0_goBack_18 : decode cX0_goBack 18 = .ok (.getfield 43, 3) := by decide +kernel
theorem dX0_goBack_21 : decode cX0_goBack 21 = .ok (.iload_n 2, 1) := by decide +kernel
theorem dX0_goBack_22 : decode cX0_goBack 22 = .ok (.invokevirtual 83, 3) := by decide +kernel
theorem dX0_goBack_25 : decode cX0_goBack 25 = .ok (.invokevirtual 57, 3) := by decide +kernel
theorem dX0_goBack_28 : decode cX0_goBack 28 = .ok (.astore_n 3, 1) := by decide +kernel
theorem dX0_goBack_29 : decode cX0_goBack 29 = .ok (.aload_n 3, 1) := by decide +kernel
theorem dX0_goBack_30 : decode cX0_goBack 30 = .ok (.ifnonnull 6, 3) := by decide +kernel
theorem dX0_goBack_33 : decode cX0_goBack 33 = .ok (.goto 70, 3) := by decide +kernel
theorem dX0_goBack_36 : decode cX0_goBack 36 = .ok (.aload_n 3, 1) := by decide +kernel
theorem dX0_goBack_37 : decode cX0_goBack 37 = .ok (.getfield 133, 3) := by decide +kernel
theorem dX0_goBack_40 : decode cX0_goBack 40 = .ok (.iconst 1, 1) := by decide +kernel
theorem dX0_goBack_41 : decode cX0_goBack 41 = .ok (.isub, 1) := by decide +kernel
theorem dX0_goBack_42 : decode cX0_goBack 42 = .ok (.iload_n 1, 1) := by decide +kernel
theorem dX0_goBack_43 : decode cX0_goBack 43 = .ok (.invokestatic 150, 3) := by decide +kernel
theorem dX0_goBack_46 : decode cX0_goBack 46 = .ok (.istore 4, 2) := by decide +kernel
theorem dX0_goBack_48 : decode cX0_goBack 48 = .ok (.iload 4, 2) := by decide +kernel
theorem dX0_goBack_50 : decode cX0_goBack 50 = .ok (.ifCond .lt 17, 3) := by decide +kernel
theorem dX0_goBack_53 : decode cX0_goBack 53 = .ok (.aload_n 3, 1) := by decide +kernel
theorem dX0_goBack_54 : decode cX0_goBack 54 = .ok (.iload 4, 2) := by decide +kernel
theorem dX0_goBack_56 : decode cX0_goBack 56 = .ok (.putfield 133, 3) := by decide +kernel
theorem dX0_goBack_59 : decode cX0_goBack 59 = .ok (.iload 4, 2) := by decide +kernel
theorem dX0_goBack_61 : decode cX0_goBack 61 = .ok (.iconst 1, 1) := by decide +kernel
theorem dX0_goBack_62 : decode cX0_goBack 62 = .ok (.iadd, 1) := by decide +kernel
theorem dX0_goBack_63 : decode cX0_goBack 63 = .ok (.istore_n 1, 1) := by decide +kernel
theorem dX0_goBack_64 : decode cX0_goBack 64 = .ok (.goto 33, 3) := by decide +kernel
theorem dX0_goBack_67 : decode cX0_goBack 67 = .ok (.aload_n 3, 1) := by decide +kernel
theorem dX0_goBack_68 : decode cX0_goBack 68 = .ok (.iconst 0, 1) := by decide +kernel
theorem dX0_goBack_69 : decode cX0_goBack 69 = .ok (.putfield 74, 3) := by decide +kernel
theorem dX0_goBack_72 : decode cX0_goBack 72 = .ok (.aload_n 0, 1) := by decide +kernel
theorem dX0_goBack_73 : decode cX0_goBack 73 = .ok (.aload_n 3, 1) := by decide +kernel
theorem dX0_goBack_74 : decode cX0_goBack 74 = .ok (.getfield 100, 3) := by decide +kernel
theorem dX0_goBack_77 : decode cX0_goBack 77 = .ok (.invokevirtual 153, 3) := by decide +kernel
theorem dX0_goBack_80 : decode cX0_goBack 80 = .ok (.getfield 157, 3) := by decide +kernel
theorem dX0_goBack_83 : decode cX0_goBack 83 = .ok (.aload_n 3, 1) := by decide +kernel
theorem dX0_goBack_84 : decode cX0_goBack 84 = .ok (.getfield 160, 3) := by decide +kernel
theorem dX0_goBack_87 : decode cX0_goBack 87 = .ok (.invokevirtual 163, 3) := by decide +kernel
theorem dX0_goBack_90 : decode cX0_goBack 90 = .ok (.aload_n 0, 1) := by decide +kernel
theorem dX0_goBack_91 : decode cX0_goBack 91 = .ok (.getfield 43, 3) := by decide +kernel
theorem dX0_goBack_94 : decode cX0_goBack 94 = .ok (.invokevirtual 166, 3) := by decide +kernel
theorem dX0_goBack_97 : decode cX0_goBack 97 = .ok (.iinc 2 (-1), 3) := by decide +kernel
theorem dX0_goBack_100 : decode cX0_goBack 100 = .ok (.goto (-88), 3) := by decide +kernel
theorem dX0_goBack_103 : decode cX0_goBack 103 = .ok (.return_, 1) := by decide +kernel
theorem dX0_comeOn_0 : decode cX0_comeOn 0 = .ok (.aload_n 0, 1) := by decide +kernel
theorem dX0_comeOn_1 : decode cX0_comeOn 1 = .ok (.aload_n 0, 1) := by decide +kernel
theorem dX0_comeOn_2 : decode cX0_comeOn 2 = .ok (.getfield 61, 3) := by decide +kernel
theorem dX0_comeOn_5 : decode cX0_comeOn 5 = .ok (.invokevirtual 153, 3) := by decide +kernel
theorem dX0_comeOn_8 : decode cX0_comeOn 8 = .ok (.astore_n 1, 1) := by decide +kernel
theorem dX0_comeOn_9 : decode cX0_comeOn 9 = .ok (.aload_n 0, 1) := by decide +kernel
theorem dX0_comeOn_10 : decode cX0_comeOn 10 = .ok (.aload_n 1, 1) := by decide +kernel
theorem dX0_comeOn_11 : decode cX0_comeOn 11 = .ok (.getfield 157, 3) := by decide +kernel
theorem dX0_comeOn_14 : decode cX0_comeOn 14 = .ok (.iconst 0, 1) := by decide +kernel
theorem dX0_comeOn_15 : decode cX0_comeOn 15 = .ok (.invokevirtual 83, 3) := by decide +kernel
theorem dX0_comeOn_18 : decode cX0_comeOn 18 = .ok (.invokevirtual 57, 3) := by decide +kernel
theorem dX0_comeOn_21 : decode cX0_comeOn 21 = .ok (.astore_n 2, 1) := by decide +kernel
theorem dX0_comeOn_22 : decode cX0_comeOn 22 = .ok (.aload_n 2, 1) := by decide +kernel
theorem dX0_comeOn_23 : decode cX0_comeOn 23 = .ok (.ifnull 11, 3) := by decide +kernel
theorem dX0_comeOn_26 : decode cX0_comeOn 26 = .ok (.aload_n 0, 1) := by decide +kernel
theorem dX0_comeOn_27 : decode cX0_comeOn 27 = .ok (.aload_n 2, 1) := by decide +kernel
theorem dX0_comeOn_28 : decode cX0_comeOn 28 = .ok (.invokevirtual 169, 3) := by decide +kernel
theorem dX0_comeOn_31 : decode cX0_comeOn 31 = .ok (.ifCond .ne 4, 3) := by decide +kernel
theorem dX0_comeOn_34 : decode cX0_comeOn 34 = .ok (.return_, 1) := by decide +kernel
theorem dX0_comeOn_35 : decode cX0_comeOn 35 = .ok (.aload_n 1, 1) := by decide +kernel
theorem dX0_comeOn_36 : decode cX0_comeOn 36 = .ok (.getfield 157, 3) := by decide +kernel
theorem dX0_comeOn_39 : decode cX0_comeOn 39 = .ok (.invokevirtual 147, 3) := by decide +kernel
theorem dX0_comeOn_42 : decode cX0_comeOn 42 = .ok (.aload_n 2, 1) := by decide +kernel
theorem dX0_comeOn_43 : decode cX0_comeOn 43 = .ok (.getfield 173, 3) := by decide +kernel
theorem dX0_comeOn_46 : decode cX0_comeOn 46 = .ok (.ifCond .ne 12, 3) := by decide +kernel
theorem dX0_comeOn_49 : decode cX0_comeOn 49 = .ok (.aload_n 0, 1) := by decide +kernel
theorem dX0_comeOn_50 : decode cX0_comeOn 50 = .ok (.aload_n 2, 1) := by decide +kernel
theorem dX0_comeOn_51 : decode cX0_comeOn 51 = .ok (.aload_n 1, 1) := by decide +kernel
theorem dX0_comeOn_52 : decode cX0_comeOn 52 = .ok (.invokevirtual 177, 3) := by decide +kernel
theorem dX0_comeOn_55 : decode cX0_comeOn 55 = .ok (.ifCond .eq 27, 3) := by decide +kernel
theorem dX0_comeOn_58 : decode cX0_comeOn 58 = .ok (.aload_n 2, 1) := by decide +kernel
theorem dX0_comeOn_59 : decode cX0_comeOn 59 = .ok (.iconst 1, 1) := by decide +kernel
theorem dX0_comeOn_60 : decode cX0_comeOn 60 = .ok (.putfield 74, 3) := by decide +kernel
theorem dX0_comeOn_63 : decode cX0_comeOn 63 = .ok (.aload_n 2, 1) := by decide +kernel
theorem dX0_comeOn_64 : decode cX0_comeOn 64 = .ok (.iconst 0, 1) := by decide +kernel
theorem dX0_comeOn_65 : decode cX0_comeOn 65 = .ok (.putfield 133, 3) := by decide +kernel
theorem dX0_comeOn_68 : decode cX0_comeOn 68 = .ok (.aload_n 0, 1) := by decide +kernel
theorem dX0_comeOn_69 : decode cX0_comeOn 69 = .ok (.getfield 43, 3) := by decide +kernel
theorem dX0_comeOn_72 : decode cX0_comeOn 72 = .ok (.aload_n 2, 1) := by decide +kernel
theorem dX0_comeOn_73 : decode cX0_comeOn 73 = .ok (.getfield 160, 3) := by decide +kernel
theorem dX0_comeOn_76 : decode cX0_comeOn 76 = .ok (.invokevirtual 181, 3) := by decide +kernel
theorem dX0_comeOn_79 : decode cX0_comeOn 79 = .ok (.goto 8, 3) := by decide +kernel
theorem dX0_comeOn_82 : decode cX0_comeOn 82 = .ok (.aload_n 2, 1) := by decide +kernel
theorem dX0_comeOn_83 : decode cX0_comeOn 83 = .ok (.iconst 3, 1) := by decide +kernel
theorem dX0_comeOn_84 : decode cX0_comeOn 84 = .ok (.putfield 74, 3) := by decide +kernel
theorem dX0_comeOn_87 : decode cX0_comeOn 87 = .ok (.return_, 1) := by decide +kernel
theorem dX0_hasRoomFor_0 : decode cX0_hasRoomFor 0 = .ok (.aload_n 0, 1) := by decide +kernel
theorem dX0_hasRoomFor_1 : decode cX0_hasRoomFor 1 = .ok (.aload_n 0, 1) := by decide +kernel
theorem dX0_hasRoomFor_2 : decode cX0_hasRoomFor 2 = .ok (.getfield 43, 3) := by decide +kernel
theorem dX0_hasRoomFor_5 : decode cX0_hasRoomFor 5 = .ok (.invokevirtual 184, 3) := by decide +kernel
theorem dX0_hasRoomFor_8 : decode cX0_hasRoomFor 8 = .ok (.invokevirtual 57, 3) := by decide +kernel
theorem dX0_hasRoomFor_11 : decode cX0_hasRoomFor 11 = .ok (.astore_n 2, 1) := by decide +kernel
theorem dX0_hasRoomFor_12 : decode cX0_hasRoomFor 12 = .ok (.aload_n 2, 1) := by decide +kernel
theorem dX0_hasRoomFor_13 : decode cX0_hasRoomFor 13 = .ok (.ifnull 21, 3) := by decide +kernel
theorem dX0_hasRoomFor_16 : decode cX0_hasRoomFor 16 = .ok (.aload_n 2, 1) := by decide +kernel
theorem dX0_hasRoomFor_17 : decode cX0_hasRoomFor 17 = .ok (.getfield 100, 3) := by decide +kernel
theorem dX0_hasRoomFor_20 : decode cX0_hasRoomFor 20 = .ok (.aload_n 0, 1) := by decide +kernel
theorem dX0_hasRoomFor_21 : decode cX0_hasRoomFor 21 = .ok (.getfield 61, 3) := by decide +kernel
theorem dX0_hasRoomFor_24 : decode cX0_hasRoomFor 24 = .ok (.if_icmp .ne 14, 3) := by decide +kernel
theorem dX0_hasRoomFor_27 : decode cX0_hasRoomFor 27 = .ok (.aload_n 2, 1) := by decide +kernel
theorem dX0_hasRoomFor_28 : decode cX0_hasRoomFor 28 = .ok (.getfield 133, 3) := by decide +kernel
theorem dX0_hasRoomFor_31 : decode cX0_hasRoomFor 31 = .ok (.ifCond .le 7, 3) := by decide +kernel
theorem dX0_hasRoomFor_34 : decode cX0_hasRoomFor 34 = .ok (.iconst 1, 1) := by decide +kernel
theorem dX0_hasRoomFor_35 : decode cX0_hasRoomFor 35 = .ok (.goto 4, 3) := by decide +kernel
theorem dX0_hasRoomFor_38 : decode cX0_hasRoomFor 38 = .ok (.iconst 0, 1) := by decide +kernel
theorem dX0_hasRoomFor_39 : decode cX0_hasRoomFor 39 = .ok (.istore_n 3, 1) := by decide +kernel
theorem dX0_hasRoomFor_40 : decode cX0_hasRoomFor 40 = .ok (.iload_n 3, 1) := by decide +kernel
theorem dX0_hasRoomFor_41 : decode cX0_hasRoomFor 41 = .ok (.ifCond .eq 23, 3) := by decide +kernel
theorem dX0_hasRoomFor_44 : decode cX0_hasRoomFor 44 = .ok (.aload_n 0, 1) := by decide +kernel
theorem dX0_hasRoomFor_45 : decode cX0_hasRoomFor 45 = .ok (.invokevirtual 187, 3) := by decide +kernel
theorem dX0_hasRoomFor_48 : decode cX0_hasRoomFor 48 = .ok (.aload_n 1, 1) := by decide +kernel
theorem dX0_hasRoomFor_49 : decode cX0_hasRoomFor 49 = .ok (.getfield 87, 3) := by decide +kernel
theorem dX0_hasRoomFor_52 : decode cX0_hasRoomFor 52 = .ok (.iadd, 1) := by decide +kernel
theorem dX0_hasRoomFor_53 : decode cX0_hasRoomFor 53 = .ok (.aload_n 0, 1) := by decide +kernel
theorem dX0_hasRoomFor_54 : decode cX0_hasRoomFor 54 = .ok (.getfield 15, 3) := by decide +kernel
theorem dX0_hasRoomFor_57 : decode cX0_hasRoomFor 57 = .ok (.if_icmp .gt 7, 3) := by decide +kernel
theorem dX0_hasRoomFor_60 : decode cX0_hasRoomFor 60 = .ok (.iconst 1, 1) := by decide +kernel
theorem dX0_hasRoomFor_61 : decode cX0_hasRoomFor 61 = .ok (.goto 4, 3) := by decide +kernel
theorem dX0_hasRoomFor_64 : decode cX0_hasRoomFor 64 = .ok (.iconst 0, 1) := by decide +kernel
theorem dX0_hasRoomFor_65 : decode cX0_hasRoomFor 65 = .ok (.ireturn, 1) := by decide +kernel
theorem dX0_pays_0 : decode cX0_pays 0 = .ok (.aload_n 0, 1) := by decide +kernel
theorem dX0_pays_1 : decode cX0_pays 1 = .ok (.aload_n 1, 1) := by decide +kernel
theorem dX0_pays_2 : decode cX0_pays 2 = .ok (.getfield 93, 3) := by decide +kernel
theorem dX0_pays_5 : decode cX0_pays 5 = .ok (.aload_n 1, 1) := by decide +kernel
theorem dX0_pays_6 : decode cX0_pays 6 = .ok (.getfield 87, 3) := by decide +kernel
theorem dX0_pays_9 : decode cX0_pays 9 = .ok (.invokevirtual 107, 3) := by decide +kernel
theorem dX0_pays_12 : decode cX0_pays 12 = .ok (.istore_n 3, 1) := by decide +kernel
theorem dX0_pays_13 : decode cX0_pays 13 = .ok (.aload_n 1, 1) := by decide +kernel
theorem dX0_pays_14 : decode cX0_pays 14 = .ok (.getfield 190, 3) := by decide +kernel
theorem dX0_pays_17 : decode cX0_pays 17 = .ok (.ifCond .eq 15, 3) := by decide +kernel
theorem dX0_pays_20 : decode cX0_pays 20 = .ok (.aload_n 0, 1) := by decide +kernel
theorem dX0_pays_21 : decode cX0_pays 21 = .ok (.iconst 1, 1) := by decide +kernel
theorem dX0_pays_22 : decode cX0_pays 22 = .ok (.aload_n 1, 1) := by decide +kernel
theorem dX0_pays_23 : decode cX0_pays 23 = .ok (.getfield 87, 3) := by decide +kernel
theorem dX0_pays_26 : decode cX0_pays 26 = .ok (.invokevirtual 107, 3) := by decide +kernel
theorem dX0_pays_29 : decode cX0_pays 29 = .ok (.goto 4, 3) := by decide +kernel
theorem dX0_pays_32 : decode cX0_pays 32 = .ok (.iload_n 3, 1) := by decide +kernel
theorem dX0_pays_33 : decode cX0_pays 33 = .ok (.istore 4, 2) := by decide +kernel
theorem dX0_pays_35 : decode cX0_pays 35 = .ok (.aload_n 1, 1) := by decide +kernel
theorem dX0_pays_36 : decode cX0_pays 36 = .ok (.getfield 99, 3) := by decide +kernel
theorem dX0_pays_39 : decode cX0_pays 39 = .ok (.iload 4, 2) := by decide +kernel
theorem dX0_pays_41 : decode cX0_pays 41 = .ok (.if_icmp .ge 5, 3) := by decide +kernel
theorem dX0_pays_44 : decode cX0_pays 44 = .ok (.iconst 0, 1) := by decide +kernel
theorem dX0_pays_45 : decode cX0_pays 45 = .ok (.ireturn, 1) := by decide +kernel
theorem dX0_pays_46 : decode cX0_pays 46 = .ok (.aload_n 1, 1) := by decide +kernel
theorem dX0_pays_47 : decode cX0_pays 47 = .ok (.dup, 1) := by decide +kernel
theorem dX0_pays_48 : decode cX0_pays 48 = .ok (.getfield 99, 3) := by decide +kernel
theorem dX0_pays_51 : decode cX0_pays 51 = .ok (.iload 4, 2) := by decide +kernel
theorem dX0_pays_53 : decode cX0_pays 53 = .ok (.isub, 1) := by decide +kernel
theorem dX0_pays_54 : decode cX0_pays 54 = .ok (.putfield 99, 3) := by decide +kernel
theorem dX0_pays_57 : decode cX0_pays 57 = .ok (.aload_n 1, 1) := by decide +kernel
theorem dX0_pays_58 : decode cX0_pays 58 = .ok (.iconst 1, 1) := by decide +kernel
theorem dX0_pays_59 : decode cX0_pays 59 = .ok (.putfield 173, 3) := by decide +kernel
theorem dX0_pays_62 : decode cX0_pays 62 = .ok (.aload_n 2, 1) := by decide +kernel
theorem dX0_pays_63 : decode cX0_pays 63 = .ok (.aload_n 1, 1) := by decide +kernel
theorem dX0_pays_64 : decode cX0_pays 64 = .ok (.iload 4, 2) := by decide +kernel
theorem dX0_pays_66 : decode cX0_pays 66 = .ok (.iload_n 3, 1) := by decide +kernel
theorem dX0_pays_67 : decode cX0_pays 67 = .ok (.invokevirtual 193, 3) := by decide +kernel
theorem dX0_pays_70 : decode cX0_pays 70 = .ok (.iconst 1, 1) := by decide +kernel
theorem dX0_pays_71 : decode cX0_pays 71 = .ok (.ireturn, 1) := by decide +kernel
theorem dX1_init_0 : decode cX1_init 0 = .ok (.aload_n 0, 1) := by decide +kernel
theorem dX1_init_1 : decode cX1_init 1 = .ok (.invokespecial 3, 3) := by decide +kernel
theorem dX1_init_4 : decode cX1_init 4 = .ok (.aload_n 0, 1) := by decide +kernel
theorem dX1_init_5 : decode cX1_init 5 = .ok (.iconst 0, 1) := by decide +kernel
theorem dX1_init_6 : decode cX1_init 6 = .ok (.putfield 9, 3) := by decide +kernel
theorem dX1_init_9 : decode cX1_init 9 = .ok (.aload_n 0, 1) := by decide +kernel
theorem dX1_init_10 : decode cX1_init 10 = .ok (.iconst (-1), 1) := by decide +kernel
theorem dX1_init_11 : decode cX1_init 11 = .ok (.putfield 15, 3) := by decide +kernel
theorem dX1_init_14 : decode cX1_init 14 = .ok (.aload_n 0, 1) := by decide +kernel
theorem dX1_init_15 : decode cX1_init 15 = .ok (.iload_n 1, 1) := by decide +kernel
theorem dX1_init_16 : decode cX1_init 16 = .ok (.putfield 18, 3) := by decide +kernel
theorem dX1_init_19 : decode cX1_init 19 = .ok (.return_, 1) := by decide +kernel
theorem dX1_copyFrom_0 : decode cX1_copyFrom 0 = .ok (.aload_n 0, 1) := by decide +kernel
theorem dX1_copyFrom_1 : decode cX1_copyFrom 1 = .ok (.aload_n 1, 1) := by decide +kernel
theorem dX1_copyFrom_2 : decode cX1_copyFrom 2 = .ok (.getfield 21, 3) := by decide +kernel
theorem dX1_copyFrom_5 : decode cX1_copyFrom 5 = .ok (.putfield 21, 3) := by decide +kernel
theorem dX1_copyFrom_8 : decode cX1_copyFrom 8 = .ok (.aload_n 0, 1) := by decide +kernel
theorem dX1_copyFrom_9 : decode cX1_copyFrom 9 = .ok (.aload_n 1, 1) := by decide +kernel
theorem dX1_copyFrom_10 : decode cX1_copyFrom 10 = .ok (.getfield 24, 3) := by decide +kernel
theorem dX1_copyFrom_13 : decode cX1_copyFrom 13 = .ok (.putfield 24, 3) := by decide +kernel
theorem dX1_copyFrom_16 : decode cX1_copyFrom 16 = .ok (.aload_n 0, 1) := by decide +kernel
theorem dX1_copyFrom_17 : decode cX1_copyFrom 17 = .ok (.aload_n 1, 1) := by decide +kernel
theorem dX1_copyFrom_18 : decode cX1_copyFrom 18 = .ok (.getfield 27, 3) := by decide +kernel
theorem dX1_copyFrom_21 : decode cX1_copyFrom 21 = .ok (.putfield 27, 3) := by decide +kernel
theorem dX1_copyFrom_24 : decode cX1_copyFrom 24 = .ok (.aload_n 0, 1) := by decide +kernel
theorem dX1_copyFrom_25 : decode cX1_copyFrom 25 = .ok (.aload_n 1, 1) := by decide +kernel
theorem dX1_copyFrom_26 : decode cX1_copyFrom 26 = .ok (.getfield 30, 3) := by decide +kernel
theorem dX1_copyFrom_29 : decode cX1_copyFrom 29 = .ok (.putfield 30, 3) := by decide +kernel
theorem dX1_copyFrom_32 : decode cX1_copyFrom 32 = .ok (.aload_n 0, 1) := by decide +kernel
theorem dX1_copyFrom_33 : decode cX1_copyFrom 33 = .ok (.aload_n 1, 1) := by decide +kernel
theorem dX1_copyFrom_34 : decode cX1_copyFrom 34 = .ok (.getfield 33, 3) := by decide +kernel
theorem dX1_copyFrom_37 : decode cX1_copyFrom 37 = .ok (.putfield 33, 3) := by decide +kernel
theorem dX1_copyFrom_40 : decode cX1_copyFrom 40 = .ok (.aload_n 0, 1) := by decide +kernel
theorem dX1_copyFrom_41 : decode cX1_copyFrom 41 = .ok (.aload_n 1, 1) := by decide +kernel
theorem dX1_copyFrom_42 : decode cX1_copyFrom 42 = .ok (.getfield 36, 3) := by decide +kernel
theorem dX1_copyFrom_45 : decode cX1_copyFrom 45 = .ok (.putfield 36, 3) := by decide +kernel
theorem dX1_copyFrom_48 : decode cX1_copyFrom 48 = .ok (.aload_n 0, 1) := by decide +kernel
theorem dX1_copyFrom_49 : decode cX1_copyFrom 49 = .ok (.aload_n 1, 1) := by decide +kernel
theorem dX1_copyFrom_50 : decode cX1_copyFrom 50 = .ok (.getfield 40, 3) := by decide +kernel
theorem dX1_copyFrom_53 : decode cX1_copyFrom 53 = .ok (.putfield 40, 3) := by decide +kernel
theorem dX1_copyFrom_56 : decode cX1_copyFrom 56 = .ok (.aload_n 0, 1) := by decide +kernel
theorem dX1_copyFrom_57 : decode cX1_copyFrom 57 = .ok (.aload_n 1, 1) := by decide +kernel
theorem dX1_copyFrom_58 : decode cX1_copyFrom 58 = .ok (.getfield 9, 3) := by decide +kernel
theorem dX1_copyFrom_61 : decode cX1_copyFrom 61 = .ok (.putfield 9, 3) := by decide +kernel
theorem dX1_copyFrom_64 : decode cX1_copyFrom 64 = .ok (.aload_n 0, 1) := by decide +kernel
theorem dX1_copyFrom_65 : decode cX1_copyFrom 65 = .ok (.aload_n 1, 1) := by decide +kernel
theorem dX1_copyFrom_66 : decode cX1_copyFrom 66 = .ok (.getfield 43, 3) := by decide +kernel
theorem dX1_copyFrom_69 : decode cX1_copyFrom 69 = .ok (.putfield 43, 3) := by decide +kernel
theorem dX1_copyFrom_72 : decode cX1_copyFrom 72 = .ok (.aload_n 0, 1) := by decide +kernel
theorem dX1_copyFrom_73 : decode cX1_copyFrom 73 = .ok (.aload_n 1, 1) := by decide +kernel
theorem dX1_copyFrom_74 : decode cX1_copyFrom 74 = .ok (.getfield 15, 3) := by decide +kernel
theorem dX1_copyFrom_77 : decode cX1_copyFrom 77 = .ok (.putfield 15, 3) := by decide +kernel
theorem dX1_copyFrom_80 : decode cX1_copyFrom 80 = .ok (.return_, 1) := by decide +kernel
theorem dX2_init_0 : decode cX2_init 0 = .ok (.aload_n 0, 1) := by decide +kernel
theorem dX2_init_1 : decode cX2_init 1 = .ok (.invokespecial 3, 3) := by decide +kernel
theorem dX2_init_4 : decode cX2_init 4 = .ok (.aload_n 0, 1) := by decide +kernel
theorem dX2_init_5 : decode cX2_init 5 = .ok (.bipush 8, 2) := by decide +kernel
theorem dX2_init_7 : decode cX2_init 7 = .ok (.newarray .int, 2) := by decide +kernel
theorem dX2_init_9 : decode cX2_init 9 = .ok (.putfield 9, 3) := by decide +kernel
theorem dX2_init_12 : decode cX2_init 12 = .ok (.aload_n 0, 1) := by decide +kernel
theorem dX2_init_13 : decode cX2_init 13 = .ok (.bipush 21, 2) := by decide +kernel
theorem dX2_init_15 : decode cX2_init 15 = .ok (.newarray .int, 2) := by decide +kernel
theorem dX2_init_17 : decode cX2_init 17 = .ok (.putfield 15, 3) := by decide +kernel
theorem dX2_init_20 : decode cX2_init 20 = .ok (.return_, 1) := by decide +kernel
theorem dX2_ringsOf_0 : decode cX2_ringsOf 0 = .ok (.iload_n 1, 1) := by decide +kernel
theorem dX2_ringsOf_1 : decode cX2_ringsOf 1 = .ok (.aload_n 0, 1) := by decide +kernel
theorem dX2_ringsOf_2 : decode cX2_ringsOf 2 = .ok (.getfield 9, 3) := by decide +kernel
theorem dX2_ringsOf_5 : decode cX2_ringsOf 5 = .ok (.arraylength, 1) := by decide +kernel
theorem dX2_ringsOf_6 : decode cX2_ringsOf 6 = .ok (.invokestatic 32, 3) := by decide +kernel
theorem dX2_ringsOf_9 : decode cX2_ringsOf 9 = .ok (.ifCond .eq 12, 3) := by decide +kernel
theorem dX2_ringsOf_12 : decode cX2_ringsOf 12 = .ok (.aload_n 0, 1) := by decide +kernel
theorem dX2_ringsOf_13 : decode cX2_ringsOf 13 = .ok (.getfield 9, 3) := by decide +kernel
theorem dX2_ringsOf_16 : decode cX2_ringsOf 16 = .ok (.iload_n 1, 1) := by decide +kernel
theorem dX2_ringsOf_17 : decode cX2_ringsOf 17 = .ok (.iaload, 1) := by decide +kernel
theorem dX2_ringsOf_18 : decode cX2_ringsOf 18 = .ok (.goto 4, 3) := by decide +kernel
theorem dX2_ringsOf_21 : decode cX2_ringsOf 21 = .ok (.iconst 0, 1) := by decide +kernel
theorem dX2_ringsOf_22 : decode cX2_ringsOf 22 = .ok (.ireturn, 1) := by decide +kernel
theorem dX2_mixedInto_0 : decode cX2_mixedInto 0 = .ok (.lload_n 1, 1) := by decide +kernel
theorem dX2_mixedInto_1 : decode cX2_mixedInto 1 = .ok (.lstore_n 3, 1) := by decide +kernel
theorem dX2_mixedInto_2 : decode cX2_mixedInto 2 = .ok (.iconst 0, 1) := by decide +kernel
theorem dX2_mixedInto_3 : decode cX2_mixedInto 3 = .ok (.istore 5, 2) := by decide +kernel
theorem dX2_mixedInto_5 : decode cX2_mixedInto 5 = .ok (.iload 5, 2) := by decide +kernel
theorem dX2_mixedInto_7 : decode cX2_mixedInto 7 = .ok (.aload_n 0, 1) := by decide +kernel
theorem dX2_mixedInto_8 : decode cX2_mixedInto 8 = .ok (.getfield 18, 3) := by decide +kernel
theorem dX2_mixedInto_11 : decode cX2_mixedInto 11 = .ok (.if_icmp .ge 20, 3) := by decide +kernel
theorem dX2_mixedInto_14 : decode cX2_mixedInto 14 = .ok (.lload_n 3, 1) := by decide +kernel
theorem dX2_mixedInto_15 : decode cX2_mixedInto 15 = .ok (.aload_n 0, 1) := by decide +kernel
theorem dX2_mixedInto_16 : decode cX2_mixedInto 16 = .ok (.iload 5, 2) := by decide +kernel
theorem dX2_mixedInto_18 : decode cX2_mixedInto 18 = .ok (.invokevirtual 22, 3) := by decide +kernel
theorem dX2_mixedInto_21 : decode cX2_mixedInto 21 = .ok (.invokestatic 54, 3) := by decide +kernel
theorem dX2_mixedInto_24 : decode cX2_mixedInto 24 = .ok (.lstore_n 3, 1) := by decide +kernel
theorem dX2_mixedInto_25 : decode cX2_mixedInto 25 = .ok (.iinc 5 1, 3) := by decide +kernel
theorem dX2_mixedInto_28 : decode cX2_mixedInto 28 = .ok (.goto (-23), 3) := by decide +kernel
theorem dX2_mixedInto_31 : decode cX2_mixedInto 31 = .ok (.lload_n 3, 1) := by decide +kernel
theorem dX2_mixedInto_32 : decode cX2_mixedInto 32 = .ok (.lreturn, 1) := by decide +kernel
theorem dX3_init_0 : decode cX3_init 0 = .ok (.aload_n 0, 1) := by decide +kernel
theorem dX3_init_1 : decode cX3_init 1 = .ok (.invokespecial 3, 3) := by decide +kernel
theorem dX3_init_4 : decode cX3_init 4 = .ok (.aload_n 0, 1) := by decide +kernel
theorem dX3_init_5 : decode cX3_init 5 = .ok (.new 9, 3) := by decide +kernel
theorem dX3_init_8 : decode cX3_init 8 = .ok (.dup, 1) := by decide +kernel
theorem dX3_init_9 : decode cX3_init 9 = .ok (.invokespecial 11, 3) := by decide +kernel
theorem dX3_init_12 : decode cX3_init 12 = .ok (.putfield 12, 3) := by decide +kernel
theorem dX3_init_15 : decode cX3_init 15 = .ok (.return_, 1) := by decide +kernel
theorem dX3_take_0 : decode cX3_take 0 = .ok (.aload_n 0, 1) := by decide +kernel
theorem dX3_take_1 : decode cX3_take 1 = .ok (.dup, 1) := by decide +kernel
theorem dX3_take_2 : decode cX3_take 2 = .ok (.getfield 18, 3) := by decide +kernel
theorem dX3_take_5 : decode cX3_take 5 = .ok (.iload_n 2, 1) := by decide +kernel
theorem dX3_take_6 : decode cX3_take 6 = .ok (.iadd, 1) := by decide +kernel
theorem dX3_take_7 : decode cX3_take 7 = .ok (.putfield 18, 3) := by decide +kernel
theorem dX3_take_10 : decode cX3_take 10 = .ok (.aload_n 0, 1) := by decide +kernel
theorem dX3_take_11 : decode cX3_take 11 = .ok (.dup, 1) := by decide +kernel
theorem dX3_take_12 : decode cX3_take 12 = .ok (.getfield 22, 3) := by decide +kernel
theorem dX3_take_15 : decode cX3_take 15 = .ok (.iconst 1, 1) := by decide +kernel
theorem dX3_take_16 : decode cX3_take 16 = .ok (.iadd, 1) := by decide +kernel
theorem dX3_take_17 : decode cX3_take 17 = .ok (.putfield 22, 3) := by decide +kernel
theorem dX3_take_20 : decode cX3_take 20 = .ok (.aload_n 0, 1) := by decide +kernel
theorem dX3_take_21 : decode cX3_take 21 = .ok (.dup, 1) := by decide +kernel
theorem dX3_take_22 : decode cX3_take 22 = .ok (.getfield 25, 3) := by decide +kernel
theorem dX3_take_25 : decode cX3_take 25 = .ok (.aload_n 1, 1) := by decide +kernel
theorem dX3_take_26 : decode cX3_take 26 = .ok (.getfield 28, 3) := by decide +kernel
theorem dX3_take_29 : decode cX3_take 29 = .ok (.iadd, 1) := by decide +kernel
theorem dX3_take_30 : decode cX3_take 30 = .ok (.putfield 25, 3) := by decide +kernel
theorem dX3_take_33 : decode cX3_take 33 = .ok (.aload_n 0, 1) := by decide +kernel
theorem dX3_take_34 : decode cX3_take 34 = .ok (.dup, 1) := by decide +kernel
theorem dX3_take_35 : decode cX3_take 35 = .ok (.getfield 31, 3) := by decide +kernel
theorem dX3_take_38 : decode cX3_take 38 = .ok (.iload_n 3, 1) := by decide +kernel
theorem dX3_take_39 : decode cX3_take 39 = .ok (.iload_n 2, 1) := by decide +kernel
theorem dX3_take_40 : decode cX3_take 40 = .ok (.isub, 1) := by decide +kernel
theorem dX3_take_41 : decode cX3_take 41 = .ok (.iadd, 1) := by decide +kernel
theorem dX3_take_42 : decode cX3_take 42 = .ok (.putfield 31, 3) := by decide +kernel
theorem dX3_take_45 : decode cX3_take 45 = .ok (.return_, 1) := by decide +kernel
theorem dX3_tell_0 : decode cX3_tell 0 = .ok (.iload_n 1, 1) := by decide +kernel
theorem dX3_tell_1 : decode cX3_tell 1 = .ok (.tableswitch 42 0 2 #[27, 32, 37], 27) := by decide +kernel
theorem dX3_tell_28 : decode cX3_tell 28 = .ok (.aload_n 0, 1) := by decide +kernel
theorem dX3_tell_29 : decode cX3_tell 29 = .ok (.getfield 18, 3) := by decide +kernel
theorem dX3_tell_32 : decode cX3_tell 32 = .ok (.ireturn, 1) := by decide +kernel
theorem dX3_tell_33 : decode cX3_tell 33 = .ok (.aload_n 0, 1) := by decide +kernel
theorem dX3_tell_34 : decode cX3_tell 34 = .ok (.getfield 22, 3) := by decide +kernel
theorem dX3_tell_37 : decode cX3_tell 37 = .ok (.ireturn, 1) := by decide +kernel
theorem dX3_tell_38 : decode cX3_tell 38 = .ok (.aload_n 0, 1) := by decide +kernel
end
section
theorem dX3_tell_39 : decode cX3_tell 39 = .ok (.getfield 25, 3) := by decide +kernel
theorem dX3_tell_42 : decode cX3_tell 42 = .ok (.ireturn, 1) := by decide +kernel
theorem dX3_tell_43 : decode cX3_tell 43 = .ok (.aload_n 0, 1) := by decide +kernel
theorem dX3_tell_44 : decode cX3_tell 44 = .ok (.getfield 12, 3) := by decide +kernel
theorem dX3_tell_47 : decode cX3_tell 47 = .ok (.getfield 34, 3) := by decide +kernel
theorem dX3_tell_50 : decode cX3_tell 50 = .ok (.ireturn, 1) := by decide +kernel
theorem dX3_mixedInto_0 : decode cX3_mixedInto 0 = .ok (.lload_n 1, 1) := by decide +kernel
theorem dX3_mixedInto_1 : decode cX3_mixedInto 1 = .ok (.lstore_n 3, 1) := by decide +kernel
theorem dX3_mixedInto_2 : decode cX3_mixedInto 2 = .ok (.iconst 0, 1) := by decide +kernel
theorem dX3_mixedInto_3 : decode cX3_mixedInto 3 = .ok (.istore 5, 2) := by decide +kernel
theorem dX3_mixedInto_5 : decode cX3_mixedInto 5 = .ok (.iload 5, 2) := by decide +kernel
theorem dX3_mixedInto_7 : decode cX3_mixedInto 7 = .ok (.iconst 4, 1) := by decide +kernel
theorem dX3_mixedInto_8 : decode cX3_mixedInto 8 = .ok (.if_icmp .ge 20, 3) := by decide +kernel
theorem dX3_mixedInto_11 : decode cX3_mixedInto 11 = .ok (.lload_n 3, 1) := by decide +kernel
theorem dX3_mixedInto_12 : decode cX3_mixedInto 12 = .ok (.aload_n 0, 1) := by decide +kernel
theorem dX3_mixedInto_13 : decode cX3_mixedInto 13 = .ok (.iload 5, 2) := by decide +kernel
theorem dX3_mixedInto_15 : decode cX3_mixedInto 15 = .ok (.invokevirtual 37, 3) := by decide +kernel
theorem dX3_mixedInto_18 : decode cX3_mixedInto 18 = .ok (.invokestatic 41, 3) := by decide +kernel
theorem dX3_mixedInto_21 : decode cX3_mixedInto 21 = .ok (.lstore_n 3, 1) := by decide +kernel
theorem dX3_mixedInto_22 : decode cX3_mixedInto 22 = .ok (.iinc 5 1, 3) := by decide +kernel
theorem dX3_mixedInto_25 : decode cX3_mixedInto 25 = .ok (.goto (-20), 3) := by decide +kernel
theorem dX3_mixedInto_28 : decode cX3_mixedInto 28 = .ok (.iconst 0, 1) := by decide +kernel
theorem dX3_mixedInto_29 : decode cX3_mixedInto 29 = .ok (.istore 5, 2) := by decide +kernel
theorem dX3_mixedInto_31 : decode cX3_mixedInto 31 = .ok (.iload 5, 2) := by decide +kernel
theorem dX3_mixedInto_33 : decode cX3_mixedInto 33 = .ok (.aload_n 0, 1) := by decide +kernel
theorem dX3_mixedInto_34 : decode cX3_mixedInto 34 = .ok (.getfield 12, 3) := by decide +kernel
theorem dX3_mixedInto_37 : decode cX3_mixedInto 37 = .ok (.getfield 34, 3) := by decide +kernel
theorem dX3_mixedInto_40 : decode cX3_mixedInto 40 = .ok (.if_icmp .ge 23, 3) := by decide +kernel
theorem dX3_mixedInto_43 : decode cX3_mixedInto 43 = .ok (.lload_n 3, 1) := by decide +kernel
theorem dX3_mixedInto_44 : decode cX3_mixedInto 44 = .ok (.aload_n 0, 1) := by decide +kernel
theorem dX3_mixedInto_45 : decode cX3_mixedInto 45 = .ok (.getfield 12, 3) := by decide +kernel
theorem dX3_mixedInto_48 : decode cX3_mixedInto 48 = .ok (.iload 5, 2) := by decide +kernel
theorem dX3_mixedInto_50 : decode cX3_mixedInto 50 = .ok (.invokevirtual 45, 3) := by decide +kernel
theorem dX3_mixedInto_53 : decode cX3_mixedInto 53 = .ok (.invokestatic 41, 3) := by decide +kernel
theorem dX3_mixedInto_56 : decode cX3_mixedInto 56 = .ok (.lstore_n 3, 1) := by decide +kernel
theorem dX3_mixedInto_57 : decode cX3_mixedInto 57 = .ok (.iinc 5 1, 3) := by decide +kernel
theorem dX3_mixedInto_60 : decode cX3_mixedInto 60 = .ok (.goto (-29), 3) := by decide +kernel
theorem dX3_mixedInto_63 : decode cX3_mixedInto 63 = .ok (.lload_n 3, 1) := by decide +kernel
theorem dX3_mixedInto_64 : decode cX3_mixedInto 64 = .ok (.lreturn, 1) := by decide +kernel
theorem dX3_copyFrom_0 : decode cX3_copyFrom 0 = .ok (.aload_n 0, 1) := by decide +kernel
theorem dX3_copyFrom_1 : decode cX3_copyFrom 1 = .ok (.getfield 12, 3) := by decide +kernel
theorem dX3_copyFrom_4 : decode cX3_copyFrom 4 = .ok (.aload_n 1, 1) := by decide +kernel
theorem dX3_copyFrom_5 : decode cX3_copyFrom 5 = .ok (.getfield 12, 3) := by decide +kernel
theorem dX3_copyFrom_8 : decode cX3_copyFrom 8 = .ok (.invokevirtual 48, 3) := by decide +kernel
theorem dX3_copyFrom_11 : decode cX3_copyFrom 11 = .ok (.aload_n 0, 1) := by decide +kernel
theorem dX3_copyFrom_12 : decode cX3_copyFrom 12 = .ok (.aload_n 1, 1) := by decide +kernel
theorem dX3_copyFrom_13 : decode cX3_copyFrom 13 = .ok (.getfield 18, 3) := by decide +kernel
theorem dX3_copyFrom_16 : decode cX3_copyFrom 16 = .ok (.putfield 18, 3) := by decide +kernel
theorem dX3_copyFrom_19 : decode cX3_copyFrom 19 = .ok (.aload_n 0, 1) := by decide +kernel
theorem dX3_copyFrom_20 : decode cX3_copyFrom 20 = .ok (.aload_n 1, 1) := by decide +kernel
theorem dX3_copyFrom_21 : decode cX3_copyFrom 21 = .ok (.getfield 22, 3) := by decide +kernel
theorem dX3_copyFrom_24 : decode cX3_copyFrom 24 = .ok (.putfield 22, 3) := by decide +kernel
theorem dX3_copyFrom_27 : decode cX3_copyFrom 27 = .ok (.aload_n 0, 1) := by decide +kernel
theorem dX3_copyFrom_28 : decode cX3_copyFrom 28 = .ok (.aload_n 1, 1) := by decide +kernel
theorem dX3_copyFrom_29 : decode cX3_copyFrom 29 = .ok (.getfield 25, 3) := by decide +kernel
theorem dX3_copyFrom_32 : decode cX3_copyFrom 32 = .ok (.putfield 25, 3) := by decide +kernel
theorem dX3_copyFrom_35 : decode cX3_copyFrom 35 = .ok (.aload_n 0, 1) := by decide +kernel
theorem dX3_copyFrom_36 : decode cX3_copyFrom 36 = .ok (.aload_n 1, 1) := by decide +kernel
theorem dX3_copyFrom_37 : decode cX3_copyFrom 37 = .ok (.getfield 31, 3) := by decide +kernel
theorem dX3_copyFrom_40 : decode cX3_copyFrom 40 = .ok (.putfield 31, 3) := by decide +kernel
theorem dX3_copyFrom_43 : decode cX3_copyFrom 43 = .ok (.return_, 1) := by decide +kernel
theorem dX5_init_0 : decode cX5_init 0 = .ok (.aload_n 0, 1) := by decide +kernel
theorem dX5_init_1 : decode cX5_init 1 = .ok (.invokespecial 3, 3) := by decide +kernel
theorem dX5_init_4 : decode cX5_init 4 = .ok (.aload_n 0, 1) := by decide +kernel
theorem dX5_init_5 : decode cX5_init 5 = .ok (.bipush 16, 2) := by decide +kernel
theorem dX5_init_7 : decode cX5_init 7 = .ok (.newarray .int, 2) := by decide +kernel
theorem dX5_init_9 : decode cX5_init 9 = .ok (.putfield 9, 3) := by decide +kernel
theorem dX5_init_12 : decode cX5_init 12 = .ok (.return_, 1) := by decide +kernel
theorem dX5_at_0 : decode cX5_at 0 = .ok (.iload_n 1, 1) := by decide +kernel
theorem dX5_at_1 : decode cX5_at 1 = .ok (.aload_n 0, 1) := by decide +kernel
theorem dX5_at_2 : decode cX5_at 2 = .ok (.getfield 15, 3) := by decide +kernel
theorem dX5_at_5 : decode cX5_at 5 = .ok (.if_icmp .ge 24, 3) := by decide +kernel
theorem dX5_at_8 : decode cX5_at 8 = .ok (.iload_n 1, 1) := by decide +kernel
theorem dX5_at_9 : decode cX5_at 9 = .ok (.aload_n 0, 1) := by decide +kernel
theorem dX5_at_10 : decode cX5_at 10 = .ok (.getfield 9, 3) := by decide +kernel
theorem dX5_at_13 : decode cX5_at 13 = .ok (.arraylength, 1) := by decide +kernel
theorem dX5_at_14 : decode cX5_at 14 = .ok (.invokestatic 19, 3) := by decide +kernel
theorem dX5_at_17 : decode cX5_at 17 = .ok (.ifCond .eq 12, 3) := by decide +kernel
theorem dX5_at_20 : decode cX5_at 20 = .ok (.aload_n 0, 1) := by decide +kernel
theorem dX5_at_21 : decode cX5_at 21 = .ok (.getfield 9, 3) := by decide +kernel
theorem dX5_at_24 : decode cX5_at 24 = .ok (.iload_n 1, 1) := by decide +kernel
theorem dX5_at_25 : decode cX5_at 25 = .ok (.iaload, 1) := by decide +kernel
theorem dX5_at_26 : decode cX5_at 26 = .ok (.goto 4, 3) := by decide +kernel
theorem dX5_at_29 : decode cX5_at 29 = .ok (.iconst (-1), 1) := by decide +kernel
theorem dX5_at_30 : decode cX5_at 30 = .ok (.ireturn, 1) := by decide +kernel
theorem dX5_last_0 : decode cX5_last 0 = .ok (.aload_n 0, 1) := by decide +kernel
theorem dX5_last_1 : decode cX5_last 1 = .ok (.aload_n 0, 1) := by decide +kernel
theorem dX5_last_2 : decode cX5_last 2 = .ok (.getfield 15, 3) := by decide +kernel
theorem dX5_last_5 : decode cX5_last 5 = .ok (.iconst 1, 1) := by decide +kernel
theorem dX5_last_6 : decode cX5_last 6 = .ok (.isub, 1) := by decide +kernel
theorem dX5_last_7 : decode cX5_last 7 = .ok (.invokevirtual 23, 3) := by decide +kernel
theorem dX5_last_10 : decode cX5_last 10 = .ok (.ireturn, 1) := by decide +kernel
theorem dX5_addLast_0 : decode cX5_addLast 0 = .ok (.aload_n 0, 1) := by decide +kernel
theorem dX5_addLast_1 : decode cX5_addLast 1 = .ok (.getfield 15, 3) := by decide +kernel
theorem dX5_addLast_4 : decode cX5_addLast 4 = .ok (.aload_n 0, 1) := by decide +kernel
theorem dX5_addLast_5 : decode cX5_addLast 5 = .ok (.getfield 9, 3) := by decide +kernel
theorem dX5_addLast_8 : decode cX5_addLast 8 = .ok (.arraylength, 1) := by decide +kernel
theorem dX5_addLast_9 : decode cX5_addLast 9 = .ok (.invokestatic 19, 3) := by decide +kernel
theorem dX5_addLast_12 : decode cX5_addLast 12 = .ok (.ifCond .eq 23, 3) := by decide +kernel
theorem dX5_addLast_15 : decode cX5_addLast 15 = .ok (.aload_n 0, 1) := by decide +kernel
theorem dX5_addLast_16 : decode cX5_addLast 16 = .ok (.getfield 9, 3) := by decide +kernel
theorem dX5_addLast_19 : decode cX5_addLast 19 = .ok (.aload_n 0, 1) := by decide +kernel
theorem dX5_addLast_20 : decode cX5_addLast 20 = .ok (.getfield 15, 3) := by decide +kernel
theorem dX5_addLast_23 : decode cX5_addLast 23 = .ok (.iload_n 1, 1) := by decide +kernel
theorem dX5_addLast_24 : decode cX5_addLast 24 = .ok (.iastore, 1) := by decide +kernel
theorem dX5_addLast_25 : decode cX5_addLast 25 = .ok (.aload_n 0, 1) := by decide +kernel
theorem dX5_addLast_26 : decode cX5_addLast 26 = .ok (.dup, 1) := by decide +kernel
theorem dX5_addLast_27 : decode cX5_addLast 27 = .ok (.getfield 15, 3) := by decide +kernel
theorem dX5_addLast_30 : decode cX5_addLast 30 = .ok (.iconst 1, 1) := by decide +kernel
theorem dX5_addLast_31 : decode cX5_addLast 31 = .ok (.iadd, 1) := by decide +kernel
theorem dX5_addLast_32 : decode cX5_addLast 32 = .ok (.putfield 15, 3) := by decide +kernel
theorem dX5_addLast_35 : decode cX5_addLast 35 = .ok (.return_, 1) := by decide +kernel
theorem dX5_addFirst_0 : decode cX5_addFirst 0 = .ok (.aload_n 0, 1) := by decide +kernel
theorem dX5_addFirst_1 : decode cX5_addFirst 1 = .ok (.getfield 15, 3) := by decide +kernel
theorem dX5_addFirst_4 : decode cX5_addFirst 4 = .ok (.aload_n 0, 1) := by decide +kernel
theorem dX5_addFirst_5 : decode cX5_addFirst 5 = .ok (.getfield 9, 3) := by decide +kernel
theorem dX5_addFirst_8 : decode cX5_addFirst 8 = .ok (.arraylength, 1) := by decide +kernel
theorem dX5_addFirst_9 : decode cX5_addFirst 9 = .ok (.invokestatic 19, 3) := by decide +kernel
theorem dX5_addFirst_12 : decode cX5_addFirst 12 = .ok (.ifCond .eq 49, 3) := by decide +kernel
theorem dX5_addFirst_15 : decode cX5_addFirst 15 = .ok (.aload_n 0, 1) := by decide +kernel
theorem dX5_addFirst_16 : decode cX5_addFirst 16 = .ok (.getfield 15, 3) := by decide +kernel
theorem dX5_addFirst_19 : decode cX5_addFirst 19 = .ok (.istore_n 2, 1) := by decide +kernel
theorem dX5_addFirst_20 : decode cX5_addFirst 20 = .ok (.iload_n 2, 1) := by decide +kernel
theorem dX5_addFirst_21 : decode cX5_addFirst 21 = .ok (.ifCond .le 23, 3) := by decide +kernel
theorem dX5_addFirst_24 : decode cX5_addFirst 24 = .ok (.aload_n 0, 1) := by decide +kernel
theorem dX5_addFirst_25 : decode cX5_addFirst 25 = .ok (.getfield 9, 3) := by decide +kernel
theorem dX5_addFirst_28 : decode cX5_addFirst 28 = .ok (.iload_n 2, 1) := by decide +kernel
theorem dX5_addFirst_29 : decode cX5_addFirst 29 = .ok (.aload_n 0, 1) := by decide +kernel
theorem dX5_addFirst_30 : decode cX5_addFirst 30 = .ok (.getfield 9, 3) := by decide +kernel
theorem dX5_addFirst_33 : decode cX5_addFirst 33 = .ok (.iload_n 2, 1) := by decide +kernel
theorem dX5_addFirst_34 : decode cX5_addFirst 34 = .ok (.iconst 1, 1) := by decide +kernel
theorem dX5_addFirst_35 : decode cX5_addFirst 35 = .ok (.isub, 1) := by decide +kernel
theorem dX5_addFirst_36 : decode cX5_addFirst 36 = .ok (.iaload, 1) := by decide +kernel
theorem dX5_addFirst_37 : decode cX5_addFirst 37 = .ok (.iastore, 1) := by decide +kernel
theorem dX5_addFirst_38 : decode cX5_addFirst 38 = .ok (.iinc 2 (-1), 3) := by decide +kernel
theorem dX5_addFirst_41 : decode cX5_addFirst 41 = .ok (.goto (-21), 3) := by decide +kernel
theorem dX5_addFirst_44 : decode cX5_addFirst 44 = .ok (.aload_n 0, 1) := by decide +kernel
theorem dX5_addFirst_45 : decode cX5_addFirst 45 = .ok (.getfield 9, 3) := by decide +kernel
theorem dX5_addFirst_48 : decode cX5_addFirst 48 = .ok (.iconst 0, 1) := by decide +kernel
theorem dX5_addFirst_49 : decode cX5_addFirst 49 = .ok (.iload_n 1, 1) := by decide +kernel
theorem dX5_addFirst_50 : decode cX5_addFirst 50 = .ok (.iastore, 1) := by decide +kernel
theorem dX5_addFirst_51 : decode cX5_addFirst 51 = .ok (.aload_n 0, 1) := by decide +kernel
theorem dX5_addFirst_52 : decode cX5_addFirst 52 = .ok (.dup, 1) := by decide +kernel
theorem dX5_addFirst_53 : decode cX5_addFirst 53 = .ok (.getfield 15, 3) := by decide +kernel
theorem dX5_addFirst_56 : decode cX5_addFirst 56 = .ok (.iconst 1, 1) := by decide +kernel
theorem dX5_addFirst_57 : decode cX5_addFirst 57 = .ok (.iadd, 1) := by decide +kernel
theorem dX5_addFirst_58 : decode cX5_addFirst 58 = .ok (.putfield 15, 3) := by decide +kernel
theorem dX5_addFirst_61 : decode cX5_addFirst 61 = .ok (.return_, 1) := by decide +kernel
theorem dX5_removeFirst_0 : decode cX5_removeFirst 0 = .ok (.aload_n 0, 1) := by decide +kernel
theorem dX5_removeFirst_1 : decode cX5_removeFirst 1 = .ok (.getfield 15, 3) := by decide +kernel
theorem dX5_removeFirst_4 : decode cX5_removeFirst 4 = .ok (.ifCond .le 54, 3) := by decide +kernel
theorem dX5_removeFirst_7 : decode cX5_removeFirst 7 = .ok (.aload_n 0, 1) := by decide +kernel
theorem dX5_removeFirst_8 : decode cX5_removeFirst 8 = .ok (.dup, 1) := by decide +kernel
theorem dX5_removeFirst_9 : decode cX5_removeFirst 9 = .ok (.getfield 15, 3) := by decide +kernel
theorem dX5_removeFirst_12 : decode cX5_removeFirst 12 = .ok (.iconst 1, 1) := by decide +kernel
theorem dX5_removeFirst_13 : decode cX5_removeFirst 13 = .ok (.isub, 1) := by decide +kernel
theorem dX5_removeFirst_14 : decode cX5_removeFirst 14 = .ok (.putfield 15, 3) := by decide +kernel
theorem dX5_removeFirst_17 : decode cX5_removeFirst 17 = .ok (.iconst 0, 1) := by decide +kernel
theorem dX5_removeFirst_18 : decode cX5_removeFirst 18 = .ok (.istore_n 1, 1) := by decide +kernel
theorem dX5_removeFirst_19 : decode cX5_removeFirst 19 = .ok (.iload_n 1, 1) := by decide +kernel
theorem dX5_removeFirst_20 : decode cX5_removeFirst 20 = .ok (.aload_n 0, 1) := by decide +kernel
theorem dX5_removeFirst_21 : decode cX5_removeFirst 21 = .ok (.getfield 15, 3) := by decide +kernel
theorem dX5_removeFirst_24 : decode cX5_removeFirst 24 = .ok (.if_icmp .ge 34, 3) := by decide +kernel
theorem dX5_removeFirst_27 : decode cX5_removeFirst 27 = .ok (.iload_n 1, 1) := by decide +kernel
theorem dX5_removeFirst_28 : decode cX5_removeFirst 28 = .ok (.iconst 1, 1) := by decide +kernel
theorem dX5_removeFirst_29 : decode cX5_removeFirst 29 = .ok (.iadd, 1) := by decide +kernel
theorem dX5_removeFirst_30 : decode cX5_removeFirst 30 = .ok (.aload_n 0, 1) := by decide +kernel
theorem dX5_removeFirst_31 : decode cX5_removeFirst 31 = .ok (.getfield 9, 3) := by decide +kernel
theorem dX5_removeFirst_34 : decode cX5_removeFirst 34 = .ok (.arraylength, 1) := by decide +kernel
theorem dX5_removeFirst_35 : decode cX5_removeFirst 35 = .ok (.if_icmp .ge 23, 3) := by decide +kernel
theorem dX5_removeFirst_38 : decode cX5_removeFirst 38 = .ok (.aload_n 0, 1) := by decide +kernel
theorem dX5_removeFirst_39 : decode cX5_removeFirst 39 = .ok (.getfield 9, 3) := by decide +kernel
theorem dX5_removeFirst_42 : decode cX5_removeFirst 42 = .ok (.iload_n 1, 1) := by decide +kernel
theorem dX5_removeFirst_43 : decode cX5_removeFirst 43 = .ok (.aload_n 0, 1) := by decide +kernel
theorem dX5_removeFirst_44 : decode cX5_removeFirst 44 = .ok (.getfield 9, 3) := by decide +kernel
theorem dX5_removeFirst_47 : decode cX5_removeFirst 47 = .ok (.iload_n 1, 1) := by decide +kernel
theorem dX5_removeFirst_48 : decode cX5_removeFirst 48 = .ok (.iconst 1, 1) := by decide +kernel
theorem dX5_removeFirst_49 : decode cX5_removeFirst 49 = .ok (.iadd, 1) := by decide +kernel
theorem dX5_removeFirst_50 : decode cX5_removeFirst 50 = .ok (.iaload, 1) := by decide +kernel
theorem dX5_removeFirst_51 : decode cX5_removeFirst 51 = .ok (.iastore, 1) := by decide +kernel
theorem dX5_removeFirst_52 : decode cX5_removeFirst 52 = .ok (.iinc 1 1, 3) := by decide +kernel
theorem dX5_removeFirst_55 : decode cX5_removeFirst 55 = .ok (.goto (-36), 3) := by decide +kernel
theorem dX5_removeFirst_58 : decode cX5_removeFirst 58 = .ok (.return_, 1) := by decide +kernel
theorem dX5_removeLast_0 : decode cX5_removeLast 0 = .ok (.aload_n 0, 1) := by decide +kernel
theorem dX5_removeLast_1 : decode cX5_removeLast 1 = .ok (.getfield 15, 3) := by decide +kernel
theorem dX5_removeLast_4 : decode cX5_removeLast 4 = .ok (.ifCond .le 13, 3) := by decide +kernel
theorem dX5_removeLast_7 : decode cX5_removeLast 7 = .ok (.aload_n 0, 1) := by decide +kernel
theorem dX5_removeLast_8 : decode cX5_removeLast 8 = .ok (.dup, 1) := by decide +kernel
theorem dX5_removeLast_9 : decode cX5_removeLast 9 = .ok (.getfield 15, 3) := by decide +kernel
theorem dX5_removeLast_12 : decode cX5_removeLast 12 = .ok (.iconst 1, 1) := by decide +kernel
theorem dX5_removeLast_13 : decode cX5_removeLast 13 = .ok (.isub, 1) := by decide +kernel
theorem dX5_removeLast_14 : decode cX5_removeLast 14 = .ok (.putfield 15, 3) := by decide +kernel
theorem dX5_removeLast_17 : decode cX5_removeLast 17 = .ok (.return_, 1) := by decide +kernel
theorem dX5_copyFrom_0 : decode cX5_copyFrom 0 = .ok (.aload_n 0, 1) := by decide +kernel
theorem dX5_copyFrom_1 : decode cX5_copyFrom 1 = .ok (.aload_n 1, 1) := by decide +kernel
theorem dX5_copyFrom_2 : decode cX5_copyFrom 2 = .ok (.getfield 15, 3) := by decide +kernel
theorem dX5_copyFrom_5 : decode cX5_copyFrom 5 = .ok (.putfield 15, 3) := by decide +kernel
theorem dX5_copyFrom_8 : decode cX5_copyFrom 8 = .ok (.iconst 0, 1) := by decide +kernel
theorem dX5_copyFrom_9 : decode cX5_copyFrom 9 = .ok (.istore_n 2, 1) := by decide +kernel
theorem dX5_copyFrom_10 : decode cX5_copyFrom 10 = .ok (.iload_n 2, 1) := by decide +kernel
theorem dX5_copyFrom_11 : decode cX5_copyFrom 11 = .ok (.aload_n 0, 1) := by decide +kernel
theorem dX5_copyFrom_12 : decode cX5_copyFrom 12 = .ok (.getfield 15, 3) := by decide +kernel
theorem dX5_copyFrom_15 : decode cX5_copyFrom 15 = .ok (.if_icmp .ge 29, 3) := by decide +kernel
theorem dX5_copyFrom_18 : decode cX5_copyFrom 18 = .ok (.iload_n 2, 1) := by decide +kernel
theorem dX5_copyFrom_19 : decode cX5_copyFrom 19 = .ok (.aload_n 0, 1) := by decide +kernel
theorem dX5_copyFrom_20 : decode cX5_copyFrom 20 = .ok (.getfield 9, 3) := by decide +kernel
theorem dX5_copyFrom_23 : decode cX5_copyFrom 23 = .ok (.arraylength, 1) := by decide +kernel
theorem dX5_copyFrom_24 : decode cX5_copyFrom 24 = .ok (.if_icmp .ge 20, 3) := by decide +kernel
theorem dX5_copyFrom_27 : decode cX5_copyFrom 27 = .ok (.aload_n 0, 1) := by decide +kernel
theorem dX5_copyFrom_28 : decode cX5_copyFrom 28 = .ok (.getfield 9, 3) := by decide +kernel
theorem dX5_copyFrom_31 : decode cX5_copyFrom 31 = .ok (.iload_n 2, 1) := by decide +kernel
theorem dX5_copyFrom_32 : decode cX5_copyFrom 32 = .ok (.aload_n 1, 1) := by decide +kernel
theorem dX5_copyFrom_33 : decode cX5_copyFrom 33 = .ok (.iload_n 2, 1) := by decide +kernel
theorem dX5_copyFrom_34 : decode cX5_copyFrom 34 = .ok (.invokevirtual 23, 3) := by decide +kernel
theorem dX5_copyFrom_37 : decode cX5_copyFrom 37 = .ok (.iastore, 1) := by decide +kernel
theorem dX5_copyFrom_38 : decode cX5_copyFrom 38 = .ok (.iinc 2 1, 3) := by decide +kernel
theorem dX5_copyFrom_41 : decode cX5_copyFrom 41 = .ok (.goto (-31), 3) := by decide +kernel
theorem dX5_copyFrom_44 : decode cX5_copyFrom 44 = .ok (.return_, 1) := by decide +kernel
theorem dX6_init_0 : decode cX6_init 0 = .ok (.aload_n 0, 1) := by decide +kernel
theorem dX6_init_1 : decode cX6_init 1 = .ok (.invokespecial 1, 3) := by decide +kernel
theorem dX6_init_4 : decode cX6_init 4 = .ok (.aload_n 0, 1) := by decide +kernel
theorem dX6_init_5 : decode cX6_init 5 = .ok (.new 7, 3) := by decide +kernel
theorem dX6_init_8 : decode cX6_init 8 = .ok (.dup, 1) := by decide +kernel
theorem dX6_init_9 : decode cX6_init 9 = .ok (.invokespecial 9, 3) := by decide +kernel
theorem dX6_init_12 : decode cX6_init 12 = .ok (.putfield 10, 3) := by decide +kernel
theorem dX6_init_15 : decode cX6_init 15 = .ok (.aload_n 0, 1) := by decide +kernel
theorem dX6_init_16 : decode cX6_init 16 = .ok (.bipush 20, 2) := by decide +kernel
theorem dX6_init_18 : decode cX6_init 18 = .ok (.newarray .int, 2) := by decide +kernel
theorem dX6_init_20 : decode cX6_init 20 = .ok (.putfield 16, 3) := by decide +kernel
theorem dX6_init_23 : decode cX6_init 23 = .ok (.aload_n 0, 1) := by decide +kernel
theorem dX6_init_24 : decode cX6_init 24 = .ok (.new 20, 3) := by decide +kernel
theorem dX6_init_27 : decode cX6_init 27 = .ok (.dup, 1) := by decide +kernel
theorem dX6_init_28 : decode cX6_init 28 = .ok (.invokespecial 22, 3) := by decide +kernel
theorem dX6_init_31 : decode cX6_init 31 = .ok (.putfield 23, 3) := by decide +kernel
theorem dX6_init_34 : decode cX6_init 34 = .ok (.aload_n 0, 1) := by decide +kernel
theorem dX6_init_35 : decode cX6_init 35 = .ok (.new 20, 3) := by decide +kernel
theorem dX6_init_38 : decode cX6_init 38 = .ok (.dup, 1) := by decide +kernel
theorem dX6_init_39 : decode cX6_init 39 = .ok (.invokespecial 22, 3) := by decide +kernel
theorem dX6_init_42 : decode cX6_init 42 = .ok (.putfield 27, 3) := by decide +kernel
theorem dX6_init_45 : decode cX6_init 45 = .ok (.aload_n 0, 1) := by decide +kernel
theorem dX6_init_46 : decode cX6_init 46 = .ok (.new 20, 3) := by decide +kernel
theorem dX6_init_49 : decode cX6_init 49 = .ok (.dup, 1) := by decide +kernel
theorem dX6_init_50 : decode cX6_init 50 = .ok (.invokespecial 22, 3) := by decide +kernel
theorem dX6_init_53 : decode cX6_init 53 = .ok (.putfield 30, 3) := by decide +kernel
theorem dX6_init_56 : decode cX6_init 56 = .ok (.return_, 1) := by decide +kernel
theorem dX6_rebuild_0 : decode cX6_rebuild 0 = .ok (.iload_n 1, 1) := by decide +kernel
theorem dX6_rebuild_1 : decode cX6_rebuild 1 = .ok (.iconst 4, 1) := by decide +kernel
theorem dX6_rebuild_2 : decode cX6_rebuild 2 = .ok (.bipush 30, 2) := by decide +kernel
theorem dX6_rebuild_4 : decode cX6_rebuild 4 = .ok (.invokestatic 39, 3) := by decide +kernel
theorem dX6_rebuild_7 : decode cX6_rebuild 7 = .ok (.ifCond .eq 15, 3) := by decide +kernel
theorem dX6_rebuild_10 : decode cX6_rebuild 10 = .ok (.iload_n 2, 1) := by decide +kernel
theorem dX6_rebuild_11 : decode cX6_rebuild 11 = .ok (.bipush 10, 2) := by decide +kernel
theorem dX6_rebuild_13 : decode cX6_rebuild 13 = .ok (.sipush 500, 3) := by decide +kernel
theorem dX6_rebuild_16 : decode cX6_rebuild 16 = .ok (.invokestatic 39, 3) := by decide +kernel
theorem dX6_rebuild_19 : decode cX6_rebuild 19 = .ok (.ifCond .ne 13, 3) := by decide +kernel
theorem dX6_rebuild_22 : decode cX6_rebuild 22 = .ok (.new 43, 3) := by decide +kernel
theorem dX6_rebuild_25 : decode cX6_rebuild 25 = .ok (.dup, 1) := by decide +kernel
theorem dX6_rebuild_26 : decode cX6_rebuild 26 = .ok (.ldc 108, 2) := by decide +kernel
theorem dX6_rebuild_28 : decode cX6_rebuild 28 = .ok (.invokespecial 47, 3) := by decide +kernel
theorem dX6_rebuild_31 : decode cX6_rebuild 31 = .ok (.athrow, 1) := by decide +kernel
theorem dX6_rebuild_32 : decode cX6_rebuild 32 = .ok (.aload_n 0, 1) := by decide +kernel
theorem dX6_rebuild_33 : decode cX6_rebuild 33 = .ok (.getfield 23, 3) := by decide +kernel
theorem dX6_rebuild_36 : decode cX6_rebuild 36 = .ok (.getfield 110, 3) := by decide +kernel
theorem dX6_rebuild_39 : decode cX6_rebuild 39 = .ok (.getfield 114, 3) := by decide +kernel
theorem dX6_rebuild_42 : decode cX6_rebuild 42 = .ok (.ifCond .le 13, 3) := by decide +kernel
theorem dX6_rebuild_45 : decode cX6_rebuild 45 = .ok (.new 58, 3) := by decide +kernel
theorem dX6_rebuild_48 : decode cX6_rebuild 48 = .ok (.dup, 1) := by decide +kernel
theorem dX6_rebuild_49 : decode cX6_rebuild 49 = .ok (.ldc 117, 2) := by decide +kernel
theorem dX6_rebuild_51 : decode cX6_rebuild 51 = .ok (.invokespecial 62, 3) := by decide +kernel
theorem dX6_rebuild_54 : decode cX6_rebuild 54 = .ok (.athrow, 1) := by decide +kernel
theorem dX6_rebuild_55 : decode cX6_rebuild 55 = .ok (.aload_n 0, 1) := by decide +kernel
theorem dX6_rebuild_56 : decode cX6_rebuild 56 = .ok (.getfield 23, 3) := by decide +kernel
theorem dX6_rebuild_59 : decode cX6_rebuild 59 = .ok (.getfield 119, 3) := by decide +kernel
theorem dX6_rebuild_62 : decode cX6_rebuild 62 = .ok (.istore_n 3, 1) := by decide +kernel
theorem dX6_rebuild_63 : decode cX6_rebuild 63 = .ok (.aload_n 0, 1) := by decide +kernel
theorem dX6_rebuild_64 : decode cX6_rebuild 64 = .ok (.getfield 23, 3) := by decide +kernel
theorem dX6_rebuild_67 : decode cX6_rebuild 67 = .ok (.iload_n 1, 1) := by decide +kernel
theorem dX6_rebuild_68 : decode cX6_rebuild 68 = .ok (.putfield 122, 3) := by decide +kernel
theorem dX6_rebuild_71 : decode cX6_rebuild 71 = .ok (.aload_n 0, 1) := by decide +kernel
theorem dX6_rebuild_72 : decode cX6_rebuild 72 = .ok (.getfield 23, 3) := by decide +kernel
theorem dX6_rebuild_75 : decode cX6_rebuild 75 = .ok (.iload_n 2, 1) := by decide +kernel
theorem dX6_rebuild_76 : decode cX6_rebuild 76 = .ok (.putfield 119, 3) := by decide +kernel
theorem dX6_rebuild_79 : decode cX6_rebuild 79 = .ok (.iload_n 3, 1) := by decide +kernel
theorem dX6_rebuild_80 : decode cX6_rebuild 80 = .ok (.ireturn, 1) := by decide +kernel
theorem dX6_setToll_0 : decode cX6_setToll 0 = .ok (.iload_n 1, 1) := by decide +kernel
theorem dX6_setToll_1 : decode cX6_setToll 1 = .ok (.iconst 0, 1) := by decide +kernel
theorem dX6_setToll_2 : decode cX6_setToll 2 = .ok (.bipush 9, 2) := by decide +kernel
theorem dX6_setToll_4 : decode cX6_setToll 4 = .ok (.invokestatic 39, 3) := by decide +kernel
theorem dX6_setToll_7 : decode cX6_setToll 7 = .ok (.ifCond .eq 13, 3) := by decide +kernel
theorem dX6_setToll_10 : decode cX6_setToll 10 = .ok (.iload_n 2, 1) := by decide +kernel
theorem dX6_setToll_11 : decode cX6_setToll 11 = .ok (.iconst 0, 1) := by decide +kernel
theorem dX6_setToll_12 : decode cX6_setToll 12 = .ok (.bipush 9, 2) := by decide +kernel
theorem dX6_setToll_14 : decode cX6_setToll 14 = .ok (.invokestatic 39, 3) := by decide +kernel
theorem dX6_setToll_17 : decode cX6_setToll 17 = .ok (.ifCond .ne 13, 3) := by decide +kernel
theorem dX6_setToll_20 : decode cX6_setToll 20 = .ok (.new 43, 3) := by decide +kernel
theorem dX6_setToll_23 : decode cX6_setToll 23 = .ok (.dup, 1) := by decide +kernel
theorem dX6_setToll_24 : decode cX6_setToll 24 = .ok (.ldc 125, 2) := by decide +kernel
theorem dX6_setToll_26 : decode cX6_setToll 26 = .ok (.invokespecial 47, 3) := by decide +kernel
theorem dX6_setToll_29 : decode cX6_setToll 29 = .ok (.athrow, 1) := by decide +kernel
theorem dX6_setToll_30 : decode cX6_setToll 30 = .ok (.bipush 10, 2) := by decide +kernel
theorem dX6_setToll_32 : decode cX6_setToll 32 = .ok (.aload_n 0, 1) := by decide +kernel
theorem dX6_setToll_33 : decode cX6_setToll 33 = .ok (.getfield 23, 3) := by decide +kernel
theorem dX6_setToll_36 : decode cX6_setToll 36 = .ok (.getfield 127, 3) := by decide +kernel
theorem dX6_setToll_39 : decode cX6_setToll 39 = .ok (.imul, 1) := by decide +kernel
theorem dX6_setToll_40 : decode cX6_setToll 40 = .ok (.aload_n 0, 1) := by decide +kernel
theorem dX6_setToll_41 : decode cX6_setToll 41 = .ok (.getfield 23, 3) := by decide +kernel
theorem dX6_setToll_44 : decode cX6_setToll 44 = .ok (.getfield 130, 3) := by decide +kernel
theorem dX6_setToll_47 : decode cX6_setToll 47 = .ok (.iadd, 1) := by decide +kernel
theorem dX6_setToll_48 : decode cX6_setToll 48 = .ok (.istore_n 3, 1) := by decide +kernel
theorem dX6_setToll_49 : decode cX6_setToll 49 = .ok (.aload_n 0, 1) := by decide +kernel
theorem dX6_setToll_50 : decode cX6_setToll 50 = .ok (.getfield 23, 3) := by decide +kernel
theorem dX6_setToll_53 : decode cX6_setToll 53 = .ok (.iload_n 1, 1) := by decide +kernel
theorem dX6_setToll_54 : decode cX6_setToll 54 = .ok (.putfield 127, 3) := by decide +kernel
theorem dX6_setToll_57 : decode cX6_setToll 57 = .ok (.aload_n 0, 1) := by decide +kernel
theorem dX6_setToll_58 : decode cX6_setToll 58 = .ok (.getfield 23, 3) := by decide +kernel
theorem dX6_setToll_61 : decode cX6_setToll 61 = .ok (.iload_n 2, 1) := by decide +kernel
theorem dX6_setToll_62 : decode cX6_setToll 62 = .ok (.putfield 130, 3) := by decide +kernel
theorem dX6_setToll_65 : decode cX6_setToll 65 = .ok (.iload_n 3, 1) := by decide +kernel
theorem dX6_setToll_66 : decode cX6_setToll 66 = .ok (.ireturn, 1) := by decide +kernel
theorem dX6_change_0 : decode cX6_change 0 = .ok (.aload_n 0, 1) := by decide +kernel
theorem dX6_change_1 : decode cX6_change 1 = .ok (.getfield 23, 3) := by decide +kernel
theorem dX6_change_4 : decode cX6_change 4 = .ok (.invokevirtual 133, 3) := by decide +kernel
theorem dX6_change_7 : decode cX6_change 7 = .ok (.aload_n 0, 1) := by decide +kernel
theorem dX6_change_8 : decode cX6_change 8 = .ok (.getfield 23, 3) := by decide +kernel
theorem dX6_change_11 : decode cX6_change 11 = .ok (.getfield 136, 3) := by decide +kernel
theorem dX6_change_14 : decode cX6_change 14 = .ok (.ireturn, 1) := by decide +kernel
theorem dX6_come_0 : decode cX6_come 0 = .ok (.iload_n 1, 1) := by decide +kernel
theorem dX6_come_1 : decode cX6_come 1 = .ok (.iconst 2, 1) := by decide +kernel
theorem dX6_come_2 : decode cX6_come 2 = .ok (.invokestatic 68, 3) := by decide +kernel
theorem dX6_come_5 : decode cX6_come 5 = .ok (.ifCond .eq 44, 3) := by decide +kernel
theorem dX6_come_8 : decode cX6_come 8 = .ok (.iload_n 2, 1) := by decide +kernel
theorem dX6_come_9 : decode cX6_come 9 = .ok (.iconst 1, 1) := by decide +kernel
theorem dX6_come_10 : decode cX6_come 10 = .ok (.iconst 4, 1) := by decide +kernel
theorem dX6_come_11 : decode cX6_come 11 = .ok (.invokestatic 39, 3) := by decide +kernel
theorem dX6_come_14 : decode cX6_come 14 = .ok (.ifCond .eq 35, 3) := by decide +kernel
theorem dX6_come_17 : decode cX6_come 17 = .ok (.iload_n 3, 1) := by decide +kernel
theorem dX6_come_18 : decode cX6_come 18 = .ok (.iconst 1, 1) := by decide +kernel
theorem dX6_come_19 : decode cX6_come 19 = .ok (.sipush 200, 3) := by decide +kernel
theorem dX6_come_22 : decode cX6_come 22 = .ok (.invokestatic 39, 3) := by decide +kernel
theorem dX6_come_25 : decode cX6_come 25 = .ok (.ifCond .eq 24, 3) := by decide +kernel
theorem dX6_come_28 : decode cX6_come 28 = .ok (.iload 4, 2) := by decide +kernel
theorem dX6_come_30 : decode cX6_come 30 = .ok (.iconst 1, 1) := by decide +kernel
theorem dX6_come_31 : decode cX6_come 31 = .ok (.iconst 3, 1) := by decide +kernel
theorem dX6_come_32 : decode cX6_come 32 = .ok (.invokestatic 39, 3) := by decide +kernel
theorem dX6_come_35 : decode cX6_come 35 = .ok (.ifCond .eq 14, 3) := by decide +kernel
theorem dX6_come_38 : decode cX6_come 38 = .ok (.iload 5, 2) := by decide +kernel
theorem dX6_come_40 : decode cX6_come 40 = .ok (.iconst 0, 1) := by decide +kernel
theorem dX6_come_41 : decode cX6_come 41 = .ok (.bipush 100, 2) := by decide +kernel
theorem dX6_come_43 : decode cX6_come 43 = .ok (.invokestatic 39, 3) := by decide +kernel
theorem dX6_come_46 : decode cX6_come 46 = .ok (.ifCond .ne 13, 3) := by decide +kernel
theorem dX6_come_49 : decode cX6_come 49 = .ok (.new 43, 3) := by decide +kernel
theorem dX6_come_52 : decode cX6_come 52 = .ok (.dup, 1) := by decide +kernel
theorem dX6_come_53 : decode cX6_come 53 = .ok (.ldc 139, 2) := by decide +kernel
theorem dX6_come_55 : decode cX6_come 55 = .ok (.invokespecial 47, 3) := by decide +kernel
theorem dX6_come_58 : decode cX6_come 58 = .ok (.athrow, 1) := by decide +kernel
theorem dX6_come_59 : decode cX6_come 59 = .ok (.aload_n 0, 1) := by decide +kernel
theorem dX6_come_60 : decode cX6_come 60 = .ok (.getfield 23, 3) := by decide +kernel
theorem dX6_come_63 : decode cX6_come 63 = .ok (.invokevirtual 141, 3) := by decide +kernel
theorem dX6_come_66 : decode cX6_come 66 = .ok (.astore 7, 2) := by decide +kernel
theorem dX6_come_68 : decode cX6_come 68 = .ok (.aload 7, 2) := by decide +kernel
theorem dX6_come_70 : decode cX6_come 70 = .ok (.ifnonnull 13, 3) := by decide +kernel
theorem dX6_come_73 : decode cX6_come 73 = .ok (.new 58, 3) := by decide +kernel
theorem dX6_come_76 : decode cX6_come 76 = .ok (.dup, 1) := by decide +kernel
theorem dX6_come_77 : decode cX6_come 77 = .ok (.ldc 145, 2) := by decide +kernel
theorem dX6_come_79 : decode cX6_come 79 = .ok (.invokespecial 62, 3) := by decide +kernel
theorem dX6_come_82 : decode cX6_come 82 = .ok (.athrow, 1) := by decide +kernel
theorem dX6_come_83 : decode cX6_come 83 = .ok (.aload 7, 2) := by decide +kernel
theorem dX6_come_85 : decode cX6_come 85 = .ok (.iload_n 1, 1) := by decide +kernel
theorem dX6_come_86 : decode cX6_come 86 = .ok (.putfield 147, 3) := by decide +kernel
theorem dX6_come_89 : decode cX6_come 89 = .ok (.aload 7, 2) := by decide +kernel
theorem dX6_come_91 : decode cX6_come 91 = .ok (.iload_n 2, 1) := by decide +kernel
theorem dX6_come_92 : decode cX6_come 92 = .ok (.putfield 152, 3) := by decide +kernel
theorem dX6_come_95 : decode cX6_come 95 = .ok (.aload 7, 2) := by decide +kernel
theorem dX6_come_97 : decode cX6_come 97 = .ok (.iload_n 3, 1) := by decide +kernel
theorem dX6_come_98 : decode cX6_come 98 = .ok (.putfield 155, 3) := by decide +kernel
theorem dX6_come_101 : decode cX6_come 101 = .ok (.aload 7, 2) := by decide +kernel
theorem dX6_come_103 : decode cX6_come 103 = .ok (.iload 4, 2) := by decide +kernel
theorem dX6_come_105 : decode cX6_come 105 = .ok (.putfield 158, 3) := by decide +kernel
theorem dX6_come_108 : decode cX6_come 108 = .ok (.aload 7, 2) := by decide +kernel
theorem dX6_come_110 : decode cX6_come 110 = .ok (.iload 5, 2) := by decide +kernel
theorem dX6_come_112 : decode cX6_come 112 = .ok (.putfield 161, 3) := by decide +kernel
theorem dX6_come_115 : decode cX6_come 115 = .ok (.aload 7, 2) := by decide +kernel
theorem dX6_come_117 : decode cX6_come 117 = .ok (.iload 6, 2) := by decide +kernel
theorem dX6_come_119 : decode cX6_come 119 = .ok (.putfield 164, 3) := by decide +kernel
theorem dX6_come_122 : decode cX6_come 122 = .ok (.aload_n 0, 1) := by decide +kernel
theorem dX6_come_123 : decode cX6_come 123 = .ok (.getfield 23, 3) := by decide +kernel
theorem dX6_come_126 : decode cX6_come 126 = .ok (.iload_n 1, 1) := by decide +kernel
theorem dX6_come_127 : decode cX6_come 127 = .ok (.invokevirtual 168, 3) := by decide +kernel
theorem dX6_come_130 : decode cX6_come 130 = .ok (.getfield 172, 3) := by decide +kernel
theorem dX6_come_133 : decode cX6_come 133 = .ok (.aload 7, 2) := by decide +kernel
theorem dX6_come_135 : decode cX6_come 135 = .ok (.getfield 177, 3) := by decide +kernel
theorem dX6_come_138 : decode cX6_come 138 = .ok (.invokevirtual 180, 3) := by decide +kernel
theorem dX6_come_141 : decode cX6_come 141 = .ok (.aload 7, 2) := by decide +kernel
theorem dX6_come_143 : decode cX6_come 143 = .ok (.getfield 177, 3) := by decide +kernel
theorem dX6_come_146 : decode cX6_come 146 = .ok (.ireturn, 1) := by decide +kernel
theorem dX6_cart_0 : decode cX6_cart 0 = .ok (.aload_n 0, 1) := by decide +kernel
theorem dX6_cart_1 : decode cX6_cart 1 = .ok (.getfield 23, 3) := by decide +kernel
theorem dX6_cart_4 : decode cX6_cart 4 = .ok (.iload_n 1, 1) := by decide +kernel
theorem dX6_cart_5 : decode cX6_cart 5 = .ok (.invokevirtual 184, 3) := by decide +kernel
theorem dX6_cart_8 : decode cX6_cart 8 = .ok (.astore_n 3, 1) := by decide +kernel
theorem dX6_cart_9 : decode cX6_cart 9 = .ok (.aload_n 3, 1) := by decide +kernel
theorem dX6_cart_10 : decode cX6_cart 10 = .ok (.ifnull 12, 3) := by decide +kernel
theorem dX6_cart_13 : decode cX6_cart 13 = .ok (.iload_n 2, 1) := by decide +kernel
theorem dX6_cart_14 : decode cX6_cart 14 = .ok (.bipush 9, 2) := by decide +kernel
theorem dX6_cart_16 : decode cX6_cart 16 = .ok (.invokestatic 68, 3) := by decide +kernel
theorem dX6_cart_19 : decode cX6_cart 19 = .ok (.ifCond .ne 13, 3) := by decide +kernel
theorem dX6_cart_22 : decode cX6_cart 22 = .ok (.new 72, 3) := by decide +kernel
theorem dX6_cart_25 : decode cX6_cart 25 = .ok (.dup, 1) := by decide +kernel
theorem dX6_cart_26 : decode cX6_cart 26 = .ok (.ldc 188, 2) := by decide +kernel
theorem dX6_cart_28 : decode cX6_cart 28 = .ok (.invokespecial 76, 3) := by decide +kernel
theorem dX6_cart_31 : decode cX6_cart 31 = .ok (.athrow, 1) := by decide +kernel
theorem dX6_cart_32 : decode cX6_cart 32 = .ok (.aload_n 0, 1) := by decide +kernel
theorem dX6_cart_33 : decode cX6_cart 33 = .ok (.getfield 23, 3) := by decide +kernel
theorem dX6_cart_36 : decode cX6_cart 36 = .ok (.aload_n 3, 1) := by decide +kernel
theorem dX6_cart_37 : decode cX6_cart 37 = .ok (.iload_n 2, 1) := by decide +kernel
theorem dX6_cart_38 : decode cX6_cart 38 = .ok (.invokevirtual 190, 3) := by decide +kernel
theorem dX6_cart_41 : decode cX6_cart 41 = .ok (.ireturn, 1) := by decide +kernel
theorem dX6_queue_0 : decode cX6_queue 0 = .ok (.iload_n 1, 1) := by decide +kernel
theorem dX6_queue_1 : decode cX6_queue 1 = .ok (.iconst 2, 1) := by decide +kernel
theorem dX6_queue_2 : decode cX6_queue 2 = .ok (.invokestatic 68, 3) := by decide +kernel
theorem dX6_queue_5 : decode cX6_queue 5 = .ok (.ifCond .eq 24, 3) := by decide +kernel
theorem dX6_queue_8 : decode cX6_queue 8 = .ok (.iload_n 2, 1) := by decide +kernel
theorem dX6_queue_9 : decode cX6_queue 9 = .ok (.aload_n 0, 1) := by decide +kernel
theorem dX6_queue_10 : decode cX6_queue 10 = .ok (.getfield 23, 3) := by decide +kernel
theorem dX6_queue_13 : decode cX6_queue 13 = .ok (.iload_n 1, 1) := by decide +kernel
theorem dX6_queue_14 : decode cX6_queue 14 = .ok (.invokevirtual 168, 3) := by decide +kernel
theorem dX6_queue_17 : decode cX6_queue 17 = .ok (.getfield 172, 3) := by decide +kernel
theorem dX6_queue_20 : decode cX6_queue 20 = .ok (.getfield 114, 3) := by decide +kernel
theorem dX6_queue_23 : decode cX6_queue 23 = .ok (.invokestatic 68, 3) := by decide +kernel
theorem dX6_queue_26 : decode cX6_queue 26 = .ok (.ifCond .ne 13, 3) := by decide +kernel
theorem dX6_queue_29 : decode cX6_queue 29 = .ok (.new 72, 3) := by decide +kernel
theorem dX6_queue_32 : decode cX6_queue 32 = .ok (.dup, 1) := by decide +kernel
theorem dX6_queue_33 : decode cX6_queue 33 = .ok (.ldc 194, 2) := by decide +kernel
theorem dX6_queue_35 : decode cX6_queue 35 = .ok (.invokespecial 76, 3) := by decide +kernel
theorem dX6_queue_38 : decode cX6_queue 38 = .ok (.athrow, 1) := by decide +kernel
theorem dX6_queue_39 : decode cX6_queue 39 = .ok (.aload_n 0, 1) := by decide +kernel
theorem dX6_queue_40 : decode cX6_queue 40 = .ok (.getfield 23, 3) := by decide +kernel
theorem dX6_queue_43 : decode cX6_queue 43 = .ok (.iload_n 1, 1) := by decide +kernel
theorem dX6_queue_44 : decode cX6_queue 44 = .ok (.invokevirtual 168, 3) := by decide +kernel
theorem dX6_queue_47 : decode cX6_queue 47 = .ok (.getfield 172, 3) := by decide +kernel
theorem dX6_queue_50 : decode cX6_queue 50 = .ok (.iload_n 2, 1) := by decide +kernel
theorem dX6_queue_51 : decode cX6_queue 51 = .ok (.invokevirtual 196, 3) := by decide +kernel
theorem dX6_queue_54 : decode cX6_queue 54 = .ok (.ireturn, 1) := by decide +kernel
theorem dX6_box_0 : decode cX6_box 0 = .ok (.iload_n 1, 1) := by decide +kernel
theorem dX6_box_1 : decode cX6_box 1 = .ok (.iconst 2, 1) := by decide +kernel
theorem dX6_box_2 : decode cX6_box 2 = .ok (.invokestatic 68, 3) := by decide +kernel
theorem dX6_box_5 : decode cX6_box 5 = .ok (.ifCond .eq 11, 3) := by decide +kernel
theorem dX6_box_8 : decode cX6_box 8 = .ok (.iload_n 2, 1) := by decide +kernel
theorem dX6_box_9 : decode cX6_box 9 = .ok (.iconst 4, 1) := by decide +kernel
theorem dX6_box_10 : decode cX6_box 10 = .ok (.invokestatic 68, 3) := by decide +kernel
theorem dX6_box_13 : decode cX6_box 13 = .ok (.ifCond .ne 13, 3) := by decide +kernel
theorem dX6_box_16 : decode cX6_box 16 = .ok (.new 72, 3) := by decide +kernel
theorem dX6_box_19 : decode cX6_box 19 = .ok (.dup, 1) := by decide +kernel
theorem dX6_box_20 : decode cX6_box 20 = .ok (.ldc 199, 2) := by decide +kernel
theorem dX6_box_22 : decode cX6_box 22 = .ok (.invokespecial 76, 3) := by decide +kernel
theorem dX6_box_25 : decode cX6_box 25 = .ok (.athrow, 1) := by decide +kernel
theorem dX6_box_26 : decode cX6_box 26 = .ok (.aload_n 0, 1) := by decide +kernel
theorem dX6_box_27 : decode cX6_box 27 = .ok (.getfield 23, 3) := by decide +kernel
theorem dX6_box_30 : decode cX6_box 30 = .ok (.iload_n 1, 1) := by decide +kernel
theorem dX6_box_31 : decode cX6_box 31 = .ok (.invokevirtual 168, 3) := by decide +kernel
theorem dX6_box_34 : decode cX6_box 34 = .ok (.iload_n 2, 1) := by decide +kernel
theorem dX6_box_35 : decode cX6_box 35 = .ok (.invokevirtual 201, 3) := by decide +kernel
theorem dX6_box_38 : decode cX6_box 38 = .ok (.ireturn, 1) := by decide +kernel
theorem dX6_empty_0 : decode cX6_empty 0 = .ok (.iload_n 1, 1) := by decide +kernel
theorem dX6_empty_1 : decode cX6_empty 1 = .ok (.iconst 2, 1) := by decide +kernel
theorem dX6_empty_2 : decode cX6_empty 2 = .ok (.invokestatic 68, 3) := by decide +kernel
theorem dX6_empty_5 : decode cX6_empty 5 = .ok (.ifCond .ne 13, 3) := by decide +kernel
theorem dX6_empty_8 : decode cX6_empty 8 = .ok (.new 72, 3) := by decide +kernel
theorem dX6_empty_11 : decode cX6_empty 11 = .ok (.dup, 1) := by decide +kernel
theorem dX6_empty_12 : decode cX6_empty 12 = .ok (.ldc 204, 2) := by decide +kernel
theorem dX6_empty_14 : decode cX6_empty 14 = .ok (.invokespecial 76, 3) := by decide +kernel
theorem dX6_empty_17 : decode cX6_empty 17 = .ok (.athrow, 1) := by decide +kernel
theorem dX6_empty_18 : decode cX6_empty 18 = .ok (.aload_n 0, 1) := by decide +kernel
theorem dX6_empty_19 : decode cX6_empty 19 = .ok (.getfield 23, 3) := by decide +kernel
theorem dX6_empty_22 : decode cX6_empty 22 = .ok (.iload_n 1, 1) := by decide +kernel
theorem dX6_empty_23 : decode cX6_empty 23 = .ok (.invokevirtual 168, 3) := by decide +kernel
theorem dX6_empty_26 : decode cX6_empty 26 = .ok (.astore_n 2, 1) := by decide +kernel
theorem dX6_empty_27 : decode cX6_empty 27 = .ok (.aload_n 2, 1) := by decide +kernel
theorem dX6_empty_28 : decode cX6_empty 28 = .ok (.getfield 206, 3) := by decide +kernel
theorem dX6_empty_31 : decode cX6_empty 31 = .ok (.istore_n 3, 1) := by decide +kernel
theorem dX6_empty_32 : decode cX6_empty 32 = .ok (.aload_n 2, 1) := by decide +kernel
theorem dX6_empty_33 : decode cX6_empty 33 = .ok (.iconst 0, 1) := by decide +kernel
theorem dX6_empty_34 : decode cX6_empty 34 = .ok (.putfield 209, 3) := by decide +kernel
theorem dX6_empty_37 : decode cX6_empty 37 = .ok (.aload_n 2, 1) := by decide +kernel
theorem dX6_empty_38 : decode cX6_empty 38 = .ok (.iconst 0, 1) := by decide +kernel
theorem dX6_empty_39 : decode cX6_empty 39 = .ok (.putfield 206, 3) := by decide +kernel
theorem dX6_empty_42 : decode cX6_empty 42 = .ok (.iload_n 3, 1) := by decide +kernel
theorem dX6_empty_43 : decode cX6_empty 43 = .ok (.ireturn, 1) := by decide +kernel
theorem dX6_pass_0 : decode cX6_pass 0 = .ok (.iload_n 1, 1) := by decide +kernel
theorem dX6_pass_1 : decode cX6_pass 1 = .ok (.iconst 1, 1) := by decide +kernel
theorem dX6_pass_2 : decode cX6_pass 2 = .ok (.sipush 200, 3) := by decide +kernel
theorem dX6_pass_5 : decode cX6_pass 5 = .ok (.invokestatic 39, 3) := by decide +kernel
theorem dX6_pass_8 : decode cX6_pass 8 = .ok (.ifCond .ne 13, 3) := by decide +kernel
theorem dX6_pass_11 : decode cX6_pass 11 = .ok (.new 43, 3) := by decide +kernel
theorem dX6_pass_14 : decode cX6_pass 14 = .ok (.dup, 1) := by decide +kernel
theorem dX6_pass_15 : decode cX6_pass 15 = .ok (.ldc 210, 2) := by decide +kernel
theorem dX6_pass_17 : decode cX6_pass 17 = .ok (.invokespecial 47, 3) := by decide +kernel
theorem dX6_pass_20 : decode cX6_pass 20 = .ok (.athrow, 1) := by decide +kernel
theorem dX6_pass_21 : decode cX6_pass 21 = .ok (.aload_n 0, 1) := by decide +kernel
theorem dX6_pass_22 : decode cX6_pass 22 = .ok (.getfield 23, 3) := by decide +kernel
theorem dX6_pass_25 : decode cX6_pass 25 = .ok (.iload_n 1, 1) := by decide +kernel
theorem dX6_pass_26 : decode cX6_pass 26 = .ok (.invokevirtual 212, 3) := by decide +kernel
theorem dX6_pass_29 : decode cX6_pass 29 = .ok (.ireturn, 1) := by decide +kernel
theorem dX6_count_0 : decode cX6_count 0 = .ok (.iload_n 1, 1) := by decide +kernel
theorem dX6_count_1 : decode cX6_count 1 = .ok (.bipush 11, 2) := by decide +kernel
theorem dX6_count_3 : decode cX6_count 3 = .ok (.invokestatic 68, 3) := by decide +kernel
theorem dX6_count_6 : decode cX6_count 6 = .ok (.ifCond .ne 13, 3) := by decide +kernel
theorem dX6_count_9 : decode cX6_count 9 = .ok (.new 72, 3) := by decide +kernel
theorem dX6_count_12 : decode cX6_count 12 = .ok (.dup, 1) := by decide +kernel
theorem dX6_count_13 : decode cX6_count 13 = .ok (.ldc 215, 2) := by decide +kernel
theorem dX6_count_15 : decode cX6_count 15 = .ok (.invokespecial 76, 3) := by decide +kernel
theorem dX6_count_18 : decode cX6_count 18 = .ok (.athrow, 1) := by decide +kernel
theorem dX6_count_19 : decode cX6_count 19 = .ok (.aload_n 0, 1) := by decide +kernel
theorem dX6_count_20 : decode cX6_count 20 = .ok (.iload_n 1, 1) := by decide +kernel
theorem dX6_count_21 : decode cX6_count 21 = .ok (.invokevirtual 217, 3) := by decide +kernel
theorem dX6_count_24 : decode cX6_count 24 = .ok (.ireturn, 1) := by decide +kernel
theorem dX6_over_0 : decode cX6_over 0 = .ok (.aload_n 0, 1) := by decide +kernel
theorem dX6_over_1 : decode cX6_over 1 = .ok (.getfield 23, 3) := by decide +kernel
theorem dX6_over_4 : decode cX6_over 4 = .ok (.iload_n 1, 1) := by decide +kernel
theorem dX6_over_5 : decode cX6_over 5 = .ok (.invokevirtual 184, 3) := by decide +kernel
theorem dX6_over_8 : decode cX6_over 8 = .ok (.ifnonnull 13, 3) := by decide +kernel
theorem dX6_over_11 : decode cX6_over 11 = .ok (.new 72, 3) := by decide +kernel
theorem dX6_over_14 : decode cX6_over 14 = .ok (.dup, 1) := by decide +kernel
theorem dX6_over_15 : decode cX6_over 15 = .ok (.ldc 220, 2) := by decide +kernel
theorem dX6_over_17 : decode cX6_over 17 = .ok (.invokespecial 76, 3) := by decide +kernel
theorem dX6_over_20 : decode cX6_over 20 = .ok (.athrow, 1) := by decide +kernel
theorem dX6_over_21 : decode cX6_over 21 = .ok (.aload_n 0, 1) := by decide +kernel
theorem dX6_over_22 : decode cX6_over 22 = .ok (.getfield 27, 3) := by decide +kernel
theorem dX6_over_25 : decode cX6_over 25 = .ok (.aload_n 0, 1) := by decide +kernel
theorem dX6_over_26 : decode cX6_over 26 = .ok (.getfield 23, 3) := by decide +kernel
theorem dX6_over_29 : decode cX6_over 29 = .ok (.invokevirtual 222, 3) := by decide +kernel
theorem dX6_over_32 : decode cX6_over 32 = .ok (.iconst 0, 1) := by decide +kernel
theorem dX6_over_33 : decode cX6_over 33 = .ok (.istore_n 2, 1) := by decide +kernel
theorem dX6_over_34 : decode cX6_over 34 = .ok (.iload_n 2, 1) := by decide +kernel
theorem dX6_over_35 : decode cX6_over 35 = .ok (.sipush 200, 3) := by decide +kernel
theorem dX6_over_38 : decode cX6_over 38 = .ok (.if_icmp .gt 31, 3) := by decide +kernel
theorem dX6_over_41 : decode cX6_over 41 = .ok (.aload_n 0, 1) := by decide +kernel
theorem dX6_over_42 : decode cX6_over 42 = .ok (.getfield 27, 3) := by decide +kernel
theorem dX6_over_45 : decode cX6_over 45 = .ok (.iload_n 1, 1) := by decide +kernel
theorem dX6_over_46 : decode cX6_over 46 = .ok (.invokevirtual 226, 3) := by decide +kernel
theorem dX6_over_49 : decode cX6_over 49 = .ok (.ifCond .eq 5, 3) := by decide +kernel
theorem dX6_over_52 : decode cX6_over 52 = .ok (.iload_n 2, 1) := by decide +kernel
theorem dX6_over_53 : decode cX6_over 53 = .ok (.ireturn, 1) := by decide +kernel
theorem dX6_over_54 : decode cX6_over 54 = .ok (.aload_n 0, 1) := by decide +kernel
theorem dX6_over_55 : decode cX6_over 55 = .ok (.getfield 27, 3) := by decide +kernel
theorem dX6_over_58 : decode cX6_over 58 = .ok (.iconst 1, 1) := by decide +kernel
theorem dX6_over_59 : decode cX6_over 59 = .ok (.invokevirtual 212, 3) := by decide +kernel
theorem dX6_over_62 : decode cX6_over 62 = .ok (.pop, 1) := by decide +kernel
theorem dX6_over_63 : decode cX6_over 63 = .ok (.iinc 2 1, 3) := by decide +kernel
theorem dX6_over_66 : decode cX6_over 66 = .ok (.goto (-32), 3) := by decide +kernel
theorem dX6_over_69 : decode cX6_over 69 = .ok (.iconst (-1), 1) := by decide +kernel
theorem dX6_over_70 : decode cX6_over 70 = .ok (.ireturn, 1) := by decide +kernel
theorem dX6_keep_0 : decode cX6_keep 0 = .ok (.aload_n 0, 1) := by decide +kernel
theorem dX6_keep_1 : decode cX6_keep 1 = .ok (.getfield 30, 3) := by decide +kernel
theorem dX6_keep_4 : decode cX6_keep 4 = .ok (.aload_n 0, 1) := by decide +kernel
theorem dX6_keep_5 : decode cX6_keep 5 = .ok (.getfield 23, 3) := by decide +kernel
theorem dX6_keep_8 : decode cX6_keep 8 = .ok (.invokevirtual 222, 3) := by decide +kernel
theorem dX6_keep_11 : decode cX6_keep 11 = .ok (.aload_n 0, 1) := by decide +kernel
theorem dX6_keep_12 : decode cX6_keep 12 = .ok (.getfield 30, 3) := by decide +kernel
theorem dX6_keep_15 : decode cX6_keep 15 = .ok (.bipush 60, 2) := by decide +kernel
theorem dX6_keep_17 : decode cX6_keep 17 = .ok (.invokevirtual 212, 3) := by decide +kernel
theorem dX6_keep_20 : decode cX6_keep 20 = .ok (.istore_n 1, 1) := by decide +kernel
theorem dX6_keep_21 : decode cX6_keep 21 = .ok (.iconst (-1), 1) := by decide +kernel
theorem dX6_keep_22 : decode cX6_keep 22 = .ok (.istore_n 2, 1) := by decide +kernel
theorem dX6_keep_23 : decode cX6_keep 23 = .ok (.iconst 0, 1) := by decide +kernel
theorem dX6_keep_24 : decode cX6_keep 24 = .ok (.istore_n 3, 1) := by decide +kernel
theorem dX6_keep_25 : decode cX6_keep 25 = .ok (.aload_n 0, 1) := by decide +kernel
theorem dX6_keep_26 : decode cX6_keep 26 = .ok (.getfield 27, 3) := by decide +kernel
theorem dX6_keep_29 : decode cX6_keep 29 = .ok (.aload_n 0, 1) := by decide +kernel
theorem dX6_keep_30 : decode cX6_keep 30 = .ok (.getfield 23, 3) := by decide +kernel
theorem dX6_keep_33 : decode cX6_keep 33 = .ok (.invokevirtual 222, 3) := by decide +kernel
theorem dX6_keep_36 : decode cX6_keep 36 = .ok (.iconst 0, 1) := by decide +kernel
theorem dX6_keep_37 : decode cX6_keep 37 = .ok (.istore 4, 2) := by decide +kernel
theorem dX6_keep_39 : decode cX6_keep 39 = .ok (.iload 4, 2) := by decide +kernel
theorem dX6_keep_41 : decode cX6_keep 41 = .ok (.bipush 60, 2) := by decide +kernel
theorem dX6_keep_43 : decode cX6_keep 43 = .ok (.if_icmp .ge 66, 3) := by decide +kernel
theorem dX6_keep_46 : decode cX6_keep 46 = .ok (.aload_n 0, 1) := by decide +kernel
theorem dX6_keep_47 : decode cX6_keep 47 = .ok (.getfield 30, 3) := by decide +kernel
theorem dX6_keep_50 : decode cX6_keep 50 = .ok (.aload_n 0, 1) := by decide +kernel
theorem dX6_keep_51 : decode cX6_keep 51 = .ok (.getfield 27, 3) := by decide +kernel
theorem dX6_keep_54 : decode cX6_keep 54 = .ok (.invokevirtual 222, 3) := by decide +kernel
theorem dX6_keep_57 : decode cX6_keep 57 = .ok (.aload_n 0, 1) := by decide +kernel
theorem dX6_keep_58 : decode cX6_keep 58 = .ok (.getfield 30, 3) := by decide +kernel
theorem dX6_keep_61 : decode cX6_keep 61 = .ok (.invokevirtual 133, 3) := by decide +kernel
theorem dX6_keep_64 : decode cX6_keep 64 = .ok (.iload_n 3, 1) := by decide +kernel
theorem dX6_keep_65 : decode cX6_keep 65 = .ok (.aload_n 0, 1) := by decide +kernel
theorem dX6_keep_66 : decode cX6_keep 66 = .ok (.getfield 30, 3) := by decide +kernel
theorem dX6_keep_69 : decode cX6_keep 69 = .ok (.bipush 60, 2) := by decide +kernel
theorem dX6_keep_71 : decode cX6_keep 71 = .ok (.iload 4, 2) := by decide +kernel
theorem dX6_keep_73 : decode cX6_keep 73 = .ok (.isub, 1) := by decide +kernel
theorem dX6_keep_74 : decode cX6_keep 74 = .ok (.invokevirtual 212, 3) := by decide +kernel
theorem dX6_keep_77 : decode cX6_keep 77 = .ok (.iadd, 1) := by decide +kernel
theorem dX6_keep_78 : decode cX6_keep 78 = .ok (.istore 5, 2) := by decide +kernel
theorem dX6_keep_80 : decode cX6_keep 80 = .ok (.iload 5, 2) := by decide +kernel
theorem dX6_keep_82 : decode cX6_keep 82 = .ok (.iload_n 1, 1) := by decide +kernel
theorem dX6_keep_83 : decode cX6_keep 83 = .ok (.if_icmp .le 9, 3) := by decide +kernel
theorem dX6_keep_86 : decode cX6_keep 86 = .ok (.iload 5, 2) := by decide +kernel
theorem dX6_keep_88 : decode cX6_keep 88 = .ok (.istore_n 1, 1) := by decide +kernel
theorem dX6_keep_89 : decode cX6_keep 89 = .ok (.iload 4, 2) := by decide +kernel
theorem dX6_keep_91 : decode cX6_keep 91 = .ok (.istore_n 2, 1) := by decide +kernel
theorem dX6_keep_92 : decode cX6_keep 92 = .ok (.iload_n 3, 1) := by decide +kernel
theorem dX6_keep_93 : decode cX6_keep 93 = .ok (.aload_n 0, 1) := by decide +kernel
theorem dX6_keep_94 : decode cX6_keep 94 = .ok (.getfield 27, 3) := by decide +kernel
theorem dX6_keep_97 : decode cX6_keep 97 = .ok (.iconst 1, 1) := by decide +kernel
theorem dX6_keep_98 : decode cX6_keep 98 = .ok (.invokevirtual 212, 3) := by decide +kernel
theorem dX6_keep_101 : decode cX6_keep 101 = .ok (.iadd, 1) := by decide +kernel
theorem dX6_keep_102 : decode cX6_keep 102 = .ok (.istore_n 3, 1) := by decide +kernel
theorem dX6_keep_103 : decode cX6_keep 103 = .ok (.iinc 4 1, 3) := by decide +kernel
theorem dX6_keep_106 : decode cX6_keep 106 = .ok (.goto (-67), 3) := by decide +kernel
theorem dX6_keep_109 : decode cX6_keep 109 = .ok (.iload_n 2, 1) := by decide +kernel
theorem dX6_keep_110 : decode cX6_keep 110 = .ok (.ireturn, 1) := by decide +kernel
theorem dX6_foresee_0 : decode cX6_foresee 0 = .ok (.iload_n 1, 1) := by decide +kernel
theorem dX6_foresee_1 : decode cX6_foresee 1 = .ok (.iconst 1, 1) := by decide +kernel
theorem dX6_foresee_2 : decode cX6_foresee 2 = .ok (.bipush 100, 2) := by decide +kernel
theorem dX6_foresee_4 : decode cX6_foresee 4 = .ok (.invokestatic 39, 3) := by decide +kernel
theorem dX6_foresee_7 : decode cX6_foresee 7 = .ok (.ifCond .ne 13, 3) := by decide +kernel
theorem dX6_foresee_10 : decode cX6_foresee 10 = .ok (.new 43, 3) := by decide +kernel
theorem dX6_foresee_13 : decode cX6_foresee 13 = .ok (.dup, 1) := by decide +kernel
theorem dX6_foresee_14 : decode cX6_foresee 14 = .ok (.ldc 229, 2) := by decide +kernel
theorem dX6_foresee_16 : decode cX6_foresee 16 = .ok (.invokespecial 47, 3) := by decide +kernel
theorem dX6_foresee_19 : decode cX6_foresee 19 = .ok (.athrow, 1) := by decide +kernel
theorem dX6_foresee_20 : decode cX6_foresee 20 = .ok (.iload_n 2, 1) := by decide +kernel
theorem dX6_foresee_21 : decode cX6_foresee 21 = .ok (.iconst 3, 1) := by decide +kernel
theorem dX6_foresee_22 : decode cX6_foresee 22 = .ok (.invokestatic 68, 3) := by decide +kernel
theorem dX6_foresee_25 : decode cX6_foresee 25 = .ok (.ifCond .ne 13, 3) := by decide +kernel
theorem dX6_foresee_28 : decode cX6_foresee 28 = .ok (.new 72, 3) := by decide +kernel
theorem dX6_foresee_31 : decode cX6_foresee 31 = .ok (.dup, 1) := by decide +kernel
theorem dX6_foresee_32 : decode cX6_foresee 32 = .ok (.ldc 74, 2) := by decide +kernel
theorem dX6_foresee_34 : decode cX6_foresee 34 = .ok (.invokespecial 76, 3) := by decide +kernel
theorem dX6_foresee_37 : decode cX6_foresee 37 = .ok (.athrow, 1) := by decide +kernel
theorem dX6_foresee_38 : decode cX6_foresee 38 = .ok (.aload_n 0, 1) := by decide +kernel
theorem dX6_foresee_39 : decode cX6_foresee 39 = .ok (.getfield 27, 3) := by decide +kernel
theorem dX6_foresee_42 : decode cX6_foresee 42 = .ok (.aload_n 0, 1) := by decide +kernel
theorem dX6_foresee_43 : decode cX6_foresee 43 = .ok (.getfield 23, 3) := by decide +kernel
theorem dX6_foresee_46 : decode cX6_foresee 46 = .ok (.invokevirtual 222, 3) := by decide +kernel
theorem dX6_foresee_49 : decode cX6_foresee 49 = .ok (.aload_n 0, 1) := by decide +kernel
theorem dX6_foresee_50 : decode cX6_foresee 50 = .ok (.getfield 27, 3) := by decide +kernel
theorem dX6_foresee_53 : decode cX6_foresee 53 = .ok (.iload_n 1, 1) := by decide +kernel
theorem dX6_foresee_54 : decode cX6_foresee 54 = .ok (.invokevirtual 212, 3) := by decide +kernel
theorem dX6_foresee_57 : decode cX6_foresee 57 = .ok (.istore_n 3, 1) := by decide +kernel
theorem dX6_foresee_58 : decode cX6_foresee 58 = .ok (.iload_n 2, 1) := by decide +kernel
theorem dX6_foresee_59 : decode cX6_foresee 59 = .ok (.lookupswitch 43 #[(0, 25), (1, 27)], 25) := by decide +kernel
theorem dX6_foresee_84 : decode cX6_foresee 84 = .ok (.iload_n 3, 1) := by decide +kernel
theorem dX6_foresee_85 : decode cX6_foresee 85 = .ok (.ireturn, 1) := by decide +kernel
theorem dX6_foresee_86 : decode cX6_foresee 86 = .ok (.aload_n 0, 1) := by decide +kernel
theorem dX6_foresee_87 : decode cX6_foresee 87 = .ok (.getfield 27, 3) := by decide +kernel
theorem dX6_foresee_90 : decode cX6_foresee 90 = .ok (.invokevirtual 231, 3) := by decide +kernel
theorem dX6_foresee_93 : decode cX6_foresee 93 = .ok (.aload_n 0, 1) := by decide +kernel
theorem dX6_foresee_94 : decode cX6_foresee 94 = .ok (.getfield 23, 3) := by decide +kernel
theorem dX6_foresee_97 : decode cX6_foresee 97 = .ok (.invokevirtual 231, 3) := by decide +kernel
theorem dX6_foresee_100 : decode cX6_foresee 100 = .ok (.isub, 1) := by decide +kernel
theorem dX6_foresee_101 : decode cX6_foresee 101 = .ok (.ireturn, 1) := by decide +kernel
theorem dX6_foresee_102 : decode cX6_foresee 102 = .ok (.aload_n 0, 1) := by decide +kernel
theorem dX6_foresee_103 : decode cX6_foresee 103 = .ok (.getfield 27, 3) := by decide +kernel
theorem dX6_foresee_106 : decode cX6_foresee 106 = .ok (.getfield 110, 3) := by decide +kernel
theorem dX6_foresee_109 : decode cX6_foresee 109 = .ok (.getfield 114, 3) := by decide +kernel
theorem dX6_foresee_112 : decode cX6_foresee 112 = .ok (.ireturn, 1) := by decide +kernel
theorem dX6_digest_0 : decode cX6_digest 0 = .ok (.ldc2_w 239, 3) := by decide +kernel
theorem dX6_digest_3 : decode cX6_digest 3 = .ok (.lstore_n 1, 1) := by decide +kernel
theorem dX6_digest_4 : decode cX6_digest 4 = .ok (.iconst 0, 1) := by decide +kernel
theorem dX6_digest_5 : decode cX6_digest 5 = .ok (.istore_n 3, 1) := by decide +kernel
theorem dX6_digest_6 : decode cX6_digest 6 = .ok (.iload_n 3, 1) := by decide +kernel
theorem dX6_digest_7 : decode cX6_digest 7 = .ok (.bipush 11, 2) := by decide +kernel
theorem dX6_digest_9 : decode cX6_digest 9 = .ok (.if_icmp .ge 19, 3) := by decide +kernel
theorem dX6_digest_12 : decode cX6_digest 12 = .ok (.lload_n 1, 1) := by decide +kernel
theorem dX6_digest_13 : decode cX6_digest 13 = .ok (.aload_n 0, 1) := by decide +kernel
theorem dX6_digest_14 : decode cX6_digest 14 = .ok (.iload_n 3, 1) := by decide +kernel
theorem dX6_digest_15 : decode cX6_digest 15 = .ok (.invokevirtual 217, 3) := by decide +kernel
theorem dX6_digest_18 : decode cX6_digest 18 = .ok (.invokestatic 241, 3) := by decide +kernel
theorem dX6_digest_21 : decode cX6_digest 21 = .ok (.lstore_n 1, 1) := by decide +kernel
theorem dX6_digest_22 : decode cX6_digest 22 = .ok (.iinc 3 1, 3) := by decide +kernel
theorem dX6_digest_25 : decode cX6_digest 25 = .ok (.goto (-19), 3) := by decide +kernel
theorem dX6_digest_28 : decode cX6_digest 28 = .ok (.aload_n 0, 1) := by decide +kernel
theorem dX6_digest_29 : decode cX6_digest 29 = .ok (.getfield 10, 3) := by decide +kernel
theorem dX6_digest_32 : decode cX6_digest 32 = .ok (.lload_n 1, 1) := by decide +kernel
theorem dX6_digest_33 : decode cX6_digest 33 = .ok (.invokevirtual 245, 3) := by decide +kernel
theorem dX6_digest_36 : decode cX6_digest 36 = .ok (.lstore_n 1, 1) := by decide +kernel
theorem dX6_digest_37 : decode cX6_digest 37 = .ok (.iconst 0, 1) := by decide +kernel
theorem dX6_digest_38 : decode cX6_digest 38 = .ok (.istore_n 3, 1) := by decide +kernel
theorem dX6_digest_39 : decode cX6_digest 39 = .ok (.iload_n 3, 1) := by decide +kernel
theorem dX6_digest_40 : decode cX6_digest 40 = .ok (.aload_n 0, 1) := by decide +kernel
theorem dX6_digest_41 : decode cX6_digest 41 = .ok (.getfield 16, 3) := by decide +kernel
theorem dX6_digest_44 : decode cX6_digest 44 = .ok (.arraylength, 1) := by decide +kernel
theorem dX6_digest_45 : decode cX6_digest 45 = .ok (.if_icmp .ge 20, 3) := by decide +kernel
theorem dX6_digest_48 : decode cX6_digest 48 = .ok (.lload_n 1, 1) := by decide +kernel
theorem dX6_digest_49 : decode cX6_digest 49 = .ok (.aload_n 0, 1) := by decide +kernel
theorem dX6_digest_50 : decode cX6_digest 50 = .ok (.getfield 16, 3) := by decide +kernel
theorem dX6_digest_53 : decode cX6_digest 53 = .ok (.iload_n 3, 1) := by decide +kernel
theorem dX6_digest_54 : decode cX6_digest 54 = .ok (.iaload, 1) := by decide +kernel
theorem dX6_digest_55 : decode cX6_digest 55 = .ok (.invokestatic 241, 3) := by decide +kernel
theorem dX6_digest_58 : decode cX6_digest 58 = .ok (.lstore_n 1, 1) := by decide +kernel
theorem dX6_digest_59 : decode cX6_digest 59 = .ok (.iinc 3 1, 3) := by decide +kernel
theorem dX6_digest_62 : decode cX6_digest 62 = .ok (.goto (-23), 3) := by decide +kernel
theorem dX6_digest_65 : decode cX6_digest 65 = .ok (.aload_n 0, 1) := by decide +kernel
theorem dX6_digest_66 : decode cX6_digest 66 = .ok (.getfield 23, 3) := by decide +kernel
theorem dX6_digest_69 : decode cX6_digest 69 = .ok (.lload_n 1, 1) := by decide +kernel
theorem dX6_digest_70 : decode cX6_digest 70 = .ok (.invokevirtual 249, 3) := by decide +kernel
theorem dX6_digest_73 : decode cX6_digest 73 = .ok (.lreturn, 1) := by decide +kernel
theorem dX6_isBetween_0 : decode cX6_isBetween 0 = .ok (.iload_n 0, 1) := by decide +kernel
theorem dX6_isBetween_1 : decode cX6_isBetween 1 = .ok (.iload_n 1, 1) := by decide +kernel
theorem dX6_isBetween_2 : decode cX6_isBetween 2 = .ok (.if_icmp .lt 12, 3) := by decide +kernel
theorem dX6_isBetween_5 : decode cX6_isBetween 5 = .ok (.iload_n 0, 1) := by decide +kernel
theorem dX6_isBetween_6 : decode cX6_isBetween 6 = .ok (.iload_n 2, 1) := by decide +kernel
theorem dX6_isBetween_7 : decode cX6_isBetween 7 = .ok (.if_icmp .gt 7, 3) := by decide +kernel
theorem dX6_isBetween_10 : decode cX6_isBetween 10 = .ok (.iconst 1, 1) := by decide +kernel
theorem dX6_isBetween_11 : decode cX6_isBetween 11 = .ok (.goto 4, 3) := by decide +kernel
theorem dX6_isBetween_14 : decode cX6_isBetween 14 = .ok (.iconst 0, 1) := by decide +kernel
theorem dX6_isBetween_15 : decode cX6_isBetween 15 = .ok (.ireturn, 1) := by decide +kernel
theorem dX6_isIndex_0 : decode cX6_isIndex 0 = .ok (.iload_n 0, 1) := by decide +kernel
theorem dX6_isIndex_1 : decode cX6_isIndex 1 = .ok (.ifCond .lt 12, 3) := by decide +kernel
theorem dX6_isIndex_4 : decode cX6_isIndex 4 = .ok (.iload_n 0, 1) := by decide +kernel
theorem dX6_isIndex_5 : decode cX6_isIndex 5 = .ok (.iload_n 1, 1) := by decide +kernel
theorem dX6_isIndex_6 : decode cX6_isIndex 6 = .ok (.if_icmp .ge 7, 3) := by decide +kernel
theorem dX6_isIndex_9 : decode cX6_isIndex 9 = .ok (.iconst 1, 1) := by decide +kernel
theorem dX6_isIndex_10 : decode cX6_isIndex 10 = .ok (.goto 4, 3) := by decide +kernel
theorem dX6_isIndex_13 : decode cX6_isIndex 13 = .ok (.iconst 0, 1) := by decide +kernel
theorem dX6_isIndex_14 : decode cX6_isIndex 14 = .ok (.ireturn, 1) := by decide +kernel
theorem dX6_mixed_0 : decode cX6_mixed 0 = .ok (.lload_n 0, 1) := by decide +kernel
theorem dX6_mixed_1 : decode cX6_mixed 1 = .ok (.ldc2_w 250, 3) := by decide +kernel
theorem dX6_mixed_4 : decode cX6_mixed 4 = .ok (.lmul, 1) := by decide +kernel
theorem dX6_mixed_5 : decode cX6_mixed 5 = .ok (.iload_n 2, 1) := by decide +kernel
theorem dX6_mixed_6 : decode cX6_mixed 6 = .ok (.i2l, 1) := by decide +kernel
theorem dX6_mixed_7 : decode cX6_mixed 7 = .ok (.ladd, 1) := by decide +kernel
theorem dX6_mixed_8 : decode cX6_mixed 8 = .ok (.lreturn, 1) := by decide +kernel
theorem dX6_countOf_0 : decode cX6_countOf 0 = .ok (.iload_n 1, 1) := by decide +kernel
theorem dX6_countOf_1 : decode cX6_countOf 1 = .ok (.tableswitch 139 0 9 #[55, 63, 71, 79, 88, 97, 106, 115, 123, 131], 55) := by decide +kernel
theorem dX6_countOf_56 : decode cX6_countOf 56 = .ok (.aload_n 0, 1) := by decide +kernel
theorem dX6_countOf_57 : decode cX6_countOf 57 = .ok (.getfield 23, 3) := by decide +kernel
theorem dX6_countOf_60 : decode cX6_countOf 60 = .ok (.getfield 90, 3) := by decide +kernel
theorem dX6_countOf_63 : decode cX6_countOf 63 = .ok (.ireturn, 1) := by decide +kernel
theorem dX6_countOf_64 : decode cX6_countOf 64 = .ok (.aload_n 0, 1) := by decide +kernel
theorem dX6_countOf_65 : decode cX6_countOf 65 = .ok (.getfield 10, 3) := by decide +kernel
theorem dX6_countOf_68 : decode cX6_countOf 68 = .ok (.getfield 81, 3) := by decide +kernel
theorem dX6_countOf_71 : decode cX6_countOf 71 = .ok (.ireturn, 1) := by decide +kernel
theorem dX6_countOf_72 : decode cX6_countOf 72 = .ok (.aload_n 0, 1) := by decide +kernel
theorem dX6_countOf_73 : decode cX6_countOf 73 = .ok (.getfield 23, 3) := by decide +kernel
theorem dX6_countOf_76 : decode cX6_countOf 76 = .ok (.getfield 258, 3) := by decide +kernel
theorem dX6_countOf_79 : decode cX6_countOf 79 = .ok (.ireturn, 1) := by decide +kernel
theorem dX6_countOf_80 : decode cX6_countOf 80 = .ok (.aload_n 0, 1) := by decide +kernel
theorem dX6_countOf_81 : decode cX6_countOf 81 = .ok (.getfield 23, 3) := by decide +kernel
theorem dX6_countOf_84 : decode cX6_countOf 84 = .ok (.iconst 0, 1) := by decide +kernel
theorem dX6_countOf_85 : decode cX6_countOf 85 = .ok (.invokevirtual 261, 3) := by decide +kernel
theorem dX6_countOf_88 : decode cX6_countOf 88 = .ok (.ireturn, 1) := by decide +kernel
theorem dX6_countOf_89 : decode cX6_countOf 89 = .ok (.aload_n 0, 1) := by decide +kernel
theorem dX6_countOf_90 : decode cX6_countOf 90 = .ok (.getfield 23, 3) := by decide +kernel
theorem dX6_countOf_93 : decode cX6_countOf 93 = .ok (.iconst 1, 1) := by decide +kernel
theorem dX6_countOf_94 : decode cX6_countOf 94 = .ok (.invokevirtual 261, 3) := by decide +kernel
theorem dX6_countOf_97 : decode cX6_countOf 97 = .ok (.ireturn, 1) := by decide +kernel
theorem dX6_countOf_98 : decode cX6_countOf 98 = .ok (.aload_n 0, 1) := by decide +kernel
theorem dX6_countOf_99 : decode cX6_countOf 99 = .ok (.getfield 23, 3) := by decide +kernel
theorem dX6_countOf_102 : decode cX6_countOf 102 = .ok (.iconst 2, 1) := by decide +kernel
theorem dX6_countOf_103 : decode cX6_countOf 103 = .ok (.invokevirtual 261, 3) := by decide +kernel
theorem dX6_countOf_106 : decode cX6_countOf 106 = .ok (.ireturn, 1) := by decide +kernel
theorem dX6_countOf_107 : decode cX6_countOf 107 = .ok (.aload_n 0, 1) := by decide +kernel
theorem dX6_countOf_108 : decode cX6_countOf 108 = .ok (.getfield 23, 3) := by decide +kernel
theorem dX6_countOf_111 : decode cX6_countOf 111 = .ok (.iconst 3, 1) := by decide +kernel
theorem dX6_countOf_112 : decode cX6_countOf 112 = .ok (.invokevirtual 261, 3) := by decide +kernel
theorem dX6_countOf_115 : decode cX6_countOf 115 = .ok (.ireturn, 1) := by decide +kernel
theorem dX6_countOf_116 : decode cX6_countOf 116 = .ok (.aload_n 0, 1) := by decide +kernel
theorem dX6_countOf_117 : decode cX6_countOf 117 = .ok (.getfield 23, 3) := by decide +kernel
theorem dX6_countOf_120 : decode cX6_countOf 120 = .ok (.getfield 136, 3) := by decide +kernel
theorem dX6_countOf_123 : decode cX6_countOf 123 = .ok (.ireturn, 1) := by decide +kernel
theorem dX6_countOf_124 : decode cX6_countOf 124 = .ok (.aload_n 0, 1) := by decide +kernel
theorem dX6_countOf_125 : decode cX6_countOf 125 = .ok (.getfield 23, 3) := by decide +kernel
theorem dX6_countOf_128 : decode cX6_countOf 128 = .ok (.invokevirtual 264, 3) := by decide +kernel
theorem dX6_countOf_131 : decode cX6_countOf 131 = .ok (.ireturn, 1) := by decide +kernel
theorem dX6_countOf_132 : decode cX6_countOf 132 = .ok (.aload_n 0, 1) := by decide +kernel
theorem dX6_countOf_133 : decode cX6_countOf 133 = .ok (.getfield 23, 3) := by decide +kernel
theorem dX6_countOf_136 : decode cX6_countOf 136 = .ok (.getfield 122, 3) := by decide +kernel
theorem dX6_countOf_139 : decode cX6_countOf 139 = .ok (.ireturn, 1) := by decide +kernel
theorem dX6_countOf_140 : decode cX6_countOf 140 = .ok (.aload_n 0, 1) := by decide +kernel
theorem dX6_countOf_141 : decode cX6_countOf 141 = .ok (.getfield 23, 3) := by decide +kernel
theorem dX6_countOf_144 : decode cX6_countOf 144 = .ok (.getfield 119, 3) := by decide +kernel
theorem dX6_countOf_147 : decode cX6_countOf 147 = .ok (.ireturn, 1) := by decide +kernel
end
section
theorem dL_below_0 : decode cL_below 0 = .ok (.iload_n 0, 1) := by decide +kernel
theorem dL_below_1 : decode cL_below 1 = .ok (.ldc 7, 2) := by decide +kernel
theorem dL_below_3 : decode cL_below 3 = .ok (.iand, 1) := by decide +kernel
theorem dL_below_4 : decode cL_below 4 = .ok (.iload_n 1, 1) := by decide +kernel
theorem dL_below_5 : decode cL_below 5 = .ok (.irem, 1) := by decide +kernel
theorem dL_below_6 : decode cL_below 6 = .ok (.ireturn, 1) := by decide +kernel
theorem dL_cell_0 : decode cL_cell 0 = .ok (.iload_n 1, 1) := by decide +kernel
theorem dL_cell_1 : decode cL_cell 1 = .ok (.aload_n 0, 1) := by decide +kernel
theorem dL_cell_2 : decode cL_cell 2 = .ok (.arraylength, 1) := by decide +kernel
theorem dL_cell_3 : decode cL_cell 3 = .ok (.if_icmp .ge 9, 3) := by decide +kernel
theorem dL_cell_6 : decode cL_cell 6 = .ok (.aload_n 0, 1) := by decide +kernel
theorem dL_cell_7 : decode cL_cell 7 = .ok (.iload_n 1, 1) := by decide +kernel
theorem dL_cell_8 : decode cL_cell 8 = .ok (.iaload, 1) := by decide +kernel
theorem dL_cell_9 : decode cL_cell 9 = .ok (.goto 9, 3) := by decide +kernel
theorem dL_cell_12 : decode cL_cell 12 = .ok (.ldc 8, 2) := by decide +kernel
theorem dL_cell_14 : decode cL_cell 14 = .ok (.iload_n 1, 1) := by decide +kernel
theorem dL_cell_15 : decode cL_cell 15 = .ok (.iconst 3, 1) := by decide +kernel
theorem dL_cell_16 : decode cL_cell 16 = .ok (.iadd, 1) := by decide +kernel
theorem dL_cell_17 : decode cL_cell 17 = .ok (.imul, 1) := by decide +kernel
theorem dL_cell_18 : decode cL_cell 18 = .ok (.ireturn, 1) := by decide +kernel
theorem dL_bridge_0 : decode cL_bridge 0 = .ok (.new 9, 3) := by decide +kernel
theorem dL_bridge_3 : decode cL_bridge 3 = .ok (.dup, 1) := by decide +kernel
theorem dL_bridge_4 : decode cL_bridge 4 = .ok (.invokespecial 11, 3) := by decide +kernel
theorem dL_bridge_7 : decode cL_bridge 7 = .ok (.astore_n 1, 1) := by decide +kernel
theorem dL_bridge_8 : decode cL_bridge 8 = .ok (.aload_n 1, 1) := by decide +kernel
theorem dL_bridge_9 : decode cL_bridge 9 = .ok (.iconst 4, 1) := by decide +kernel
theorem dL_bridge_10 : decode cL_bridge 10 = .ok (.aload_n 0, 1) := by decide +kernel
theorem dL_bridge_11 : decode cL_bridge 11 = .ok (.iconst 0, 1) := by decide +kernel
theorem dL_bridge_12 : decode cL_bridge 12 = .ok (.invokestatic 12, 3) := by decide +kernel
theorem dL_bridge_15 : decode cL_bridge 15 = .ok (.aload_n 0, 1) := by decide +kernel
theorem dL_bridge_16 : decode cL_bridge 16 = .ok (.iconst 0, 1) := by decide +kernel
theorem dL_bridge_17 : decode cL_bridge 17 = .ok (.invokestatic 12, 3) := by decide +kernel
theorem dL_bridge_20 : decode cL_bridge 20 = .ok (.bipush 8, 2) := by decide +kernel
theorem dL_bridge_22 : decode cL_bridge 22 = .ok (.ishr, 1) := by decide +kernel
theorem dL_bridge_23 : decode cL_bridge 23 = .ok (.iconst 2, 1) := by decide +kernel
theorem dL_bridge_24 : decode cL_bridge 24 = .ok (.invokestatic 18, 3) := by decide +kernel
theorem dL_bridge_27 : decode cL_bridge 27 = .ok (.ifCond .ne 8, 3) := by decide +kernel
theorem dL_bridge_30 : decode cL_bridge 30 = .ok (.bipush 27, 2) := by decide +kernel
theorem dL_bridge_32 : decode cL_bridge 32 = .ok (.goto 5, 3) := by decide +kernel
theorem dL_bridge_35 : decode cL_bridge 35 = .ok (.bipush 7, 2) := by decide +kernel
theorem dL_bridge_37 : decode cL_bridge 37 = .ok (.invokestatic 18, 3) := by decide +kernel
theorem dL_bridge_40 : decode cL_bridge 40 = .ok (.iadd, 1) := by decide +kernel
theorem dL_bridge_41 : decode cL_bridge 41 = .ok (.aload_n 0, 1) := by decide +kernel
theorem dL_bridge_42 : decode cL_bridge 42 = .ok (.iconst 1, 1) := by decide +kernel
theorem dL_bridge_43 : decode cL_bridge 43 = .ok (.invokestatic 12, 3) := by decide +kernel
theorem dL_bridge_46 : decode cL_bridge 46 = .ok (.iconst 2, 1) := by decide +kernel
theorem dL_bridge_47 : decode cL_bridge 47 = .ok (.invokestatic 18, 3) := by decide +kernel
theorem dL_bridge_50 : decode cL_bridge 50 = .ok (.ifCond .ne 9, 3) := by decide +kernel
theorem dL_bridge_53 : decode cL_bridge 53 = .ok (.sipush 500, 3) := by decide +kernel
theorem dL_bridge_56 : decode cL_bridge 56 = .ok (.goto 19, 3) := by decide +kernel
theorem dL_bridge_59 : decode cL_bridge 59 = .ok (.bipush 60, 2) := by decide +kernel
theorem dL_bridge_61 : decode cL_bridge 61 = .ok (.aload_n 0, 1) := by decide +kernel
theorem dL_bridge_62 : decode cL_bridge 62 = .ok (.iconst 1, 1) := by decide +kernel
theorem dL_bridge_63 : decode cL_bridge 63 = .ok (.invokestatic 12, 3) := by decide +kernel
theorem dL_bridge_66 : decode cL_bridge 66 = .ok (.iconst 3, 1) := by decide +kernel
theorem dL_bridge_67 : decode cL_bridge 67 = .ok (.ishr, 1) := by decide +kernel
theorem dL_bridge_68 : decode cL_bridge 68 = .ok (.sipush 300, 3) := by decide +kernel
theorem dL_bridge_71 : decode cL_bridge 71 = .ok (.invokestatic 18, 3) := by decide +kernel
theorem dL_bridge_74 : decode cL_bridge 74 = .ok (.iadd, 1) := by decide +kernel
theorem dL_bridge_75 : decode cL_bridge 75 = .ok (.invokevirtual 22, 3) := by decide +kernel
theorem dL_bridge_78 : decode cL_bridge 78 = .ok (.pop, 1) := by decide +kernel
theorem dL_bridge_79 : decode cL_bridge 79 = .ok (.aload_n 1, 1) := by decide +kernel
theorem dL_bridge_80 : decode cL_bridge 80 = .ok (.aload_n 0, 1) := by decide +kernel
theorem dL_bridge_81 : decode cL_bridge 81 = .ok (.iconst 2, 1) := by decide +kernel
theorem dL_bridge_82 : decode cL_bridge 82 = .ok (.invokestatic 12, 3) := by decide +kernel
theorem dL_bridge_85 : decode cL_bridge 85 = .ok (.bipush 10, 2) := by decide +kernel
theorem dL_bridge_87 : decode cL_bridge 87 = .ok (.invokestatic 18, 3) := by decide +kernel
theorem dL_bridge_90 : decode cL_bridge 90 = .ok (.aload_n 0, 1) := by decide +kernel
theorem dL_bridge_91 : decode cL_bridge 91 = .ok (.iconst 2, 1) := by decide +kernel
theorem dL_bridge_92 : decode cL_bridge 92 = .ok (.invokestatic 12, 3) := by decide +kernel
theorem dL_bridge_95 : decode cL_bridge 95 = .ok (.iconst 4, 1) := by decide +kernel
theorem dL_bridge_96 : decode cL_bridge 96 = .ok (.ishr, 1) := by decide +kernel
theorem dL_bridge_97 : decode cL_bridge 97 = .ok (.iconst 4, 1) := by decide +kernel
theorem dL_bridge_98 : decode cL_bridge 98 = .ok (.invokestatic 18, 3) := by decide +kernel
theorem dL_bridge_101 : decode cL_bridge 101 = .ok (.invokevirtual 25, 3) := by decide +kernel
theorem dL_bridge_104 : decode cL_bridge 104 = .ok (.pop, 1) := by decide +kernel
theorem dL_bridge_105 : decode cL_bridge 105 = .ok (.iconst 1, 1) := by decide +kernel
theorem dL_bridge_106 : decode cL_bridge 106 = .ok (.aload_n 0, 1) := by decide +kernel
theorem dL_bridge_107 : decode cL_bridge 107 = .ok (.iconst 3, 1) := by decide +kernel
theorem dL_bridge_108 : decode cL_bridge 108 = .ok (.invokestatic 12, 3) := by decide +kernel
theorem dL_bridge_111 : decode cL_bridge 111 = .ok (.bipush 16, 2) := by decide +kernel
theorem dL_bridge_113 : decode cL_bridge 113 = .ok (.invokestatic 18, 3) := by decide +kernel
theorem dL_bridge_116 : decode cL_bridge 116 = .ok (.iadd, 1) := by decide +kernel
theorem dL_bridge_117 : decode cL_bridge 117 = .ok (.istore_n 2, 1) := by decide +kernel
theorem dL_bridge_118 : decode cL_bridge 118 = .ok (.iconst 0, 1) := by decide +kernel
theorem dL_bridge_119 : decode cL_bridge 119 = .ok (.istore_n 3, 1) := by decide +kernel
theorem dL_bridge_120 : decode cL_bridge 120 = .ok (.iload_n 3, 1) := by decide +kernel
theorem dL_bridge_121 : decode cL_bridge 121 = .ok (.iload_n 2, 1) := by decide +kernel
theorem dL_bridge_122 : decode cL_bridge 122 = .ok (.if_icmp .ge 111, 3) := by decide +kernel
theorem dL_bridge_125 : decode cL_bridge 125 = .ok (.aload_n 0, 1) := by decide +kernel
theorem dL_bridge_126 : decode cL_bridge 126 = .ok (.iconst 4, 1) := by decide +kernel
theorem dL_bridge_127 : decode cL_bridge 127 = .ok (.iload_n 3, 1) := by decide +kernel
theorem dL_bridge_128 : decode cL_bridge 128 = .ok (.iconst 5, 1) := by decide +kernel
theorem dL_bridge_129 : decode cL_bridge 129 = .ok (.irem, 1) := by decide +kernel
theorem dL_bridge_130 : decode cL_bridge 130 = .ok (.iadd, 1) := by decide +kernel
theorem dL_bridge_131 : decode cL_bridge 131 = .ok (.invokestatic 12, 3) := by decide +kernel
theorem dL_bridge_134 : decode cL_bridge 134 = .ok (.iload_n 3, 1) := by decide +kernel
theorem dL_bridge_135 : decode cL_bridge 135 = .ok (.iconst 5, 1) := by decide +kernel
theorem dL_bridge_136 : decode cL_bridge 136 = .ok (.idiv, 1) := by decide +kernel
theorem dL_bridge_137 : decode cL_bridge 137 = .ok (.iconst 5, 1) := by decide +kernel
theorem dL_bridge_138 : decode cL_bridge 138 = .ok (.imul, 1) := by decide +kernel
theorem dL_bridge_139 : decode cL_bridge 139 = .ok (.ishr, 1) := by decide +kernel
theorem dL_bridge_140 : decode cL_bridge 140 = .ok (.istore 4, 2) := by decide +kernel
theorem dL_bridge_142 : decode cL_bridge 142 = .ok (.aload_n 1, 1) := by decide +kernel
theorem dL_bridge_143 : decode cL_bridge 143 = .ok (.iload 4, 2) := by decide +kernel
theorem dL_bridge_145 : decode cL_bridge 145 = .ok (.iconst 2, 1) := by decide +kernel
theorem dL_bridge_146 : decode cL_bridge 146 = .ok (.invokestatic 18, 3) := by decide +kernel
theorem dL_bridge_149 : decode cL_bridge 149 = .ok (.iconst 1, 1) := by decide +kernel
theorem dL_bridge_150 : decode cL_bridge 150 = .ok (.iload 4, 2) := by decide +kernel
theorem dL_bridge_152 : decode cL_bridge 152 = .ok (.iconst 1, 1) := by decide +kernel
theorem dL_bridge_153 : decode cL_bridge 153 = .ok (.ishr, 1) := by decide +kernel
theorem dL_bridge_154 : decode cL_bridge 154 = .ok (.iconst 4, 1) := by decide +kernel
theorem dL_bridge_155 : decode cL_bridge 155 = .ok (.invokestatic 18, 3) := by decide +kernel
theorem dL_bridge_158 : decode cL_bridge 158 = .ok (.iadd, 1) := by decide +kernel
theorem dL_bridge_159 : decode cL_bridge 159 = .ok (.iconst 1, 1) := by decide +kernel
theorem dL_bridge_160 : decode cL_bridge 160 = .ok (.iload 4, 2) := by decide +kernel
theorem dL_bridge_162 : decode cL_bridge 162 = .ok (.iconst 3, 1) := by decide +kernel
theorem dL_bridge_163 : decode cL_bridge 163 = .ok (.ishr, 1) := by decide +kernel
theorem dL_bridge_164 : decode cL_bridge 164 = .ok (.sipush 200, 3) := by decide +kernel
theorem dL_bridge_167 : decode cL_bridge 167 = .ok (.invokestatic 18, 3) := by decide +kernel
theorem dL_bridge_170 : decode cL_bridge 170 = .ok (.iadd, 1) := by decide +kernel
theorem dL_bridge_171 : decode cL_bridge 171 = .ok (.iconst 1, 1) := by decide +kernel
theorem dL_bridge_172 : decode cL_bridge 172 = .ok (.iload 4, 2) := by decide +kernel
theorem dL_bridge_174 : decode cL_bridge 174 = .ok (.iconst 5, 1) := by decide +kernel
theorem dL_bridge_175 : decode cL_bridge 175 = .ok (.ishr, 1) := by decide +kernel
theorem dL_bridge_176 : decode cL_bridge 176 = .ok (.iconst 3, 1) := by decide +kernel
theorem dL_bridge_177 : decode cL_bridge 177 = .ok (.invokestatic 18, 3) := by decide +kernel
theorem dL_bridge_180 : decode cL_bridge 180 = .ok (.iadd, 1) := by decide +kernel
theorem dL_bridge_181 : decode cL_bridge 181 = .ok (.iload 4, 2) := by decide +kernel
theorem dL_bridge_183 : decode cL_bridge 183 = .ok (.iconst 4, 1) := by decide +kernel
theorem dL_bridge_184 : decode cL_bridge 184 = .ok (.ishr, 1) := by decide +kernel
theorem dL_bridge_185 : decode cL_bridge 185 = .ok (.iconst 4, 1) := by decide +kernel
theorem dL_bridge_186 : decode cL_bridge 186 = .ok (.invokestatic 18, 3) := by decide +kernel
theorem dL_bridge_189 : decode cL_bridge 189 = .ok (.ifCond .le 8, 3) := by decide +kernel
theorem dL_bridge_192 : decode cL_bridge 192 = .ok (.bipush 100, 2) := by decide +kernel
theorem dL_bridge_194 : decode cL_bridge 194 = .ok (.goto 13, 3) := by decide +kernel
theorem dL_bridge_197 : decode cL_bridge 197 = .ok (.iload 4, 2) := by decide +kernel
theorem dL_bridge_199 : decode cL_bridge 199 = .ok (.bipush 6, 2) := by decide +kernel
theorem dL_bridge_201 : decode cL_bridge 201 = .ok (.ishr, 1) := by decide +kernel
theorem dL_bridge_202 : decode cL_bridge 202 = .ok (.bipush 60, 2) := by decide +kernel
theorem dL_bridge_204 : decode cL_bridge 204 = .ok (.invokestatic 18, 3) := by decide +kernel
theorem dL_bridge_207 : decode cL_bridge 207 = .ok (.iload 4, 2) := by decide +kernel
theorem dL_bridge_209 : decode cL_bridge 209 = .ok (.iconst 2, 1) := by decide +kernel
theorem dL_bridge_210 : decode cL_bridge 210 = .ok (.ishr, 1) := by decide +kernel
theorem dL_bridge_211 : decode cL_bridge 211 = .ok (.iconst 3, 1) := by decide +kernel
theorem dL_bridge_212 : decode cL_bridge 212 = .ok (.invokestatic 18, 3) := by decide +kernel
theorem dL_bridge_215 : decode cL_bridge 215 = .ok (.ifCond .ne 7, 3) := by decide +kernel
theorem dL_bridge_218 : decode cL_bridge 218 = .ok (.iconst 1, 1) := by decide +kernel
theorem dL_bridge_219 : decode cL_bridge 219 = .ok (.goto 4, 3) := by decide +kernel
theorem dL_bridge_222 : decode cL_bridge 222 = .ok (.iconst 0, 1) := by decide +kernel
theorem dL_bridge_223 : decode cL_bridge 223 = .ok (.invokevirtual 28, 3) := by decide +kernel
theorem dL_bridge_226 : decode cL_bridge 226 = .ok (.pop, 1) := by decide +kernel
theorem dL_bridge_227 : decode cL_bridge 227 = .ok (.iinc 3 1, 3) := by decide +kernel
theorem dL_bridge_230 : decode cL_bridge 230 = .ok (.goto (-110), 3) := by decide +kernel
theorem dL_bridge_233 : decode cL_bridge 233 = .ok (.aload_n 1, 1) := by decide +kernel
theorem dL_bridge_234 : decode cL_bridge 234 = .ok (.areturn, 1) := by decide +kernel
theorem dL_law_0 : decode cL_law 0 = .ok (.aload_n 0, 1) := by decide +kernel
theorem dL_law_1 : decode cL_law 1 = .ok (.invokestatic 32, 3) := by decide +kernel
theorem dL_law_4 : decode cL_law 4 = .ok (.astore_n 1, 1) := by decide +kernel
theorem dL_law_5 : decode cL_law 5 = .ok (.aload_n 1, 1) := by decide +kernel
theorem dL_law_6 : decode cL_law 6 = .ok (.iconst 2, 1) := by decide +kernel
theorem dL_law_7 : decode cL_law 7 = .ok (.invokevirtual 36, 3) := by decide +kernel
theorem dL_law_10 : decode cL_law 10 = .ok (.istore_n 2, 1) := by decide +kernel
theorem dL_law_11 : decode cL_law 11 = .ok (.aload_n 1, 1) := by decide +kernel
theorem dL_law_12 : decode cL_law 12 = .ok (.bipush 9, 2) := by decide +kernel
theorem dL_law_14 : decode cL_law 14 = .ok (.invokevirtual 36, 3) := by decide +kernel
theorem dL_law_17 : decode cL_law 17 = .ok (.istore_n 3, 1) := by decide +kernel
theorem dL_law_18 : decode cL_law 18 = .ok (.aload_n 1, 1) := by decide +kernel
theorem dL_law_19 : decode cL_law 19 = .ok (.bipush 10, 2) := by decide +kernel
theorem dL_law_21 : decode cL_law 21 = .ok (.invokevirtual 36, 3) := by decide +kernel
theorem dL_law_24 : decode cL_law 24 = .ok (.istore 4, 2) := by decide +kernel
theorem dL_law_26 : decode cL_law 26 = .ok (.bipush 16, 2) := by decide +kernel
theorem dL_law_28 : decode cL_law 28 = .ok (.newarray .int, 2) := by decide +kernel
theorem dL_law_30 : decode cL_law 30 = .ok (.astore 5, 2) := by decide +kernel
theorem dL_law_32 : decode cL_law 32 = .ok (.iconst 0, 1) := by decide +kernel
theorem dL_law_33 : decode cL_law 33 = .ok (.istore 6, 2) := by decide +kernel
theorem dL_law_35 : decode cL_law 35 = .ok (.iconst 0, 1) := by decide +kernel
theorem dL_law_36 : decode cL_law 36 = .ok (.istore 7, 2) := by decide +kernel
theorem dL_law_38 : decode cL_law 38 = .ok (.iload 7, 2) := by decide +kernel
theorem dL_law_40 : decode cL_law 40 = .ok (.iload_n 2, 1) := by decide +kernel
theorem dL_law_41 : decode cL_law 41 = .ok (.if_icmp .ge 31, 3) := by decide +kernel
theorem dL_law_44 : decode cL_law 44 = .ok (.aload 5, 2) := by decide +kernel
theorem dL_law_46 : decode cL_law 46 = .ok (.iload 7, 2) := by decide +kernel
theorem dL_law_48 : decode cL_law 48 = .ok (.aload_n 1, 1) := by decide +kernel
theorem dL_law_49 : decode cL_law 49 = .ok (.iload 7, 2) := by decide +kernel
theorem dL_law_51 : decode cL_law 51 = .ok (.iconst 3, 1) := by decide +kernel
theorem dL_law_52 : decode cL_law 52 = .ok (.invokevirtual 40, 3) := by decide +kernel
theorem dL_law_55 : decode cL_law 55 = .ok (.iastore, 1) := by decide +kernel
theorem dL_law_56 : decode cL_law 56 = .ok (.iload 6, 2) := by decide +kernel
theorem dL_law_58 : decode cL_law 58 = .ok (.aload 5, 2) := by decide +kernel
theorem dL_law_60 : decode cL_law 60 = .ok (.iload 7, 2) := by decide +kernel
theorem dL_law_62 : decode cL_law 62 = .ok (.iaload, 1) := by decide +kernel
theorem dL_law_63 : decode cL_law 63 = .ok (.iadd, 1) := by decide +kernel
theorem dL_law_64 : decode cL_law 64 = .ok (.istore 6, 2) := by decide +kernel
theorem dL_law_66 : decode cL_law 66 = .ok (.iinc 7 1, 3) := by decide +kernel
theorem dL_law_69 : decode cL_law 69 = .ok (.goto (-31), 3) := by decide +kernel
theorem dL_law_72 : decode cL_law 72 = .ok (.bipush 16, 2) := by decide +kernel
theorem dL_law_74 : decode cL_law 74 = .ok (.newarray .int, 2) := by decide +kernel
theorem dL_law_76 : decode cL_law 76 = .ok (.astore 7, 2) := by decide +kernel
theorem dL_law_78 : decode cL_law 78 = .ok (.aload 5, 2) := by decide +kernel
theorem dL_law_80 : decode cL_law 80 = .ok (.invokevirtual 43, 3) := by decide +kernel
theorem dL_law_83 : decode cL_law 83 = .ok (.checkcast 44, 3) := by decide +kernel
theorem dL_law_86 : decode cL_law 86 = .ok (.astore 8, 2) := by decide +kernel
theorem dL_law_88 : decode cL_law 88 = .ok (.iconst 0, 1) := by decide +kernel
theorem dL_law_89 : decode cL_law 89 = .ok (.istore 9, 2) := by decide +kernel
theorem dL_law_91 : decode cL_law 91 = .ok (.iconst 0, 1) := by decide +kernel
theorem dL_law_92 : decode cL_law 92 = .ok (.istore 10, 2) := by decide +kernel
theorem dL_law_94 : decode cL_law 94 = .ok (.iload 10, 2) := by decide +kernel
theorem dL_law_96 : decode cL_law 96 = .ok (.bipush 40, 2) := by decide +kernel
theorem dL_law_98 : decode cL_law 98 = .ok (.if_icmp .ge 992, 3) := by decide +kernel
theorem dL_law_101 : decode cL_law 101 = .ok (.aload_n 0, 1) := by decide +kernel
theorem dL_law_102 : decode cL_law 102 = .ok (.iload 10, 2) := by decide +kernel
theorem dL_law_104 : decode cL_law 104 = .ok (.bipush 16, 2) := by decide +kernel
theorem dL_law_106 : decode cL_law 106 = .ok (.irem, 1) := by decide +kernel
theorem dL_law_107 : decode cL_law 107 = .ok (.invokestatic 12, 3) := by decide +kernel
theorem dL_law_110 : decode cL_law 110 = .ok (.iload 10, 2) := by decide +kernel
theorem dL_law_112 : decode cL_law 112 = .ok (.bipush 16, 2) := by decide +kernel
theorem dL_law_114 : decode cL_law 114 = .ok (.idiv, 1) := by decide +kernel
theorem dL_law_115 : decode cL_law 115 = .ok (.bipush 6, 2) := by decide +kernel
theorem dL_law_117 : decode cL_law 117 = .ok (.imul, 1) := by decide +kernel
theorem dL_law_118 : decode cL_law 118 = .ok (.ishr, 1) := by decide +kernel
theorem dL_law_119 : decode cL_law 119 = .ok (.istore 11, 2) := by decide +kernel
theorem dL_law_121 : decode cL_law 121 = .ok (.iload 11, 2) := by decide +kernel
theorem dL_law_123 : decode cL_law 123 = .ok (.iconst 3, 1) := by decide +kernel
theorem dL_law_124 : decode cL_law 124 = .ok (.ishr, 1) := by decide +kernel
theorem dL_law_125 : decode cL_law 125 = .ok (.iconst 2, 1) := by decide +kernel
theorem dL_law_126 : decode cL_law 126 = .ok (.invokestatic 18, 3) := by decide +kernel
theorem dL_law_129 : decode cL_law 129 = .ok (.istore 12, 2) := by decide +kernel
theorem dL_law_131 : decode cL_law 131 = .ok (.iload 11, 2) := by decide +kernel
theorem dL_law_133 : decode cL_law 133 = .ok (.bipush 6, 2) := by decide +kernel
theorem dL_law_135 : decode cL_law 135 = .ok (.invokestatic 18, 3) := by decide +kernel
theorem dL_law_138 : decode cL_law 138 = .ok (.tableswitch 148 0 2 #[26, 41, 122], 26) := by decide +kernel
theorem dL_law_164 : decode cL_law 164 = .ok (.aload_n 1, 1) := by decide +kernel
theorem dL_law_165 : decode cL_law 165 = .ok (.invokevirtual 49, 3) := by decide +kernel
theorem dL_law_168 : decode cL_law 168 = .ok (.aload_n 1, 1) := by decide +kernel
theorem dL_law_169 : decode cL_law 169 = .ok (.bipush 7, 2) := by decide +kernel
theorem dL_law_171 : decode cL_law 171 = .ok (.invokevirtual 36, 3) := by decide +kernel
theorem dL_law_174 : decode cL_law 174 = .ok (.if_icmp .eq 112, 3) := by decide +kernel
theorem dL_law_177 : decode cL_law 177 = .ok (.iconst 0, 1) := by decide +kernel
theorem dL_law_178 : decode cL_law 178 = .ok (.ireturn, 1) := by decide +kernel
theorem dL_law_179 : decode cL_law 179 = .ok (.aload_n 1, 1) := by decide +kernel
theorem dL_law_180 : decode cL_law 180 = .ok (.iload 12, 2) := by decide +kernel
theorem dL_law_182 : decode cL_law 182 = .ok (.iconst 0, 1) := by decide +kernel
theorem dL_law_183 : decode cL_law 183 = .ok (.invokevirtual 53, 3) := by decide +kernel
theorem dL_law_186 : decode cL_law 186 = .ok (.istore 13, 2) := by decide +kernel
theorem dL_law_188 : decode cL_law 188 = .ok (.aload_n 1, 1) := by decide +kernel
theorem dL_law_189 : decode cL_law 189 = .ok (.iload 12, 2) := by decide +kernel
theorem dL_law_191 : decode cL_law 191 = .ok (.iconst 1, 1) := by decide +kernel
theorem dL_law_192 : decode cL_law 192 = .ok (.invokevirtual 53, 3) := by decide +kernel
theorem dL_law_195 : decode cL_law 195 = .ok (.istore 14, 2) := by decide +kernel
theorem dL_law_197 : decode cL_law 197 = .ok (.aload_n 1, 1) := by decide +kernel
theorem dL_law_198 : decode cL_law 198 = .ok (.iload 12, 2) := by decide +kernel
theorem dL_law_200 : decode cL_law 200 = .ok (.invokevirtual 56, 3) := by decide +kernel
theorem dL_law_203 : decode cL_law 203 = .ok (.istore 15, 2) := by decide +kernel
theorem dL_law_205 : decode cL_law 205 = .ok (.iload 9, 2) := by decide +kernel
theorem dL_law_207 : decode cL_law 207 = .ok (.iload 13, 2) := by decide +kernel
theorem dL_law_209 : decode cL_law 209 = .ok (.iadd, 1) := by decide +kernel
theorem dL_law_210 : decode cL_law 210 = .ok (.istore 9, 2) := by decide +kernel
theorem dL_law_212 : decode cL_law 212 = .ok (.iload 15, 2) := by decide +kernel
theorem dL_law_214 : decode cL_law 214 = .ok (.ifCond .lt 44, 3) := by decide +kernel
theorem dL_law_217 : decode cL_law 217 = .ok (.iload 15, 2) := by decide +kernel
theorem dL_law_219 : decode cL_law 219 = .ok (.bipush 27, 2) := by decide +kernel
theorem dL_law_221 : decode cL_law 221 = .ok (.iload 14, 2) := by decide +kernel
theorem dL_law_223 : decode cL_law 223 = .ok (.imul, 1) := by decide +kernel
theorem dL_law_224 : decode cL_law 224 = .ok (.if_icmp .gt 34, 3) := by decide +kernel
theorem dL_law_227 : decode cL_law 227 = .ok (.aload_n 1, 1) := by decide +kernel
theorem dL_law_228 : decode cL_law 228 = .ok (.iload 12, 2) := by decide +kernel
theorem dL_law_230 : decode cL_law 230 = .ok (.iconst 0, 1) := by decide +kernel
theorem dL_law_231 : decode cL_law 231 = .ok (.invokevirtual 53, 3) := by decide +kernel
theorem dL_law_234 : decode cL_law 234 = .ok (.ifCond .ne 24, 3) := by decide +kernel
theorem dL_law_237 : decode cL_law 237 = .ok (.aload_n 1, 1) := by decide +kernel
theorem dL_law_238 : decode cL_law 238 = .ok (.iload 12, 2) := by decide +kernel
theorem dL_law_240 : decode cL_law 240 = .ok (.iconst 1, 1) := by decide +kernel
theorem dL_law_241 : decode cL_law 241 = .ok (.invokevirtual 53, 3) := by decide +kernel
theorem dL_law_244 : decode cL_law 244 = .ok (.iload 14, 2) := by decide +kernel
theorem dL_law_246 : decode cL_law 246 = .ok (.if_icmp .ne 12, 3) := by decide +kernel
theorem dL_law_249 : decode cL_law 249 = .ok (.aload_n 1, 1) := by decide +kernel
theorem dL_law_250 : decode cL_law 250 = .ok (.iload 12, 2) := by decide +kernel
theorem dL_law_252 : decode cL_law 252 = .ok (.invokevirtual 56, 3) := by decide +kernel
theorem dL_law_255 : decode cL_law 255 = .ok (.ifCond .eq 31, 3) := by decide +kernel
theorem dL_law_258 : decode cL_law 258 = .ok (.iconst 0, 1) := by decide +kernel
theorem dL_law_259 : decode cL_law 259 = .ok (.ireturn, 1) := by decide +kernel
theorem dL_law_260 : decode cL_law 260 = .ok (.aload_n 1, 1) := by decide +kernel
theorem dL_law_261 : decode cL_law 261 = .ok (.iload 11, 2) := by decide +kernel
theorem dL_law_263 : decode cL_law 263 = .ok (.iconst 4, 1) := by decide +kernel
theorem dL_law_264 : decode cL_law 264 = .ok (.ishr, 1) := by decide +kernel
theorem dL_law_265 : decode cL_law 265 = .ok (.bipush 10, 2) := by decide +kernel
theorem dL_law_267 : decode cL_law 267 = .ok (.invokestatic 18, 3) := by decide +kernel
theorem dL_law_270 : decode cL_law 270 = .ok (.iload 11, 2) := by decide +kernel
theorem dL_law_272 : decode cL_law 272 = .ok (.bipush 6, 2) := by decide +kernel
theorem dL_law_274 : decode cL_law 274 = .ok (.ishr, 1) := by decide +kernel
theorem dL_law_275 : decode cL_law 275 = .ok (.iconst 4, 1) := by decide +kernel
theorem dL_law_276 : decode cL_law 276 = .ok (.invokestatic 18, 3) := by decide +kernel
theorem dL_law_279 : decode cL_law 279 = .ok (.invokevirtual 25, 3) := by decide +kernel
theorem dL_law_282 : decode cL_law 282 = .ok (.pop, 1) := by decide +kernel
theorem dL_law_283 : decode cL_law 283 = .ok (.goto 3, 3) := by decide +kernel
theorem dL_law_286 : decode cL_law 286 = .ok (.aload_n 1, 1) := by decide +kernel
theorem dL_law_287 : decode cL_law 287 = .ok (.invokevirtual 59, 3) := by decide +kernel
theorem dL_law_290 : decode cL_law 290 = .ok (.lstore 13, 2) := by decide +kernel
theorem dL_law_292 : decode cL_law 292 = .ok (.aload_n 1, 1) := by decide +kernel
theorem dL_law_293 : decode cL_law 293 = .ok (.iconst 1, 1) := by decide +kernel
theorem dL_law_294 : decode cL_law 294 = .ok (.iconst 0, 1) := by decide +kernel
theorem dL_law_295 : decode cL_law 295 = .ok (.invokevirtual 63, 3) := by decide +kernel
theorem dL_law_298 : decode cL_law 298 = .ok (.istore 15, 2) := by decide +kernel
theorem dL_law_300 : decode cL_law 300 = .ok (.aload_n 1, 1) := by decide +kernel
theorem dL_law_301 : decode cL_law 301 = .ok (.iconst 1, 1) := by decide +kernel
theorem dL_law_302 : decode cL_law 302 = .ok (.iconst 1, 1) := by decide +kernel
theorem dL_law_303 : decode cL_law 303 = .ok (.invokevirtual 63, 3) := by decide +kernel
theorem dL_law_306 : decode cL_law 306 = .ok (.istore 16, 2) := by decide +kernel
theorem dL_law_308 : decode cL_law 308 = .ok (.iload 10, 2) := by decide +kernel
theorem dL_law_310 : decode cL_law 310 = .ok (.bipush 8, 2) := by decide +kernel
theorem dL_law_312 : decode cL_law 312 = .ok (.irem, 1) := by decide +kernel
theorem dL_law_313 : decode cL_law 313 = .ok (.ifCond .ne 10, 3) := by decide +kernel
theorem dL_law_316 : decode cL_law 316 = .ok (.aload_n 1, 1) := by decide +kernel
theorem dL_law_317 : decode cL_law 317 = .ok (.invokevirtual 66, 3) := by decide +kernel
theorem dL_law_320 : decode cL_law 320 = .ok (.goto 4, 3) := by decide +kernel
theorem dL_law_323 : decode cL_law 323 = .ok (.iconst 0, 1) := by decide +kernel
theorem dL_law_324 : decode cL_law 324 = .ok (.istore 17, 2) := by decide +kernel
theorem dL_law_326 : decode cL_law 326 = .ok (.iload 11, 2) := by decide +kernel
theorem dL_law_328 : decode cL_law 328 = .ok (.iconst 5, 1) := by decide +kernel
theorem dL_law_329 : decode cL_law 329 = .ok (.ishr, 1) := by decide +kernel
theorem dL_law_330 : decode cL_law 330 = .ok (.iload_n 2, 1) := by decide +kernel
theorem dL_law_331 : decode cL_law 331 = .ok (.invokestatic 18, 3) := by decide +kernel
theorem dL_law_334 : decode cL_law 334 = .ok (.istore 18, 2) := by decide +kernel
theorem dL_law_336 : decode cL_law 336 = .ok (.aload_n 1, 1) := by decide +kernel
theorem dL_law_337 : decode cL_law 337 = .ok (.iload 18, 2) := by decide +kernel
theorem dL_law_339 : decode cL_law 339 = .ok (.invokevirtual 69, 3) := by decide +kernel
theorem dL_law_342 : decode cL_law 342 = .ok (.istore 19, 2) := by decide +kernel
theorem dL_law_344 : decode cL_law 344 = .ok (.iload 17, 2) := by decide +kernel
theorem dL_law_346 : decode cL_law 346 = .ok (.iconst (-1), 1) := by decide +kernel
theorem dL_law_347 : decode cL_law 347 = .ok (.if_icmp .lt 34, 3) := by decide +kernel
theorem dL_law_350 : decode cL_law 350 = .ok (.iload 17, 2) := by decide +kernel
theorem dL_law_352 : decode cL_law 352 = .ok (.bipush 59, 2) := by decide +kernel
theorem dL_law_354 : decode cL_law 354 = .ok (.if_icmp .gt 27, 3) := by decide +kernel
theorem dL_law_357 : decode cL_law 357 = .ok (.iload 19, 2) := by decide +kernel
theorem dL_law_359 : decode cL_law 359 = .ok (.iconst (-1), 1) := by decide +kernel
theorem dL_law_360 : decode cL_law 360 = .ok (.if_icmp .lt 21, 3) := by decide +kernel
theorem dL_law_363 : decode cL_law 363 = .ok (.iload 19, 2) := by decide +kernel
theorem dL_law_365 : decode cL_law 365 = .ok (.sipush 200, 3) := by decide +kernel
theorem dL_law_368 : decode cL_law 368 = .ok (.if_icmp .gt 13, 3) := by decide +kernel
theorem dL_law_371 : decode cL_law 371 = .ok (.aload_n 1, 1) := by decide +kernel
theorem dL_law_372 : decode cL_law 372 = .ok (.invokevirtual 59, 3) := by decide +kernel
theorem dL_law_375 : decode cL_law 375 = .ok (.lload 13, 2) := by decide +kernel
theorem dL_law_377 : decode cL_law 377 = .ok (.lcmp, 1) := by decide +kernel
theorem dL_law_378 : decode cL_law 378 = .ok (.ifCond .eq 5, 3) := by decide +kernel
theorem dL_law_381 : decode cL_law 381 = .ok (.iconst 0, 1) := by decide +kernel
theorem dL_law_382 : decode cL_law 382 = .ok (.ireturn, 1) := by decide +kernel
theorem dL_law_383 : decode cL_law 383 = .ok (.aload_n 1, 1) := by decide +kernel
theorem dL_law_384 : decode cL_law 384 = .ok (.iconst 0, 1) := by decide +kernel
theorem dL_law_385 : decode cL_law 385 = .ok (.iconst 0, 1) := by decide +kernel
theorem dL_law_386 : decode cL_law 386 = .ok (.invokevirtual 53, 3) := by decide +kernel
theorem dL_law_389 : decode cL_law 389 = .ok (.aload_n 1, 1) := by decide +kernel
theorem dL_law_390 : decode cL_law 390 = .ok (.iconst 1, 1) := by decide +kernel
theorem dL_law_391 : decode cL_law 391 = .ok (.iconst 0, 1) := by decide +kernel
theorem dL_law_392 : decode cL_law 392 = .ok (.invokevirtual 53, 3) := by decide +kernel
theorem dL_law_395 : decode cL_law 395 = .ok (.iadd, 1) := by decide +kernel
theorem dL_law_396 : decode cL_law 396 = .ok (.istore 20, 2) := by decide +kernel
theorem dL_law_398 : decode cL_law 398 = .ok (.aload_n 1, 1) := by decide +kernel
theorem dL_law_399 : decode cL_law 399 = .ok (.iconst 5, 1) := by decide +kernel
theorem dL_law_400 : decode cL_law 400 = .ok (.invokevirtual 36, 3) := by decide +kernel
theorem dL_law_403 : decode cL_law 403 = .ok (.istore 21, 2) := by decide +kernel
theorem dL_law_405 : decode cL_law 405 = .ok (.aload_n 1, 1) := by decide +kernel
theorem dL_law_406 : decode cL_law 406 = .ok (.iconst 1, 1) := by decide +kernel
theorem dL_law_407 : decode cL_law 407 = .ok (.invokevirtual 72, 3) := by decide +kernel
theorem dL_law_410 : decode cL_law 410 = .ok (.iload 15, 2) := by decide +kernel
theorem dL_law_412 : decode cL_law 412 = .ok (.if_icmp .ne 49, 3) := by decide +kernel
theorem dL_law_415 : decode cL_law 415 = .ok (.aload_n 1, 1) := by decide +kernel
theorem dL_law_416 : decode cL_law 416 = .ok (.iconst 5, 1) := by decide +kernel
theorem dL_law_417 : decode cL_law 417 = .ok (.invokevirtual 36, 3) := by decide +kernel
theorem dL_law_420 : decode cL_law 420 = .ok (.iload 21, 2) := by decide +kernel
theorem dL_law_422 : decode cL_law 422 = .ok (.iload 15, 2) := by decide +kernel
theorem dL_law_424 : decode cL_law 424 = .ok (.iadd, 1) := by decide +kernel
theorem dL_law_425 : decode cL_law 425 = .ok (.if_icmp .ne 36, 3) := by decide +kernel
theorem dL_law_428 : decode cL_law 428 = .ok (.iload 15, 2) := by decide +kernel
theorem dL_law_430 : decode cL_law 430 = .ok (.ifCond .lt 31, 3) := by decide +kernel
theorem dL_law_433 : decode cL_law 433 = .ok (.iload 15, 2) := by decide +kernel
theorem dL_law_435 : decode cL_law 435 = .ok (.bipush 16, 2) := by decide +kernel
theorem dL_law_437 : decode cL_law 437 = .ok (.if_icmp .gt 24, 3) := by decide +kernel
theorem dL_law_440 : decode cL_law 440 = .ok (.aload_n 1, 1) := by decide +kernel
theorem dL_law_441 : decode cL_law 441 = .ok (.iconst 0, 1) := by decide +kernel
theorem dL_law_442 : decode cL_law 442 = .ok (.iconst 0, 1) := by decide +kernel
theorem dL_law_443 : decode cL_law 443 = .ok (.invokevirtual 53, 3) := by decide +kernel
theorem dL_law_446 : decode cL_law 446 = .ok (.aload_n 1, 1) := by decide +kernel
theorem dL_law_447 : decode cL_law 447 = .ok (.iconst 1, 1) := by decide +kernel
theorem dL_law_448 : decode cL_law 448 = .ok (.iconst 0, 1) := by decide +kernel
theorem dL_law_449 : decode cL_law 449 = .ok (.invokevirtual 53, 3) := by decide +kernel
theorem dL_law_452 : decode cL_law 452 = .ok (.iadd, 1) := by decide +kernel
theorem dL_law_453 : decode cL_law 453 = .ok (.iload 20, 2) := by decide +kernel
theorem dL_law_455 : decode cL_law 455 = .ok (.iload 16, 2) := by decide +kernel
theorem dL_law_457 : decode cL_law 457 = .ok (.iadd, 1) := by decide +kernel
theorem dL_law_458 : decode cL_law 458 = .ok (.if_icmp .eq 5, 3) := by decide +kernel
theorem dL_law_461 : decode cL_law 461 = .ok (.iconst 0, 1) := by decide +kernel
theorem dL_law_462 : decode cL_law 462 = .ok (.ireturn, 1) := by decide +kernel
theorem dL_law_463 : decode cL_law 463 = .ok (.iload 19, 2) := by decide +kernel
theorem dL_law_465 : decode cL_law 465 = .ok (.ifCond .le 16, 3) := by decide +kernel
theorem dL_law_468 : decode cL_law 468 = .ok (.aload_n 1, 1) := by decide +kernel
theorem dL_law_469 : decode cL_law 469 = .ok (.iload 18, 2) := by decide +kernel
theorem dL_law_471 : decode cL_law 471 = .ok (.invokevirtual 69, 3) := by decide +kernel
theorem dL_law_474 : decode cL_law 474 = .ok (.iload 19, 2) := by decide +kernel
theorem dL_law_476 : decode cL_law 476 = .ok (.iconst 1, 1) := by decide +kernel
theorem dL_law_477 : decode cL_law 477 = .ok (.isub, 1) := by decide +kernel
theorem dL_law_478 : decode cL_law 478 = .ok (.if_icmp .ne 17, 3) := by decide +kernel
theorem dL_law_481 : decode cL_law 481 = .ok (.iload 19, 2) := by decide +kernel
theorem dL_law_483 : decode cL_law 483 = .ok (.ifCond .ne 14, 3) := by decide +kernel
theorem dL_law_486 : decode cL_law 486 = .ok (.aload_n 1, 1) := by decide +kernel
theorem dL_law_487 : decode cL_law 487 = .ok (.iload 18, 2) := by decide +kernel
theorem dL_law_489 : decode cL_law 489 = .ok (.invokevirtual 69, 3) := by decide +kernel
theorem dL_law_492 : decode cL_law 492 = .ok (.ifCond .eq 5, 3) := by decide +kernel
theorem dL_law_495 : decode cL_law 495 = .ok (.iconst 0, 1) := by decide +kernel
theorem dL_law_496 : decode cL_law 496 = .ok (.ireturn, 1) := by decide +kernel
theorem dL_law_497 : decode cL_law 497 = .ok (.aload_n 1, 1) := by decide +kernel
theorem dL_law_498 : decode cL_law 498 = .ok (.bipush 7, 2) := by decide +kernel
theorem dL_law_500 : decode cL_law 500 = .ok (.invokevirtual 36, 3) := by decide +kernel
theorem dL_law_503 : decode cL_law 503 = .ok (.istore 22, 2) := by decide +kernel
theorem dL_law_505 : decode cL_law 505 = .ok (.iconst 4, 1) := by decide +kernel
theorem dL_law_506 : decode cL_law 506 = .ok (.newarray .int, 2) := by decide +kernel
theorem dL_law_508 : decode cL_law 508 = .ok (.astore 23, 2) := by decide +kernel
theorem dL_law_510 : decode cL_law 510 = .ok (.iconst 0, 1) := by decide +kernel
theorem dL_law_511 : decode cL_law 511 = .ok (.istore 24, 2) := by decide +kernel
theorem dL_law_513 : decode cL_law 513 = .ok (.iconst 0, 1) := by decide +kernel
theorem dL_law_514 : decode cL_law 514 = .ok (.istore 25, 2) := by decide +kernel
theorem dL_law_516 : decode cL_law 516 = .ok (.iconst 0, 1) := by decide +kernel
theorem dL_law_517 : decode cL_law 517 = .ok (.istore 26, 2) := by decide +kernel
theorem dL_law_519 : decode cL_law 519 = .ok (.iconst 0, 1) := by decide +kernel
theorem dL_law_520 : decode cL_law 520 = .ok (.istore 27, 2) := by decide +kernel
theorem dL_law_522 : decode cL_law 522 = .ok (.iconst 0, 1) := by decide +kernel
theorem dL_law_523 : decode cL_law 523 = .ok (.istore 28, 2) := by decide +kernel
theorem dL_law_525 : decode cL_law 525 = .ok (.iload 28, 2) := by decide +kernel
theorem dL_law_527 : decode cL_law 527 = .ok (.iload_n 2, 1) := by decide +kernel
theorem dL_law_528 : decode cL_law 528 = .ok (.if_icmp .ge 289, 3) := by decide +kernel
theorem dL_law_531 : decode cL_law 531 = .ok (.aload_n 1, 1) := by decide +kernel
theorem dL_law_532 : decode cL_law 532 = .ok (.iload 28, 2) := by decide +kernel
theorem dL_law_534 : decode cL_law 534 = .ok (.iconst 5, 1) := by decide +kernel
theorem dL_law_535 : decode cL_law 535 = .ok (.invokevirtual 40, 3) := by decide +kernel
theorem dL_law_538 : decode cL_law 538 = .ok (.istore 29, 2) := by decide +kernel
theorem dL_law_540 : decode cL_law 540 = .ok (.aload_n 1, 1) := by decide +kernel
theorem dL_law_541 : decode cL_law 541 = .ok (.iload 28, 2) := by decide +kernel
theorem dL_law_543 : decode cL_law 543 = .ok (.bipush 6, 2) := by decide +kernel
theorem dL_law_545 : decode cL_law 545 = .ok (.invokevirtual 40, 3) := by decide +kernel
theorem dL_law_548 : decode cL_law 548 = .ok (.istore 30, 2) := by decide +kernel
theorem dL_law_550 : decode cL_law 550 = .ok (.aload 23, 2) := by decide +kernel
theorem dL_law_552 : decode cL_law 552 = .ok (.iload 29, 2) := by decide +kernel
theorem dL_law_554 : decode cL_law 554 = .ok (.dup2, 1) := by decide +kernel
theorem dL_law_555 : decode cL_law 555 = .ok (.iaload, 1) := by decide +kernel
theorem dL_law_556 : decode cL_law 556 = .ok (.iconst 1, 1) := by decide +kernel
theorem dL_law_557 : decode cL_law 557 = .ok (.iadd, 1) := by decide +kernel
theorem dL_law_558 : decode cL_law 558 = .ok (.iastore, 1) := by decide +kernel
theorem dL_law_559 : decode cL_law 559 = .ok (.iload 27, 2) := by decide +kernel
theorem dL_law_561 : decode cL_law 561 = .ok (.aload_n 1, 1) := by decide +kernel
theorem dL_law_562 : decode cL_law 562 = .ok (.iload 28, 2) := by decide +kernel
theorem dL_law_564 : decode cL_law 564 = .ok (.iconst 3, 1) := by decide +kernel
theorem dL_law_565 : decode cL_law 565 = .ok (.invokevirtual 40, 3) := by decide +kernel
theorem dL_law_568 : decode cL_law 568 = .ok (.iadd, 1) := by decide +kernel
theorem dL_law_569 : decode cL_law 569 = .ok (.istore 27, 2) := by decide +kernel
theorem dL_law_571 : decode cL_law 571 = .ok (.iload 29, 2) := by decide +kernel
theorem dL_law_573 : decode cL_law 573 = .ok (.iconst 1, 1) := by decide +kernel
theorem dL_law_574 : decode cL_law 574 = .ok (.if_icmp .ne 7, 3) := by decide +kernel
theorem dL_law_577 : decode cL_law 577 = .ok (.iconst 1, 1) := by decide +kernel
theorem dL_law_578 : decode cL_law 578 = .ok (.goto 4, 3) := by decide +kernel
theorem dL_law_581 : decode cL_law 581 = .ok (.iconst 0, 1) := by decide +kernel
theorem dL_law_582 : decode cL_law 582 = .ok (.iload 30, 2) := by decide +kernel
theorem dL_law_584 : decode cL_law 584 = .ok (.ifCond .lt 7, 3) := by decide +kernel
theorem dL_law_587 : decode cL_law 587 = .ok (.iconst 1, 1) := by decide +kernel
theorem dL_law_588 : decode cL_law 588 = .ok (.goto 4, 3) := by decide +kernel
theorem dL_law_591 : decode cL_law 591 = .ok (.iconst 0, 1) := by decide +kernel
theorem dL_law_592 : decode cL_law 592 = .ok (.if_icmp .ne 39, 3) := by decide +kernel
theorem dL_law_595 : decode cL_law 595 = .ok (.aload_n 1, 1) := by decide +kernel
theorem dL_law_596 : decode cL_law 596 = .ok (.iload 28, 2) := by decide +kernel
theorem dL_law_598 : decode cL_law 598 = .ok (.bipush 8, 2) := by decide +kernel
theorem dL_law_600 : decode cL_law 600 = .ok (.invokevirtual 40, 3) := by decide +kernel
theorem dL_law_603 : decode cL_law 603 = .ok (.ifCond .lt 7, 3) := by decide +kernel
theorem dL_law_606 : decode cL_law 606 = .ok (.iconst 1, 1) := by decide +kernel
theorem dL_law_607 : decode cL_law 607 = .ok (.goto 4, 3) := by decide +kernel
theorem dL_law_610 : decode cL_law 610 = .ok (.iconst 0, 1) := by decide +kernel
theorem dL_law_611 : decode cL_law 611 = .ok (.iload 29, 2) := by decide +kernel
theorem dL_law_613 : decode cL_law 613 = .ok (.iconst 2, 1) := by decide +kernel
theorem dL_law_614 : decode cL_law 614 = .ok (.if_icmp .ne 7, 3) := by decide +kernel
theorem dL_law_617 : decode cL_law 617 = .ok (.iconst 1, 1) := by decide +kernel
theorem dL_law_618 : decode cL_law 618 = .ok (.goto 4, 3) := by decide +kernel
theorem dL_law_621 : decode cL_law 621 = .ok (.iconst 0, 1) := by decide +kernel
theorem dL_law_622 : decode cL_law 622 = .ok (.if_icmp .ne 9, 3) := by decide +kernel
theorem dL_law_625 : decode cL_law 625 = .ok (.iload 30, 2) := by decide +kernel
theorem dL_law_627 : decode cL_law 627 = .ok (.iload_n 3, 1) := by decide +kernel
theorem dL_law_628 : decode cL_law 628 = .ok (.if_icmp .lt 5, 3) := by decide +kernel
theorem dL_law_631 : decode cL_law 631 = .ok (.iconst 0, 1) := by decide +kernel
theorem dL_law_632 : decode cL_law 632 = .ok (.ireturn, 1) := by decide +kernel
theorem dL_law_633 : decode cL_law 633 = .ok (.aload 7, 2) := by decide +kernel
theorem dL_law_635 : decode cL_law 635 = .ok (.iload 28, 2) := by decide +kernel
theorem dL_law_637 : decode cL_law 637 = .ok (.iaload, 1) := by decide +kernel
theorem dL_law_638 : decode cL_law 638 = .ok (.iconst 1, 1) := by decide +kernel
theorem dL_law_639 : decode cL_law 639 = .ok (.if_icmp .le 13, 3) := by decide +kernel
theorem dL_law_642 : decode cL_law 642 = .ok (.iload 29, 2) := by decide +kernel
theorem dL_law_644 : decode cL_law 644 = .ok (.aload 7, 2) := by decide +kernel
theorem dL_law_646 : decode cL_law 646 = .ok (.iload 28, 2) := by decide +kernel
theorem dL_law_648 : decode cL_law 648 = .ok (.iaload, 1) := by decide +kernel
theorem dL_law_649 : decode cL_law 649 = .ok (.if_icmp .ne 49, 3) := by decide +kernel
theorem dL_law_652 : decode cL_law 652 = .ok (.aload_n 1, 1) := by decide +kernel
theorem dL_law_653 : decode cL_law 653 = .ok (.iload 28, 2) := by decide +kernel
theorem dL_law_655 : decode cL_law 655 = .ok (.iconst 3, 1) := by decide +kernel
theorem dL_law_656 : decode cL_law 656 = .ok (.invokevirtual 40, 3) := by decide +kernel
theorem dL_law_659 : decode cL_law 659 = .ok (.aload 5, 2) := by decide +kernel
theorem dL_law_661 : decode cL_law 661 = .ok (.iload 28, 2) := by decide +kernel
theorem dL_law_663 : decode cL_law 663 = .ok (.iaload, 1) := by decide +kernel
theorem dL_law_664 : decode cL_law 664 = .ok (.if_icmp .gt 34, 3) := by decide +kernel
theorem dL_law_667 : decode cL_law 667 = .ok (.aload_n 1, 1) := by decide +kernel
theorem dL_law_668 : decode cL_law 668 = .ok (.iload 28, 2) := by decide +kernel
theorem dL_law_670 : decode cL_law 670 = .ok (.iconst 3, 1) := by decide +kernel
theorem dL_law_671 : decode cL_law 671 = .ok (.invokevirtual 40, 3) := by decide +kernel
theorem dL_law_674 : decode cL_law 674 = .ok (.ifCond .lt 24, 3) := by decide +kernel
theorem dL_law_677 : decode cL_law 677 = .ok (.iload 29, 2) := by decide +kernel
theorem dL_law_679 : decode cL_law 679 = .ok (.iconst 3, 1) := by decide +kernel
theorem dL_law_680 : decode cL_law 680 = .ok (.if_icmp .ne 20, 3) := by decide +kernel
theorem dL_law_683 : decode cL_law 683 = .ok (.aload_n 1, 1) := by decide +kernel
theorem dL_law_684 : decode cL_law 684 = .ok (.iload 28, 2) := by decide +kernel
theorem dL_law_686 : decode cL_law 686 = .ok (.iconst 3, 1) := by decide +kernel
theorem dL_law_687 : decode cL_law 687 = .ok (.invokevirtual 40, 3) := by decide +kernel
theorem dL_law_690 : decode cL_law 690 = .ok (.aload 5, 2) := by decide +kernel
theorem dL_law_692 : decode cL_law 692 = .ok (.iload 28, 2) := by decide +kernel
theorem dL_law_694 : decode cL_law 694 = .ok (.iaload, 1) := by decide +kernel
theorem dL_law_695 : decode cL_law 695 = .ok (.if_icmp .eq 5, 3) := by decide +kernel
theorem dL_law_698 : decode cL_law 698 = .ok (.iconst 0, 1) := by decide +kernel
theorem dL_law_699 : decode cL_law 699 = .ok (.ireturn, 1) := by decide +kernel
theorem dL_law_700 : decode cL_law 700 = .ok (.iload 29, 2) := by decide +kernel
theorem dL_law_702 : decode cL_law 702 = .ok (.iconst 1, 1) := by decide +kernel
theorem dL_law_703 : decode cL_law 703 = .ok (.if_icmp .ne 59, 3) := by decide +kernel
theorem dL_law_706 : decode cL_law 706 = .ok (.iload 24, 2) := by decide +kernel
theorem dL_law_708 : decode cL_law 708 = .ok (.iload 30, 2) := by decide +kernel
theorem dL_law_710 : decode cL_law 710 = .ok (.ishr, 1) := by decide +kernel
theorem dL_law_711 : decode cL_law 711 = .ok (.iconst 1, 1) := by decide +kernel
theorem dL_law_712 : decode cL_law 712 = .ok (.iand, 1) := by decide +kernel
theorem dL_law_713 : decode cL_law 713 = .ok (.iconst 1, 1) := by decide +kernel
theorem dL_law_714 : decode cL_law 714 = .ok (.if_icmp .ne 5, 3) := by decide +kernel
theorem dL_law_717 : decode cL_law 717 = .ok (.iconst 0, 1) := by decide +kernel
theorem dL_law_718 : decode cL_law 718 = .ok (.ireturn, 1) := by decide +kernel
theorem dL_law_719 : decode cL_law 719 = .ok (.iload 24, 2) := by decide +kernel
theorem dL_law_721 : decode cL_law 721 = .ok (.iconst 1, 1) := by decide +kernel
theorem dL_law_722 : decode cL_law 722 = .ok (.iload 30, 2) := by decide +kernel
theorem dL_law_724 : decode cL_law 724 = .ok (.ishl, 1) := by decide +kernel
theorem dL_law_725 : decode cL_law 725 = .ok (.ior, 1) := by decide +kernel
theorem dL_law_726 : decode cL_law 726 = .ok (.istore 24, 2) := by decide +kernel
theorem dL_law_728 : decode cL_law 728 = .ok (.iload 25, 2) := by decide +kernel
theorem dL_law_730 : decode cL_law 730 = .ok (.aload_n 1, 1) := by decide +kernel
theorem dL_law_731 : decode cL_law 731 = .ok (.iload 28, 2) := by decide +kernel
theorem dL_law_733 : decode cL_law 733 = .ok (.iconst 1, 1) := by decide +kernel
theorem dL_law_734 : decode cL_law 734 = .ok (.invokevirtual 40, 3) := by decide +kernel
theorem dL_law_737 : decode cL_law 737 = .ok (.iadd, 1) := by decide +kernel
theorem dL_law_738 : decode cL_law 738 = .ok (.istore 25, 2) := by decide +kernel
theorem dL_law_740 : decode cL_law 740 = .ok (.iload 26, 2) := by decide +kernel
theorem dL_law_742 : decode cL_law 742 = .ok (.aload_n 1, 1) := by decide +kernel
theorem dL_law_743 : decode cL_law 743 = .ok (.iload 28, 2) := by decide +kernel
theorem dL_law_745 : decode cL_law 745 = .ok (.iconst 4, 1) := by decide +kernel
theorem dL_law_746 : decode cL_law 746 = .ok (.invokevirtual 40, 3) := by decide +kernel
theorem dL_law_749 : decode cL_law 749 = .ok (.iload 22, 2) := by decide +kernel
theorem dL_law_751 : decode cL_law 751 = .ok (.if_icmp .ne 7, 3) := by decide +kernel
theorem dL_law_754 : decode cL_law 754 = .ok (.iconst 0, 1) := by decide +kernel
theorem dL_law_755 : decode cL_law 755 = .ok (.goto 4, 3) := by decide +kernel
theorem dL_law_758 : decode cL_law 758 = .ok (.iconst 1, 1) := by decide +kernel
theorem dL_law_759 : decode cL_law 759 = .ok (.iadd, 1) := by decide +kernel
theorem dL_law_760 : decode cL_law 760 = .ok (.istore 26, 2) := by decide +kernel
theorem dL_law_762 : decode cL_law 762 = .ok (.aload_n 1, 1) := by decide +kernel
theorem dL_law_763 : decode cL_law 763 = .ok (.iload 28, 2) := by decide +kernel
theorem dL_law_765 : decode cL_law 765 = .ok (.iconst 3, 1) := by decide +kernel
theorem dL_law_766 : decode cL_law 766 = .ok (.invokevirtual 40, 3) := by decide +kernel
theorem dL_law_769 : decode cL_law 769 = .ok (.aload 8, 2) := by decide +kernel
theorem dL_law_771 : decode cL_law 771 = .ok (.iload 28, 2) := by decide +kernel
theorem dL_law_773 : decode cL_law 773 = .ok (.iaload, 1) := by decide +kernel
theorem dL_law_774 : decode cL_law 774 = .ok (.if_icmp .eq 18, 3) := by decide +kernel
theorem dL_law_777 : decode cL_law 777 = .ok (.aload 8, 2) := by decide +kernel
theorem dL_law_779 : decode cL_law 779 = .ok (.iload 28, 2) := by decide +kernel
theorem dL_law_781 : decode cL_law 781 = .ok (.iaload, 1) := by decide +kernel
theorem dL_law_782 : decode cL_law 782 = .ok (.aload 5, 2) := by decide +kernel
theorem dL_law_784 : decode cL_law 784 = .ok (.iload 28, 2) := by decide +kernel
theorem dL_law_786 : decode cL_law 786 = .ok (.iaload, 1) := by decide +kernel
theorem dL_law_787 : decode cL_law 787 = .ok (.if_icmp .eq 5, 3) := by decide +kernel
theorem dL_law_790 : decode cL_law 790 = .ok (.iconst 0, 1) := by decide +kernel
theorem dL_law_791 : decode cL_law 791 = .ok (.ireturn, 1) := by decide +kernel
theorem dL_law_792 : decode cL_law 792 = .ok (.aload 8, 2) := by decide +kernel
theorem dL_law_794 : decode cL_law 794 = .ok (.iload 28, 2) := by decide +kernel
theorem dL_law_796 : decode cL_law 796 = .ok (.aload_n 1, 1) := by decide +kernel
theorem dL_law_797 : decode cL_law 797 = .ok (.iload 28, 2) := by decide +kernel
theorem dL_law_799 : decode cL_law 799 = .ok (.iconst 3, 1) := by decide +kernel
theorem dL_law_800 : decode cL_law 800 = .ok (.invokevirtual 40, 3) := by decide +kernel
theorem dL_law_803 : decode cL_law 803 = .ok (.iastore, 1) := by decide +kernel
theorem dL_law_804 : decode cL_law 804 = .ok (.aload 7, 2) := by decide +kernel
theorem dL_law_806 : decode cL_law 806 = .ok (.iload 28, 2) := by decide +kernel
theorem dL_law_808 : decode cL_law 808 = .ok (.iload 29, 2) := by decide +kernel
theorem dL_law_810 : decode cL_law 810 = .ok (.iastore, 1) := by decide +kernel
theorem dL_law_811 : decode cL_law 811 = .ok (.iinc 28 1, 3) := by decide +kernel
theorem dL_law_814 : decode cL_law 814 = .ok (.goto (-289), 3) := by decide +kernel
theorem dL_law_817 : decode cL_law 817 = .ok (.iconst 0, 1) := by decide +kernel
theorem dL_law_818 : decode cL_law 818 = .ok (.istore 28, 2) := by decide +kernel
theorem dL_law_820 : decode cL_law 820 = .ok (.iload 28, 2) := by decide +kernel
theorem dL_law_822 : decode cL_law 822 = .ok (.iconst 4, 1) := by decide +kernel
theorem dL_law_823 : decode cL_law 823 = .ok (.if_icmp .ge 27, 3) := by decide +kernel
theorem dL_law_826 : decode cL_law 826 = .ok (.aload_n 1, 1) := by decide +kernel
theorem dL_law_827 : decode cL_law 827 = .ok (.iconst 3, 1) := by decide +kernel
theorem dL_law_828 : decode cL_law 828 = .ok (.iload 28, 2) := by decide +kernel
theorem dL_law_830 : decode cL_law 830 = .ok (.iadd, 1) := by decide +kernel
theorem dL_law_831 : decode cL_law 831 = .ok (.invokevirtual 36, 3) := by decide +kernel
theorem dL_law_834 : decode cL_law 834 = .ok (.aload 23, 2) := by decide +kernel
theorem dL_law_836 : decode cL_law 836 = .ok (.iload 28, 2) := by decide +kernel
theorem dL_law_838 : decode cL_law 838 = .ok (.iaload, 1) := by decide +kernel
theorem dL_law_839 : decode cL_law 839 = .ok (.if_icmp .eq 5, 3) := by decide +kernel
theorem dL_law_842 : decode cL_law 842 = .ok (.iconst 0, 1) := by decide +kernel
theorem dL_law_843 : decode cL_law 843 = .ok (.ireturn, 1) := by decide +kernel
theorem dL_law_844 : decode cL_law 844 = .ok (.iinc 28 1, 3) := by decide +kernel
theorem dL_law_847 : decode cL_law 847 = .ok (.goto (-27), 3) := by decide +kernel
theorem dL_law_850 : decode cL_law 850 = .ok (.iload 26, 2) := by decide +kernel
theorem dL_law_852 : decode cL_law 852 = .ok (.ifCond .le 12, 3) := by decide +kernel
theorem dL_law_855 : decode cL_law 855 = .ok (.iload 26, 2) := by decide +kernel
theorem dL_law_857 : decode cL_law 857 = .ok (.aload 23, 2) := by decide +kernel
theorem dL_law_859 : decode cL_law 859 = .ok (.iconst 1, 1) := by decide +kernel
theorem dL_law_860 : decode cL_law 860 = .ok (.iaload, 1) := by decide +kernel
theorem dL_law_861 : decode cL_law 861 = .ok (.if_icmp .lt 45, 3) := by decide +kernel
theorem dL_law_864 : decode cL_law 864 = .ok (.iload 25, 2) := by decide +kernel
theorem dL_law_866 : decode cL_law 866 = .ok (.aload_n 1, 1) := by decide +kernel
theorem dL_law_867 : decode cL_law 867 = .ok (.bipush 8, 2) := by decide +kernel
theorem dL_law_869 : decode cL_law 869 = .ok (.invokevirtual 36, 3) := by decide +kernel
theorem dL_law_872 : decode cL_law 872 = .ok (.if_icmp .ne 34, 3) := by decide +kernel
theorem dL_law_875 : decode cL_law 875 = .ok (.iload 25, 2) := by decide +kernel
theorem dL_law_877 : decode cL_law 877 = .ok (.iload 4, 2) := by decide +kernel
theorem dL_law_879 : decode cL_law 879 = .ok (.if_icmp .gt 27, 3) := by decide +kernel
theorem dL_law_882 : decode cL_law 882 = .ok (.iload 27, 2) := by decide +kernel
theorem dL_law_884 : decode cL_law 884 = .ok (.iload 9, 2) := by decide +kernel
theorem dL_law_886 : decode cL_law 886 = .ok (.iadd, 1) := by decide +kernel
theorem dL_law_887 : decode cL_law 887 = .ok (.aload_n 1, 1) := by decide +kernel
theorem dL_law_888 : decode cL_law 888 = .ok (.iconst 0, 1) := by decide +kernel
theorem dL_law_889 : decode cL_law 889 = .ok (.iconst 0, 1) := by decide +kernel
theorem dL_law_890 : decode cL_law 890 = .ok (.invokevirtual 53, 3) := by decide +kernel
theorem dL_law_893 : decode cL_law 893 = .ok (.iadd, 1) := by decide +kernel
theorem dL_law_894 : decode cL_law 894 = .ok (.aload_n 1, 1) := by decide +kernel
theorem dL_law_895 : decode cL_law 895 = .ok (.iconst 1, 1) := by decide +kernel
theorem dL_law_896 : decode cL_law 896 = .ok (.iconst 0, 1) := by decide +kernel
theorem dL_law_897 : decode cL_law 897 = .ok (.invokevirtual 53, 3) := by decide +kernel
theorem dL_law_900 : decode cL_law 900 = .ok (.iadd, 1) := by decide +kernel
theorem dL_law_901 : decode cL_law 901 = .ok (.iload 6, 2) := by decide +kernel
theorem dL_law_903 : decode cL_law 903 = .ok (.if_icmp .eq 5, 3) := by decide +kernel
theorem dL_law_906 : decode cL_law 906 = .ok (.iconst 0, 1) := by decide +kernel
theorem dL_law_907 : decode cL_law 907 = .ok (.ireturn, 1) := by decide +kernel
theorem dL_law_908 : decode cL_law 908 = .ok (.iconst 0, 1) := by decide +kernel
theorem dL_law_909 : decode cL_law 909 = .ok (.istore 28, 2) := by decide +kernel
theorem dL_law_911 : decode cL_law 911 = .ok (.iconst 0, 1) := by decide +kernel
theorem dL_law_912 : decode cL_law 912 = .ok (.istore 29, 2) := by decide +kernel
theorem dL_law_914 : decode cL_law 914 = .ok (.iload 29, 2) := by decide +kernel
theorem dL_law_916 : decode cL_law 916 = .ok (.iconst 2, 1) := by decide +kernel
theorem dL_law_917 : decode cL_law 917 = .ok (.if_icmp .ge 156, 3) := by decide +kernel
theorem dL_law_920 : decode cL_law 920 = .ok (.iload 28, 2) := by decide +kernel
theorem dL_law_922 : decode cL_law 922 = .ok (.aload_n 1, 1) := by decide +kernel
theorem dL_law_923 : decode cL_law 923 = .ok (.iload 29, 2) := by decide +kernel
theorem dL_law_925 : decode cL_law 925 = .ok (.iconst 3, 1) := by decide +kernel
theorem dL_law_926 : decode cL_law 926 = .ok (.invokevirtual 53, 3) := by decide +kernel
theorem dL_law_929 : decode cL_law 929 = .ok (.iadd, 1) := by decide +kernel
theorem dL_law_930 : decode cL_law 930 = .ok (.istore 28, 2) := by decide +kernel
theorem dL_law_932 : decode cL_law 932 = .ok (.iconst 0, 1) := by decide +kernel
theorem dL_law_933 : decode cL_law 933 = .ok (.istore 30, 2) := by decide +kernel
theorem dL_law_935 : decode cL_law 935 = .ok (.iload 30, 2) := by decide +kernel
theorem dL_law_937 : decode cL_law 937 = .ok (.aload_n 1, 1) := by decide +kernel
theorem dL_law_938 : decode cL_law 938 = .ok (.iload 29, 2) := by decide +kernel
theorem dL_law_940 : decode cL_law 940 = .ok (.iconst 3, 1) := by decide +kernel
theorem dL_law_941 : decode cL_law 941 = .ok (.invokevirtual 53, 3) := by decide +kernel
theorem dL_law_944 : decode cL_law 944 = .ok (.if_icmp .ge 74, 3) := by decide +kernel
theorem dL_law_947 : decode cL_law 947 = .ok (.aload_n 1, 1) := by decide +kernel
theorem dL_law_948 : decode cL_law 948 = .ok (.iload 29, 2) := by decide +kernel
theorem dL_law_950 : decode cL_law 950 = .ok (.iload 30, 2) := by decide +kernel
theorem dL_law_952 : decode cL_law 952 = .ok (.invokevirtual 75, 3) := by decide +kernel
theorem dL_law_955 : decode cL_law 955 = .ok (.istore 31, 2) := by decide +kernel
theorem dL_law_957 : decode cL_law 957 = .ok (.aload_n 1, 1) := by decide +kernel
theorem dL_law_958 : decode cL_law 958 = .ok (.iload 31, 2) := by decide +kernel
theorem dL_law_960 : decode cL_law 960 = .ok (.iconst 5, 1) := by decide +kernel
theorem dL_law_961 : decode cL_law 961 = .ok (.invokevirtual 40, 3) := by decide +kernel
theorem dL_law_964 : decode cL_law 964 = .ok (.ifCond .ne 15, 3) := by decide +kernel
theorem dL_law_967 : decode cL_law 967 = .ok (.aload_n 1, 1) := by decide +kernel
theorem dL_law_968 : decode cL_law 968 = .ok (.iload 31, 2) := by decide +kernel
theorem dL_law_970 : decode cL_law 970 = .ok (.iconst 4, 1) := by decide +kernel
theorem dL_law_971 : decode cL_law 971 = .ok (.invokevirtual 40, 3) := by decide +kernel
theorem dL_law_974 : decode cL_law 974 = .ok (.iload 29, 2) := by decide +kernel
theorem dL_law_976 : decode cL_law 976 = .ok (.if_icmp .eq 5, 3) := by decide +kernel
theorem dL_law_979 : decode cL_law 979 = .ok (.iconst 0, 1) := by decide +kernel
theorem dL_law_980 : decode cL_law 980 = .ok (.ireturn, 1) := by decide +kernel
theorem dL_law_981 : decode cL_law 981 = .ok (.iconst 0, 1) := by decide +kernel
theorem dL_law_982 : decode cL_law 982 = .ok (.istore 32, 2) := by decide +kernel
theorem dL_law_984 : decode cL_law 984 = .ok (.iload 32, 2) := by decide +kernel
theorem dL_law_986 : decode cL_law 986 = .ok (.iload 30, 2) := by decide +kernel
theorem dL_law_988 : decode cL_law 988 = .ok (.if_icmp .ge 24, 3) := by decide +kernel
theorem dL_law_991 : decode cL_law 991 = .ok (.aload_n 1, 1) := by decide +kernel
theorem dL_law_992 : decode cL_law 992 = .ok (.iload 29, 2) := by decide +kernel
theorem dL_law_994 : decode cL_law 994 = .ok (.iload 32, 2) := by decide +kernel
theorem dL_law_996 : decode cL_law 996 = .ok (.invokevirtual 75, 3) := by decide +kernel
theorem dL_law_999 : decode cL_law 999 = .ok (.iload 31, 2) := by decide +kernel
theorem dL_law_1001 : decode cL_law 1001 = .ok (.if_icmp .ne 5, 3) := by decide +kernel
theorem dL_law_1004 : decode cL_law 1004 = .ok (.iconst 0, 1) := by decide +kernel
theorem dL_law_1005 : decode cL_law 1005 = .ok (.ireturn, 1) := by decide +kernel
theorem dL_law_1006 : decode cL_law 1006 = .ok (.iinc 32 1, 3) := by decide +kernel
theorem dL_law_1009 : decode cL_law 1009 = .ok (.goto (-25), 3) := by decide +kernel
theorem dL_law_1012 : decode cL_law 1012 = .ok (.iinc 30 1, 3) := by decide +kernel
theorem dL_law_1015 : decode cL_law 1015 = .ok (.goto (-80), 3) := by decide +kernel
theorem dL_law_1018 : decode cL_law 1018 = .ok (.aload_n 1, 1) := by decide +kernel
theorem dL_law_1019 : decode cL_law 1019 = .ok (.iload 29, 2) := by decide +kernel
theorem dL_law_1021 : decode cL_law 1021 = .ok (.iconst 1, 1) := by decide +kernel
theorem dL_law_1022 : decode cL_law 1022 = .ok (.invokevirtual 53, 3) := by decide +kernel
theorem dL_law_1025 : decode cL_law 1025 = .ok (.iload_n 2, 1) := by decide +kernel
theorem dL_law_1026 : decode cL_law 1026 = .ok (.if_icmp .gt 39, 3) := by decide +kernel
theorem dL_law_1029 : decode cL_law 1029 = .ok (.aload_n 1, 1) := by decide +kernel
theorem dL_law_1030 : decode cL_law 1030 = .ok (.iload 29, 2) := by decide +kernel
theorem dL_law_1032 : decode cL_law 1032 = .ok (.iconst 2, 1) := by decide +kernel
theorem dL_law_1033 : decode cL_law 1033 = .ok (.invokevirtual 53, 3) := by decide +kernel
theorem dL_law_1036 : decode cL_law 1036 = .ok (.aload_n 1, 1) := by decide +kernel
theorem dL_law_1037 : decode cL_law 1037 = .ok (.iload 29, 2) := by decide +kernel
theorem dL_law_1039 : decode cL_law 1039 = .ok (.iconst 1, 1) := by decide +kernel
theorem dL_law_1040 : decode cL_law 1040 = .ok (.invokevirtual 53, 3) := by decide +kernel
theorem dL_law_1043 : decode cL_law 1043 = .ok (.if_icmp .lt 22, 3) := by decide +kernel
theorem dL_law_1046 : decode cL_law 1046 = .ok (.aload_n 1, 1) := by decide +kernel
theorem dL_law_1047 : decode cL_law 1047 = .ok (.iload 29, 2) := by decide +kernel
theorem dL_law_1049 : decode cL_law 1049 = .ok (.iconst 2, 1) := by decide +kernel
theorem dL_law_1050 : decode cL_law 1050 = .ok (.invokevirtual 53, 3) := by decide +kernel
theorem dL_law_1053 : decode cL_law 1053 = .ok (.iconst 4, 1) := by decide +kernel
theorem dL_law_1054 : decode cL_law 1054 = .ok (.aload_n 1, 1) := by decide +kernel
theorem dL_law_1055 : decode cL_law 1055 = .ok (.iload 29, 2) := by decide +kernel
theorem dL_law_1057 : decode cL_law 1057 = .ok (.iconst 1, 1) := by decide +kernel
theorem dL_law_1058 : decode cL_law 1058 = .ok (.invokevirtual 53, 3) := by decide +kernel
theorem dL_law_1061 : decode cL_law 1061 = .ok (.imul, 1) := by decide +kernel
theorem dL_law_1062 : decode cL_law 1062 = .ok (.if_icmp .le 5, 3) := by decide +kernel
theorem dL_law_1065 : decode cL_law 1065 = .ok (.iconst 0, 1) := by decide +kernel
theorem dL_law_1066 : decode cL_law 1066 = .ok (.ireturn, 1) := by decide +kernel
theorem dL_law_1067 : decode cL_law 1067 = .ok (.iinc 29 1, 3) := by decide +kernel
theorem dL_law_1070 : decode cL_law 1070 = .ok (.goto (-156), 3) := by decide +kernel
theorem dL_law_1073 : decode cL_law 1073 = .ok (.iload 28, 2) := by decide +kernel
theorem dL_law_1075 : decode cL_law 1075 = .ok (.aload 23, 2) := by decide +kernel
theorem dL_law_1077 : decode cL_law 1077 = .ok (.iconst 0, 1) := by decide +kernel
theorem dL_law_1078 : decode cL_law 1078 = .ok (.iaload, 1) := by decide +kernel
theorem dL_law_1079 : decode cL_law 1079 = .ok (.if_icmp .eq 5, 3) := by decide +kernel
theorem dL_law_1082 : decode cL_law 1082 = .ok (.iconst 0, 1) := by decide +kernel
theorem dL_law_1083 : decode cL_law 1083 = .ok (.ireturn, 1) := by decide +kernel
theorem dL_law_1084 : decode cL_law 1084 = .ok (.iinc 10 1, 3) := by decide +kernel
theorem dL_law_1087 : decode cL_law 1087 = .ok (.goto (-993), 3) := by decide +kernel
theorem dL_law_1090 : decode cL_law 1090 = .ok (.iconst 1, 1) := by decide +kernel
theorem dL_law_1091 : decode cL_law 1091 = .ok (.ireturn, 1) := by decide +kernel
end
section
/-! THE MEMORY: every int of class and reference by four numbers: kind K of the cell, number b of its bridge or state, number i in its kind, slot j. THE WORLD: the cells at the places, each at its address. -/
abbrev gMem : Type := Nat → Nat → Nat → Nat → Int32
def gup (V : gMem) (K b i j : Nat) (x : Int32) : gMem := fun K' b' i' j' => if K' = K ∧ b' = b ∧ i' = i ∧ j' = j then x else V K' b' i' j'
abbrev gB : Type := va_G × (Nat → Nat → Nat → Nat) × (ClassId × ClassId × ClassId) × (Int64 × Nat)
def gN (K : Nat) : Nat × Nat := match K with
  | 0 => (1, 1)
  | 1 => (1, 1)
  | 2 => (1, 1)
  | 3 => (1, 1)
  | 4 => (1, 1)
  | 10 => (3, 1)
  | 11 => (3, 1)
  | 12 => (3, 2)
  | 13 => (3, 3)
  | 14 => (3, 3)
  | 15 => (3, 16)
  | _ => (0, 0)
def gP (K b i : Nat) : Prop := b < (gN K).1 ∧ i < (gN K).2
def gPL : List (Nat × Nat × Nat) := (List.range 29).flatMap fun K => (List.range (gN K).1).flatMap fun b => (List.range (gN K).2).map fun i => (K, b, i)
theorem gP_K {K b i : Nat} (h : gP K b i) : K < 29 := by
  rcases Nat.lt_or_ge K 29 with q | q
  · exact q
  · obtain ⟨n, rfl⟩ : ∃ n, K = n + 29 := ⟨K - 29, by omega⟩
    exact absurd h.1 (Nat.not_lt_zero b)
theorem gPL_in {K b i : Nat} (h : gP K b i) : (K, b, i) ∈ gPL := by
  simp only [gPL, List.mem_flatMap, List.mem_map, List.mem_range]
  exact ⟨K, gP_K h, b, h.1, i, h.2, rfl⟩
theorem gPL_of {q : Nat × Nat × Nat} (h : q ∈ gPL) : gP q.1 q.2.1 q.2.2 := by
  simp only [gPL, List.mem_flatMap, List.mem_map, List.mem_range] at h
  obtain ⟨K, -, b, hb, i, hi, rfl⟩ := h
  exact ⟨hb, hi⟩
theorem gP_10 {b : Nat} (h : b < 3) : gP 10 b 0 := ⟨h, Nat.zero_lt_one⟩
theorem gP_11 {b : Nat} (h : b < 3) : gP 11 b 0 := ⟨h, Nat.zero_lt_one⟩
theorem gP_12 {b i : Nat} (h : b < 3) (h2 : i < 2) : gP 12 b i := ⟨h, h2⟩
theorem gP_13 {b i : Nat} (h : b < 3) (h2 : i < 3) : gP 13 b i := ⟨h, h2⟩
theorem gP_14 {b i : Nat} (h : b < 3) (h2 : i < 3) : gP 14 b i := ⟨h, h2⟩
theorem gP_15 {b i : Nat} (h : b < 3) (h2 : i < 16) : gP 15 b i := ⟨h, h2⟩
theorem gPL_nd : gPL.Nodup := by decide +kernel
/-- how long the law's own rows are: coins, how, had 16, sorts 4 -/
def gLn (k : Nat) : Nat := if k = 3 then 4 else 16
/-- what the cell at a place is -/
def gE (B : gB) (K b i : Nat) (f : Nat → Int32) : va_E := match K with
  | 0 => .inr (5, [.ref (B.2.1 1 0 0), .ref (B.2.1 4 0 0), .ref (B.2.1 10 0 0), .ref (B.2.1 10 1 0), .ref (B.2.1 10 2 0)])
  | 1 => .inr (2, [.ref (B.2.1 2 0 0), .ref (B.2.1 3 0 0), .int (f 2)])
  | 2 => .inl (B.2.2.1.1, 8, .inl f)
  | 3 => .inl (B.2.2.1.1, 21, .inl f)
  | 4 => .inl (B.2.2.1.1, 20, .inl f)
  | 10 => .inr (0, [.int (f 0), .int (f 1), .int (f 2), .int (f 3), .int (f 4), .int (f 5), .int (f 6), .ref (B.2.1 11 b 0), .ref (B.2.1 12 b 0), .ref (B.2.1 12 b 1), .ref (B.2.1 13 b 2)])
  | 11 => .inl (B.2.2.1.2.1, 16, .inr (.inr (.inr (.inr (fun j => some (B.2.1 15 b j))))))
  | 12 => .inr (3, [.ref (B.2.1 13 b i), .int (f 1), .int (f 2), .int (f 3), .int (f 4)])
  | 13 => .inr (4, [.ref (B.2.1 14 b i), .int (f 1)])
  | 14 => .inl (B.2.2.1.1, 16, .inl f)
  | 15 => .inr (1, [.int (f 0), .int (f 1), .int (f 2), .int (f 3), .int (f 4), .int (f 5), .int (f 6), .int (f 7), .int (f 8), .int (f 9), .int (f 10)])
  | _ => .inl (B.2.2.1.1, gLn b, .inl f)
/-- the places, and the law's own rows, as many as stand -/
def gPX (B : gB) : List (Nat × Nat × Nat) := gPL ++ (List.range B.2.2.2.2).map (fun k => (29, k, 0))
theorem gPX_in {B : gB} {K b i : Nat} (h : gP K b i) : (K, b, i) ∈ gPX B := List.mem_append_left _ (gPL_in h)
theorem gPX_own {B : gB} {k : Nat} (h : k < B.2.2.2.2) : (29, k, 0) ∈ gPX B := List.mem_append_right _ (List.mem_map.mpr ⟨k, List.mem_range.mpr h, rfl⟩)
theorem gPX_nd (B : gB) : (gPX B).Nodup := by
  unfold gPX
  refine List.nodup_append.mpr ⟨gPL_nd, ?_, fun q hq p hp e => ?_⟩
  · exact List.Pairwise.map (fun k => ((29, k, 0) : Nat × Nat × Nat)) (fun x y h e => h (congrArg (fun z => z.2.1) e)) List.nodup_range
  · obtain ⟨k, -, rfl⟩ := List.mem_map.mp hp
    subst e
    exact absurd (gP_K (gPL_of hq)) (by show ¬ 29 < 29; decide)
def gAt (B : gB) (V : gMem) (q : Nat × Nat × Nat) : Nat × va_E := (B.2.1 q.1 q.2.1 q.2.2, gE B q.1 q.2.1 q.2.2 (V q.1 q.2.1 q.2.2))
def gws (B : gB) (V : gMem) : va_W := (gPX B).map (gAt B V)
def gI (B : gB) : Prop := ∀ p ∈ gPX B, ∀ q ∈ gPX B, B.2.1 p.1 p.2.1 p.2.2 = B.2.1 q.1 q.2.1 q.2.2 → p = q
def gA (B : gB) (sz : Nat) : Nat → Prop := fun a => (∃ q ∈ gPX B, a = B.2.1 q.1 q.2.1 q.2.2) ∨ sz ≤ a
def gty (B : gB) : List (ClassId × FieldType) := [(B.2.2.1.1, .int), (B.2.2.1.2.1, .object RX1)]
def gT (U : State) : Prop := ∀ w, gW w → ∀ a' : Array Value, w.before a' U = true
def gS (B : gB) (U : State) : Prop := gT U ∧ va_K B.1 vwCl (gty B) U
theorem gT.warm {s U : State} (hW : s.WarmedH U.vm) (h : gT s) : gT U := by
  intro w hw a'
  have h0 := h w hw #[]
  have hg := hw.2
  unfold gok at hg
  cases hq : goodWord w with
  | true => exact word_at hW (good_of_word hq) h0
  | false =>
    rw [hq, Bool.false_or] at hg
    split at hg
    · exact va_Nw.use rfl (va_Nw.warmF hW h0)
    · exact va_Nw.use rfl (va_Nw.warmM hW h0)
    · cases hg
theorem gS.warm {B : gB} {s U : State} (hW : s.WarmedH U.vm) (h : gS B s) : gS B U := ⟨h.1.warm hW, va_K.moved hW.alike h.2⟩
theorem gS.same {B : gB} {s U : State} (hv : U.vm = s.vm) (h : gS B s) : gS B U := h.warm (by rw [hv]; exact State.WarmedH.refl s)
theorem gws_atX (B : gB) (V : gMem) {K b i : Nat} (h : (K, b, i) ∈ gPX B) : ∃ k : Nat, (gPX B)[k]? = some (K, b, i) ∧ (gws B V)[k]? = some (B.2.1 K b i, gE B K b i (V K b i)) := by
  obtain ⟨k, hk⟩ := List.getElem?_of_mem h
  exact ⟨k, hk, by simp [gws, gAt, hk]⟩
theorem gws_at (B : gB) (V : gMem) {K b i : Nat} (h : gP K b i) : ∃ k : Nat, (gPX B)[k]? = some (K, b, i) ∧ (gws B V)[k]? = some (B.2.1 K b i, gE B K b i (V K b i)) := gws_atX B V (gPX_in h)
theorem gPX_one {B : gB} {j k : Nat} {q : Nat × Nat × Nat} (hj : (gPX B)[j]? = some q) (hk : (gPX B)[k]? = some q) : j = k := by
  have hjl := (List.getElem?_eq_some_iff.mp hj).1
  exact (List.getElem?_inj hjl (gPX_nd B)).mp (hj.trans hk.symm)
theorem gws_D {B : gB} (V : gMem) (sz : Nat) (hI : gI B) : va_D (gA B sz) (gws B V) := by
  have key : ∀ (k : Nat) (p : Nat × va_E), (gws B V)[k]? = some p → ∃ q, (gPX B)[k]? = some q ∧ p.1 = B.2.1 q.1 q.2.1 q.2.2 := by
    intro k p hp
    simp only [gws, List.getElem?_map] at hp
    cases hq : (gPX B)[k]? with
    | none => rw [hq] at hp; cases hp
    | some q => rw [hq] at hp; cases hp; exact ⟨q, rfl, rfl⟩
  refine ⟨fun i j p q hp hq hpq => ?_, fun k p hp => ?_⟩
  · obtain ⟨x, h1, h2⟩ := key i p hp
    obtain ⟨y, h3, h4⟩ := key j q hq
    have := hI x (List.mem_of_getElem? h1) y (List.mem_of_getElem? h3) (h2.symm.trans (hpq.trans h4))
    subst this
    exact gPX_one h1 h3
  · obtain ⟨x, h1, h2⟩ := key k p hp
    exact Or.inl ⟨x, List.mem_of_getElem? h1, h2⟩
theorem gup_row (V : gMem) (K b i j : Nat) (x : Int32) : gup V K b i j x K b i = upd (V K b i) j x := by
  funext k
  simp [gup, upd]
theorem gup_off (V : gMem) {K b i j K' b' i' : Nat} (x : Int32) (h : ¬ (K' = K ∧ b' = b ∧ i' = i)) : gup V K b i j x K' b' i' = V K' b' i' := by
  funext k
  simp only [gup]
  rw [if_neg (fun q => h ⟨q.1, q.2.1, q.2.2.1⟩)]
theorem gws_set {B : gB} {V : gMem} {K b i k : Nat} (j : Nat) (x : Int32) (hk : (gPX B)[k]? = some (K, b, i)) {e : va_E} (he : e = gE B K b i (upd (V K b i) j x)) : (gws B V).set k (B.2.1 K b i, e) = gws B (gup V K b i j x) := by
  subst he
  have hl := (List.getElem?_eq_some_iff.mp hk).1
  apply List.ext_getElem?
  intro n
  by_cases hn : n = k
  · subst hn
    rw [List.getElem?_set_self (by simp [gws]; exact hl)]
    simp only [gws, List.getElem?_map, hk, Option.map_some, gAt, gup_row]
  · rw [List.getElem?_set_ne (Ne.symm hn)]
    simp only [gws, List.getElem?_map]
    cases hq : (gPX B)[n]? with
    | none => rfl
    | some q =>
      have hne : ¬ (q.1 = K ∧ q.2.1 = b ∧ q.2.2 = i) := by
        rintro ⟨rfl, rfl, rfl⟩
        exact hn (gPX_one hq hk)
      simp only [Option.map_some, gAt, gup_off V x hne]
/-! the judgement -/
abbrev gZ : Type := Program × Launch × Env × Room × State × MethodId × Array Value × List Frame × Method × Code × Nat × (State → Prop)
def gG (Z : gZ) (B : gB) (n : Nat × Nat) (V : gMem) (pc : Nat) (L : List (Nat × Value)) (st : List Value) : Prop := match Z with
  | (p, l, e, R, s, m, args, below, meth, c, nL, Q) => ∀ (H : Heap) (locs : List Loc) (ls : Array Slot), va_P B.1 vwCl (gws B V) H → va_S (gA B s.heap.size) s.heap H locs → lv_has ls nL L → W p l e R s m args below meth c H locs n.1 n.2 Q (F0 m pc ls st)
def gX (Z : gZ) (B : gB) (cc : ByteArray) (own : String) : Prop := match Z with
  | (p, _, _, _, s, m, _, _, meth, c, nL, _) => p.tables.exec = Jvm.exec ∧ c.code = cc ∧ c.maxLocals = nL ∧ s.vm.findClass own = some m.cls ∧ gS B s ∧ gI B ∧ meth.locks = false
def gQ (B : gB) (post : Option Value → gMem → Prop) (sz : Nat) : Array Value → State → Outcome → State → Prop := fun _ st oc t => (∃ (v : Option Value) (V : gMem), oc = .returned v ∧ post v V ∧ va_P B.1 vwCl (gws B V) t.heap) ∧ va_F (gA B sz) st t
def gF (Z : gZ) (B : gB) (rm : Room) (ret : Option FieldType) (post : Option Value → gMem → Prop) : Prop := match Z with
  | (_, _, _, R, s, _, args, below, meth, _, _, Q) => R = rm ∧ meth.sig.returnType = ret ∧ Q = MQ below (gQ B post s.heap.size) args s rm.cells rm.slots (gA B s.heap.size)
def gl (Z : gZ) : Launch := Z.2.1
def gnL (Z : gZ) : Nat := Z.2.2.2.2.2.2.2.2.2.2.1
def gRm (Z : gZ) : Room := Z.2.2.2.1
theorem gnl_lt {Z : gZ} {k n : Nat} (h : gnL Z = n) (hk : k < n) : k < gnL Z := h ▸ hk
/-- a method's contract: from the memory V, with these arguments, it returns, with post -/
def gM (l : Launch) (B : gB) (y : MethodName) (bc : ByteArray) (nL : Nat) (ret : Option FieldType) (rm : Room) (av : List Value) (V : gMem) (post : Option Value → gMem → Prop) : Prop :=
  ∀ sz : Nat, Met l y [.code y bc nL ret] rm (va_Pc av (fun U => U.heap.size = sz ∧ va_P B.1 vwCl (gws B V) U.heap ∧ gS B U)) (gQ B post sz) rm.cells rm.slots (gA B sz)
theorem gM_of {l : Launch} {B : gB} {y : MethodName} {bc : ByteArray} {nL : Nat} {ret : Option FieldType} {rm : Room} {av : List Value} {V : gMem} {post : Option Value → gMem → Prop} {L : List (Nat × Value)} {own : String} (hy : plainName y.cls = true) (hown : y.cls = own) (hI : gI B) (hlen : (lg_sl av).length ≤ nL) (hL : lv_args 0 av = L)
    (body : ∀ Z : gZ, gnL Z = nL → gRm Z = rm → gX Z B bc own → gF Z B rm ret post → gG Z B (0, 0) V 0 L []) : gM l B y bc nL ret rm av V post := by
  intro sz
  refine Met.ofW (cc := bc) (maxL := nL) (ret := ret) hy rfl ?_
  intro p e s m args below meth c s₁ B' hml hv
  obtain ⟨rfl, hsz, hP, hS⟩ := hv
  subst hsz
  subst hown
  have h := body (p, l, e, rm, s, m, av.toArray, below, meth, c, nL, MQ below (gQ B post s.heap.size) av.toArray s rm.cells rm.slots (gA B s.heap.size)) rfl rfl ⟨B'.exec, B'.bytes, hml, findClass_of_methodNamed B'.named, hS, hI, B'.notSynchronized⟩ ⟨rfl, B'.returns, rfl⟩
  have hl := lv_entry av (n := nL) hlen
  rw [lg_entry_eq]
  rw [hL] at hl
  exact h s.heap [] _ hP va_S.rf hl
theorem gM.mono {l : Launch} {B : gB} {y : MethodName} {bc : ByteArray} {nL : Nat} {ret : Option FieldType} {rm : Room} {av : List Value} {V : gMem} {post post' : Option Value → gMem → Prop} (h : gM l B y bc nL ret rm av V post) (hp : ∀ v V', post v V' → post' v V') : gM l B y bc nL ret rm av V post' := by
  intro sz
  exact MetFree.mono (h sz) (fun _ _ q => q) (fun _ _ _ _ _ q => q) (fun a s o s' _ q => ⟨⟨q.1.1.elim fun v q => q.elim fun V' q => ⟨v, V', q.1, hp _ _ q.2.1, q.2.2⟩, q.1.2⟩, q.2⟩)
theorem gG_st {Z : gZ} {B : gB} {n : Nat × Nat} {V : gMem} {pc : Nat} {L : List (Nat × Value)} {st : List Value} (st' : List Value) (h : st = st') (k : gG Z B n V pc L st') : gG Z B n V pc L st := h ▸ k
theorem gG_V {Z : gZ} {B : gB} {n : Nat × Nat} {V : gMem} {pc : Nat} {L : List (Nat × Value)} {st : List Value} (V' : gMem) (h : V = V') (k : gG Z B n V' pc L st) : gG Z B n V pc L st := h ▸ k
theorem gG_L {Z : gZ} {B : gB} {n : Nat × Nat} {V : gMem} {pc : Nat} {L L' : List (Nat × Value)} {st : List Value} (ks : List Nat) (h : lv_pick L ks = L') (k : gG Z B n V pc L' st) : gG Z B n V pc L st := by
  obtain ⟨p, l, e, R, s, m, args, below, meth, c, nL, Q⟩ := Z
  exact fun H locs ls hP hS hl => k H locs ls hP hS (lv_sub hl ks h)
theorem gG_Le {Z : gZ} {B : gB} {n : Nat × Nat} {V : gMem} {pc : Nat} {L : List (Nat × Value)} {st : List Value} (L' : List (Nat × Value)) (h : L = L') (k : gG Z B n V pc L' st) : gG Z B n V pc L st := h ▸ k
theorem gG_ret {Z : gZ} {B : gB} {n : Nat × Nat} {V V' : gMem} {pc : Nat} {L : List (Nat × Value)} {rest : List Value} {v v0 : Option Value} (h1 : v = v0) (h2 : V' = V) (k : gG Z B n V pc L (v0.toList ++ rest)) : gG Z B n V' pc L (v.toList ++ rest) := by
  subst h1; subst h2
  exact k
theorem gG_rv {Z : gZ} {B : gB} {n : Nat × Nat} {V : gMem} {pc : Nat} {L : List (Nat × Value)} {rest : List Value} {v v0 : Option Value} (h1 : v = v0) (k : gG Z B n V pc L (v0.toList ++ rest)) : gG Z B n V pc L (v.toList ++ rest) := by
  subst h1
  exact k
theorem iinc_1 (k : Nat) : nI k + Int32.ofInt 1 = nI (k + 1) := nI_1 k
theorem iinc_m1 (k : Nat) : nI (k + 1) + Int32.ofInt (-1) = nI k := by
  have h : Int32.ofInt (-1) = -1 := by decide
  rw [h]
  exact pk_m1 k
theorem gG_nm {Z : gZ} {B : gB} {n : Nat × Nat} {V : gMem} {pc : Nat} {L : List (Nat × Value)} {st : List Value} (k : ∀ V1, V1 = V → gG Z B n V1 pc L st) : gG Z B n V pc L st := k V rfl
theorem gG_nmi {Z : gZ} {B : gB} {n : Nat × Nat} {V : gMem} {pc : Nat} {L : List (Nat × Value)} {st : List Value} {x : Int32} (k : ∀ y, y = x → gG Z B n V pc L (.int y :: st)) : gG Z B n V pc L (.int x :: st) := k x rfl
theorem gG_top {Z : gZ} {B : gB} {n : Nat × Nat} {V : gMem} {pc : Nat} {L : List (Nat × Value)} {st : List Value} {x : Int32} (y : Int32) (h : x = y) (k : gG Z B n V pc L (.int y :: st)) : gG Z B n V pc L (.int x :: st) := h ▸ k
section GR
variable {Z : gZ} {B : gB} {n : Nat × Nat} {V : gMem} {pc : Nat} {L L' : List (Nat × Value)} {st : List Value} {cc : ByteArray} {own : String}
theorem g_iload_n (X : gX Z B cc own) {k : Fin 4} {x : Int32} (j : Nat) (h : L[j]? = some ((k : Nat), .int x)) (d : decode cc pc = .ok (.iload_n k, 1)) (kk : gG Z B n V (pc + 1) L (.int x :: st)) : gG Z B n V pc L (st) := by
  obtain ⟨p, l, e, R, s, m, args, below, meth, c, nL, Q⟩ := Z
  exact fun H locs ls hP hS hl => lv_iload_n X.1 X.2.1 d rfl (lv_at hl j h) (kk H locs ls hP hS hl)
theorem g_iload (X : gX Z B cc own) {k : Nat} {x : Int32} (j : Nat) (h : L[j]? = some (k, .int x)) (d : decode cc pc = .ok (.iload k, 2)) (kk : gG Z B n V (pc + 2) L (.int x :: st)) : gG Z B n V pc L (st) := by
  obtain ⟨p, l, e, R, s, m, args, below, meth, c, nL, Q⟩ := Z
  exact fun H locs ls hP hS hl => lv_iload X.1 X.2.1 d (lv_at hl j h) (kk H locs ls hP hS hl)
theorem g_lload_n (X : gX Z B cc own) {k : Fin 4} {x : Int64} (j : Nat) (h : L[j]? = some ((k : Nat), .long x)) (d : decode cc pc = .ok (.lload_n k, 1)) (kk : gG Z B n V (pc + 1) L (.long x :: st)) : gG Z B n V pc L (st) := by
  obtain ⟨p, l, e, R, s, m, args, below, meth, c, nL, Q⟩ := Z
  exact fun H locs ls hP hS hl => lv_lload_n X.1 X.2.1 d rfl (lv_at hl j h) (kk H locs ls hP hS hl)
theorem g_lload (X : gX Z B cc own) {k : Nat} {x : Int64} (j : Nat) (h : L[j]? = some (k, .long x)) (d : decode cc pc = .ok (.lload k, 2)) (kk : gG Z B n V (pc + 2) L (.long x :: st)) : gG Z B n V pc L (st) := by
  obtain ⟨p, l, e, R, s, m, args, below, meth, c, nL, Q⟩ := Z
  exact fun H locs ls hP hS hl => lv_lload X.1 X.2.1 d (lv_at hl j h) (kk H locs ls hP hS hl)
theorem g_aload_n (X : gX Z B cc own) {k : Fin 4} {x : Nat} (j : Nat) (h : L[j]? = some ((k : Nat), .ref x)) (d : decode cc pc = .ok (.aload_n k, 1)) (kk : gG Z B n V (pc + 1) L (.ref x :: st)) : gG Z B n V pc L (st) := by
  obtain ⟨p, l, e, R, s, m, args, below, meth, c, nL, Q⟩ := Z
  exact fun H locs ls hP hS hl => lv_aload_n X.1 X.2.1 d rfl (lv_at hl j h) (kk H locs ls hP hS hl)
theorem g_aload (X : gX Z B cc own) {k : Nat} {x : Nat} (j : Nat) (h : L[j]? = some (k, .ref x)) (d : decode cc pc = .ok (.aload k, 2)) (kk : gG Z B n V (pc + 2) L (.ref x :: st)) : gG Z B n V pc L (st) := by
  obtain ⟨p, l, e, R, s, m, args, below, meth, c, nL, Q⟩ := Z
  exact fun H locs ls hP hS hl => lv_aload X.1 X.2.1 d (lv_at hl j h) (kk H locs ls hP hS hl)
theorem g_aload_nN (X : gX Z B cc own) {k : Fin 4} (j : Nat) (h : L[j]? = some ((k : Nat), .null)) (d : decode cc pc = .ok (.aload_n k, 1)) (kk : gG Z B n V (pc + 1) L (.null :: st)) : gG Z B n V pc L (st) := by
  obtain ⟨p, l, e, R, s, m, args, below, meth, c, nL, Q⟩ := Z
  exact fun H locs ls hP hS hl => lv_aload_nN X.1 X.2.1 d rfl (lv_at hl j h) (kk H locs ls hP hS hl)
theorem g_aloadN (X : gX Z B cc own) {k : Nat} (j : Nat) (h : L[j]? = some (k, .null)) (d : decode cc pc = .ok (.aload k, 2)) (kk : gG Z B n V (pc + 2) L (.null :: st)) : gG Z B n V pc L (st) := by
  obtain ⟨p, l, e, R, s, m, args, below, meth, c, nL, Q⟩ := Z
  exact fun H locs ls hP hS hl => lv_aloadN X.1 X.2.1 d (lv_at hl j h) (kk H locs ls hP hS hl)
theorem g_iconst (X : gX Z B cc own) {k : Int} (v : Int32) (h : Int32.ofInt k = v) (d : decode cc pc = .ok (.iconst k, 1)) (kk : gG Z B n V (pc + 1) L (.int v :: st)) : gG Z B n V pc L (st) := by
  obtain ⟨p, l, e, R, s, m, args, below, meth, c, nL, Q⟩ := Z
  exact fun H locs ls hP hS hl => lv_iconst X.1 X.2.1 d h (kk H locs ls hP hS hl)
theorem g_bipush (X : gX Z B cc own) {k : Int} (v : Int32) (h : (Int8.ofInt k).toInt32 = v) (d : decode cc pc = .ok (.bipush k, 2)) (kk : gG Z B n V (pc + 2) L (.int v :: st)) : gG Z B n V pc L (st) := by
  obtain ⟨p, l, e, R, s, m, args, below, meth, c, nL, Q⟩ := Z
  exact fun H locs ls hP hS hl => lv_bipush X.1 X.2.1 d h (kk H locs ls hP hS hl)
theorem g_sipush (X : gX Z B cc own) {k : Int} (v : Int32) (h : (Int16.ofInt k).toInt32 = v) (d : decode cc pc = .ok (.sipush k, 3)) (kk : gG Z B n V (pc + 3) L (.int v :: st)) : gG Z B n V pc L (st) := by
  obtain ⟨p, l, e, R, s, m, args, below, meth, c, nL, Q⟩ := Z
  exact fun H locs ls hP hS hl => lv_sipush X.1 X.2.1 d h (kk H locs ls hP hS hl)
theorem g_lconst (X : gX Z B cc own) {k : Fin 2} (v : Int64) (h : Int64.ofNat (k : Nat) = v) (d : decode cc pc = .ok (.lconst k, 1)) (kk : gG Z B n V (pc + 1) L (.long v :: st)) : gG Z B n V pc L (st) := by
  obtain ⟨p, l, e, R, s, m, args, below, meth, c, nL, Q⟩ := Z
  exact fun H locs ls hP hS hl => lv_lconst X.1 X.2.1 d h (kk H locs ls hP hS hl)
theorem g_ldc2 (X : gX Z B cc own) {index : Nat} (v : Int64) (h : gW (.constantLong own index v)) (d : decode cc pc = .ok (.ldc2_w index, 3)) (kk : gG Z B n V (pc + 3) L (.long v :: st)) : gG Z B n V pc L (st) := by
  obtain ⟨p, l, e, R, s, m, args, below, meth, c, nL, Q⟩ := Z
  exact fun H locs ls hP hS hl => lv_ldc2 X.1 X.2.1 X.2.2.2.1 (X.2.2.2.2.1.1 _ h _) d (kk H locs ls hP hS hl)
theorem g_null (X : gX Z B cc own) (d : decode cc pc = .ok (.aconst_null, 1)) (kk : gG Z B n V (pc + 1) L (.null :: st)) : gG Z B n V pc L (st) := by
  obtain ⟨p, l, e, R, s, m, args, below, meth, c, nL, Q⟩ := Z
  exact fun H locs ls hP hS hl => lv_null X.1 X.2.1 d (kk H locs ls hP hS hl)
theorem g_iadd (X : gX Z B cc own) {x y : Int32} (d : decode cc pc = .ok (.iadd, 1)) (kk : gG Z B n V (pc + 1) L (.int (x + y) :: st)) : gG Z B n V pc L (.int y :: .int x :: st) := by
  obtain ⟨p, l, e, R, s, m, args, below, meth, c, nL, Q⟩ := Z
  exact fun H locs ls hP hS hl => lv_iadd X.1 X.2.1 d (kk H locs ls hP hS hl)
theorem g_isub (X : gX Z B cc own) {x y : Int32} (d : decode cc pc = .ok (.isub, 1)) (kk : gG Z B n V (pc + 1) L (.int (x - y) :: st)) : gG Z B n V pc L (.int y :: .int x :: st) := by
  obtain ⟨p, l, e, R, s, m, args, below, meth, c, nL, Q⟩ := Z
  exact fun H locs ls hP hS hl => lv_isub X.1 X.2.1 d (kk H locs ls hP hS hl)
theorem g_imul (X : gX Z B cc own) {x y : Int32} (d : decode cc pc = .ok (.imul, 1)) (kk : gG Z B n V (pc + 1) L (.int (x * y) :: st)) : gG Z B n V pc L (.int y :: .int x :: st) := by
  obtain ⟨p, l, e, R, s, m, args, below, meth, c, nL, Q⟩ := Z
  exact fun H locs ls hP hS hl => lv_imul X.1 X.2.1 d (kk H locs ls hP hS hl)
theorem g_ior (X : gX Z B cc own) {x y : Int32} (d : decode cc pc = .ok (.ior, 1)) (kk : gG Z B n V (pc + 1) L (.int (x ||| y) :: st)) : gG Z B n V pc L (.int y :: .int x :: st) := by
  obtain ⟨p, l, e, R, s, m, args, below, meth, c, nL, Q⟩ := Z
  exact fun H locs ls hP hS hl => lv_ior X.1 X.2.1 d (kk H locs ls hP hS hl)
theorem g_iand (X : gX Z B cc own) {x y : Int32} (d : decode cc pc = .ok (.iand, 1)) (kk : gG Z B n V (pc + 1) L (.int (x &&& y) :: st)) : gG Z B n V pc L (.int y :: .int x :: st) := by
  obtain ⟨p, l, e, R, s, m, args, below, meth, c, nL, Q⟩ := Z
  exact fun H locs ls hP hS hl => lv_iand X.1 X.2.1 d (kk H locs ls hP hS hl)
theorem g_idiv (X : gX Z B cc own) {x y : Int32} (h : ¬ y = 0) (d : decode cc pc = .ok (.idiv, 1)) (kk : gG Z B n V (pc + 1) L (.int (x / y) :: st)) : gG Z B n V pc L (.int y :: .int x :: st) := by
  obtain ⟨p, l, e, R, s, m, args, below, meth, c, nL, Q⟩ := Z
  exact fun H locs ls hP hS hl => lv_idiv X.1 X.2.1 d h (kk H locs ls hP hS hl)
theorem g_irem (X : gX Z B cc own) {x y : Int32} (h : ¬ y = 0) (d : decode cc pc = .ok (.irem, 1)) (kk : gG Z B n V (pc + 1) L (.int (x - x / y * y) :: st)) : gG Z B n V pc L (.int y :: .int x :: st) := by
  obtain ⟨p, l, e, R, s, m, args, below, meth, c, nL, Q⟩ := Z
  exact fun H locs ls hP hS hl => lv_irem X.1 X.2.1 d h (kk H locs ls hP hS hl)
theorem g_ishl (X : gX Z B cc own) {x y : Int32} (d : decode cc pc = .ok (.ishl, 1)) (kk : gG Z B n V (pc + 1) L (.int (x <<< (y &&& 31)) :: st)) : gG Z B n V pc L (.int y :: .int x :: st) := by
  obtain ⟨p, l, e, R, s, m, args, below, meth, c, nL, Q⟩ := Z
  exact fun H locs ls hP hS hl => lv_ishl X.1 X.2.1 d (kk H locs ls hP hS hl)
theorem g_ishr (X : gX Z B cc own) {x y : Int32} (d : decode cc pc = .ok (.ishr, 1)) (kk : gG Z B n V (pc + 1) L (.int (x >>> (y &&& 31)) :: st)) : gG Z B n V pc L (.int y :: .int x :: st) := by
  obtain ⟨p, l, e, R, s, m, args, below, meth, c, nL, Q⟩ := Z
  exact fun H locs ls hP hS hl => lv_ishr X.1 X.2.1 d (kk H locs ls hP hS hl)
theorem g_ldc (X : gX Z B cc own) {index : Nat} (v : Int32) (h : gW (.constant own index v)) (d : decode cc pc = .ok (.ldc index, 2)) (kk : gG Z B n V (pc + 2) L (.int v :: st)) : gG Z B n V pc L (st) := by
  obtain ⟨p, l, e, R, s, m, args, below, meth, c, nL, Q⟩ := Z
  exact fun H locs ls hP hS hl => lv_ldc X.1 X.2.1 X.2.2.2.1 (X.2.2.2.2.1.1 _ h _) d (kk H locs ls hP hS hl)
theorem g_ladd (X : gX Z B cc own) {x y : Int64} (d : decode cc pc = .ok (.ladd, 1)) (kk : gG Z B n V (pc + 1) L (.long (x + y) :: st)) : gG Z B n V pc L (.long y :: .long x :: st) := by
  obtain ⟨p, l, e, R, s, m, args, below, meth, c, nL, Q⟩ := Z
  exact fun H locs ls hP hS hl => lv_ladd X.1 X.2.1 d (kk H locs ls hP hS hl)
theorem g_lmul (X : gX Z B cc own) {x y : Int64} (d : decode cc pc = .ok (.lmul, 1)) (kk : gG Z B n V (pc + 1) L (.long (x * y) :: st)) : gG Z B n V pc L (.long y :: .long x :: st) := by
  obtain ⟨p, l, e, R, s, m, args, below, meth, c, nL, Q⟩ := Z
  exact fun H locs ls hP hS hl => lv_lmul X.1 X.2.1 d (kk H locs ls hP hS hl)
theorem g_i2l (X : gX Z B cc own) {x : Int32} (d : decode cc pc = .ok (.i2l, 1)) (kk : gG Z B n V (pc + 1) L (.long x.toInt64 :: st)) : gG Z B n V pc L (.int x :: st) := by
  obtain ⟨p, l, e, R, s, m, args, below, meth, c, nL, Q⟩ := Z
  exact fun H locs ls hP hS hl => lv_i2l X.1 X.2.1 d rfl (kk H locs ls hP hS hl)
theorem g_lcmp (X : gX Z B cc own) {x y : Int64} (d : decode cc pc = .ok (.lcmp, 1)) (kk : gG Z B n V (pc + 1) L (.int (lg_cmp x y) :: st)) : gG Z B n V pc L (.long y :: .long x :: st) := by
  obtain ⟨p, l, e, R, s, m, args, below, meth, c, nL, Q⟩ := Z
  exact fun H locs ls hP hS hl => W.lcmp X.1 X.2.1 d (kk H locs ls hP hS hl)
theorem g_dup (X : gX Z B cc own) {v : Value} (h : v.category = 1) (d : decode cc pc = .ok (.dup, 1)) (kk : gG Z B n V (pc + 1) L (v :: v :: st)) : gG Z B n V pc L (v :: st) := by
  obtain ⟨p, l, e, R, s, m, args, below, meth, c, nL, Q⟩ := Z
  exact fun H locs ls hP hS hl => lv_dup X.1 X.2.1 d h (kk H locs ls hP hS hl)
theorem g_dup2 (X : gX Z B cc own) {v w : Value} (h : v.category = 1) (h2 : w.category = 1) (d : decode cc pc = .ok (.dup2, 1)) (kk : gG Z B n V (pc + 1) L (v :: w :: v :: w :: st)) : gG Z B n V pc L (v :: w :: st) := by
  obtain ⟨p, l, e, R, s, m, args, below, meth, c, nL, Q⟩ := Z
  exact fun H locs ls hP hS hl => lv_dup2_11 X.1 X.2.1 d h h2 (kk H locs ls hP hS hl)
theorem g_pop (X : gX Z B cc own) {v : Value} (h : v.category = 1) (d : decode cc pc = .ok (.pop, 1)) (kk : gG Z B n V (pc + 1) L (st)) : gG Z B n V pc L (v :: st) := by
  obtain ⟨p, l, e, R, s, m, args, below, meth, c, nL, Q⟩ := Z
  exact fun H locs ls hP hS hl => lv_pop X.1 X.2.1 d h (kk H locs ls hP hS hl)
theorem g_goto (X : gX Z B cc own) {off : Int} (tgt : Nat) (h : (pc : Int) + off = (tgt : Int)) (d : decode cc pc = .ok (.goto off, 3)) (kk : gG Z B n V tgt L (st)) : gG Z B n V pc L (st) := by
  obtain ⟨p, l, e, R, s, m, args, below, meth, c, nL, Q⟩ := Z
  exact fun H locs ls hP hS hl => lv_goto X.1 X.2.1 d h (kk H locs ls hP hS hl)
theorem g_ifnull (X : gX Z B cc own) {off : Int} {x : Nat} (d : decode cc pc = .ok (.ifnull off, 3)) (kk : gG Z B n V (pc + 3) L (st)) : gG Z B n V pc L (.ref x :: st) := by
  obtain ⟨p, l, e, R, s, m, args, below, meth, c, nL, Q⟩ := Z
  exact fun H locs ls hP hS hl => lv_ifnull X.1 X.2.1 d (kk H locs ls hP hS hl)
theorem g_ifnullN (X : gX Z B cc own) {off : Int} (tgt : Nat) (h : (pc : Int) + off = (tgt : Int)) (d : decode cc pc = .ok (.ifnull off, 3)) (kk : gG Z B n V tgt L (st)) : gG Z B n V pc L (.null :: st) := by
  obtain ⟨p, l, e, R, s, m, args, below, meth, c, nL, Q⟩ := Z
  exact fun H locs ls hP hS hl => lv_ifnullN X.1 X.2.1 d h (kk H locs ls hP hS hl)
theorem g_ifnonnull (X : gX Z B cc own) {off : Int} {x : Nat} (tgt : Nat) (h : (pc : Int) + off = (tgt : Int)) (d : decode cc pc = .ok (.ifnonnull off, 3)) (kk : gG Z B n V tgt L (st)) : gG Z B n V pc L (.ref x :: st) := by
  obtain ⟨p, l, e, R, s, m, args, below, meth, c, nL, Q⟩ := Z
  exact fun H locs ls hP hS hl => lv_ifnonnull X.1 X.2.1 d h (kk H locs ls hP hS hl)
theorem g_ifnonnullN (X : gX Z B cc own) {off : Int} (d : decode cc pc = .ok (.ifnonnull off, 3)) (kk : gG Z B n V (pc + 3) L (st)) : gG Z B n V pc L (.null :: st) := by
  obtain ⟨p, l, e, R, s, m, args, below, meth, c, nL, Q⟩ := Z
  exact fun H locs ls hP hS hl => lv_ifnonnullN X.1 X.2.1 d (kk H locs ls hP hS hl)
theorem g_istore (X : gX Z B cc own) {k : Nat} {x : Int32} (d : decode cc pc = .ok (.istore k, 2)) (L2 : List (Nat × Value)) (h2 : (k, Value.int x) :: L.filter (fun q => !(q.1 == k) && !(q.1 + 1 == k && q.2.category == 2)) = L2) (hn : k < gnL Z) (kk : gG Z B n V (pc + 2) L2 st) : gG Z B n V pc L (Value.int x :: st) := by
  obtain ⟨p, l, e, R, s, m, args, below, meth, c, nL, Q⟩ := Z
  exact fun H locs ls hP hS hl => lv_istore X.1 X.2.1 d hl hn h2 (fun ls hl => kk H locs ls hP hS hl)
theorem g_istore_n (X : gX Z B cc own) {k0 : Fin 4} {k : Nat} {x : Int32} (hk : (k0 : Nat) = k) (d : decode cc pc = .ok (.istore_n k0, 1)) (L2 : List (Nat × Value)) (h2 : (k, Value.int x) :: L.filter (fun q => !(q.1 == k) && !(q.1 + 1 == k && q.2.category == 2)) = L2) (hn : k < gnL Z) (kk : gG Z B n V (pc + 1) L2 st) : gG Z B n V pc L (Value.int x :: st) := by
  obtain ⟨p, l, e, R, s, m, args, below, meth, c, nL, Q⟩ := Z
  exact fun H locs ls hP hS hl => lv_istore_n X.1 X.2.1 d hk hl hn h2 (fun ls hl => kk H locs ls hP hS hl)
theorem g_astore (X : gX Z B cc own) {k : Nat} {x : Nat} (d : decode cc pc = .ok (.astore k, 2)) (L2 : List (Nat × Value)) (h2 : (k, Value.ref x) :: L.filter (fun q => !(q.1 == k) && !(q.1 + 1 == k && q.2.category == 2)) = L2) (hn : k < gnL Z) (kk : gG Z B n V (pc + 2) L2 st) : gG Z B n V pc L (Value.ref x :: st) := by
  obtain ⟨p, l, e, R, s, m, args, below, meth, c, nL, Q⟩ := Z
  exact fun H locs ls hP hS hl => lv_astore X.1 X.2.1 d hl hn h2 (fun ls hl => kk H locs ls hP hS hl)
theorem g_astore_n (X : gX Z B cc own) {k0 : Fin 4} {k : Nat} {x : Nat} (hk : (k0 : Nat) = k) (d : decode cc pc = .ok (.astore_n k0, 1)) (L2 : List (Nat × Value)) (h2 : (k, Value.ref x) :: L.filter (fun q => !(q.1 == k) && !(q.1 + 1 == k && q.2.category == 2)) = L2) (hn : k < gnL Z) (kk : gG Z B n V (pc + 1) L2 st) : gG Z B n V pc L (Value.ref x :: st) := by
  obtain ⟨p, l, e, R, s, m, args, below, meth, c, nL, Q⟩ := Z
  exact fun H locs ls hP hS hl => lv_astore_n X.1 X.2.1 d hk hl hn h2 (fun ls hl => kk H locs ls hP hS hl)
theorem g_astoreN (X : gX Z B cc own) {k : Nat} (d : decode cc pc = .ok (.astore k, 2)) (L2 : List (Nat × Value)) (h2 : (k, Value.null) :: L.filter (fun q => !(q.1 == k) && !(q.1 + 1 == k && q.2.category == 2)) = L2) (hn : k < gnL Z) (kk : gG Z B n V (pc + 2) L2 st) : gG Z B n V pc L (Value.null :: st) := by
  obtain ⟨p, l, e, R, s, m, args, below, meth, c, nL, Q⟩ := Z
  exact fun H locs ls hP hS hl => lv_astoreN X.1 X.2.1 d hl hn h2 (fun ls hl => kk H locs ls hP hS hl)
theorem g_astore_nN (X : gX Z B cc own) {k0 : Fin 4} {k : Nat} (hk : (k0 : Nat) = k) (d : decode cc pc = .ok (.astore_n k0, 1)) (L2 : List (Nat × Value)) (h2 : (k, Value.null) :: L.filter (fun q => !(q.1 == k) && !(q.1 + 1 == k && q.2.category == 2)) = L2) (hn : k < gnL Z) (kk : gG Z B n V (pc + 1) L2 st) : gG Z B n V pc L (Value.null :: st) := by
  obtain ⟨p, l, e, R, s, m, args, below, meth, c, nL, Q⟩ := Z
  exact fun H locs ls hP hS hl => lv_astore_nN X.1 X.2.1 d hk hl hn h2 (fun ls hl => kk H locs ls hP hS hl)
theorem g_lstore (X : gX Z B cc own) {k : Nat} {x : Int64} (d : decode cc pc = .ok (.lstore k, 2)) (L2 : List (Nat × Value)) (h2 : (k, Value.long x) :: L.filter (fun q => !(q.1 == k) && (!(q.1 == k + 1) && !(q.1 + 1 == k && q.2.category == 2))) = L2) (hn : k + 1 < gnL Z) (kk : gG Z B n V (pc + 2) L2 st) : gG Z B n V pc L (Value.long x :: st) := by
  obtain ⟨p, l, e, R, s, m, args, below, meth, c, nL, Q⟩ := Z
  exact fun H locs ls hP hS hl => lv_lstore X.1 X.2.1 d hl hn h2 (fun ls hl => kk H locs ls hP hS hl)
theorem g_lstore_n (X : gX Z B cc own) {k0 : Fin 4} {k : Nat} {x : Int64} (hk : (k0 : Nat) = k) (d : decode cc pc = .ok (.lstore_n k0, 1)) (L2 : List (Nat × Value)) (h2 : (k, Value.long x) :: L.filter (fun q => !(q.1 == k) && (!(q.1 == k + 1) && !(q.1 + 1 == k && q.2.category == 2))) = L2) (hn : k + 1 < gnL Z) (kk : gG Z B n V (pc + 1) L2 st) : gG Z B n V pc L (Value.long x :: st) := by
  obtain ⟨p, l, e, R, s, m, args, below, meth, c, nL, Q⟩ := Z
  exact fun H locs ls hP hS hl => lv_lstore_n X.1 X.2.1 d hk hl hn h2 (fun ls hl => kk H locs ls hP hS hl)
theorem g_iinc (X : gX Z B cc own) {k : Nat} {i : Int} {x : Int32} (j : Nat) (hj : L[j]? = some (k, .int x)) (v : Int32) (hv : x + Int32.ofInt i = v) (d : decode cc pc = .ok (.iinc k i, 3)) (L2 : List (Nat × Value)) (h2 : (k, Value.int v) :: L.filter (fun q => !(q.1 == k) && !(q.1 + 1 == k && q.2.category == 2)) = L2) (hn : k < gnL Z) (kk : gG Z B n V (pc + 3) L2 st) : gG Z B n V pc L st := by
  obtain ⟨p, l, e, R, s, m, args, below, meth, c, nL, Q⟩ := Z
  exact fun H locs ls hP hS hl => lv_iinc X.1 X.2.1 d hl (k := j) hj hv hn h2 (fun ls hl => kk H locs ls hP hS hl)
theorem g_icmp_eq (X : gX Z B cc own) {x y : Int32} {off : Int} (tgt : Nat) (h : (pc : Int) + off = (tgt : Int)) (d : decode cc pc = .ok (.if_icmp .eq off, 3)) (kt : x = y → gG Z B n V tgt L st) (kf : ¬ x = y → gG Z B n V (pc + 3) L st) : gG Z B n V pc L (.int y :: .int x :: st) := by
  obtain ⟨p, l, e, R, s, m, args, below, meth, c, nL, Q⟩ := Z
  exact fun H locs ls hP hS hl => lv_icmp_eq X.1 X.2.1 d h (fun q => kt q H locs ls hP hS hl) (fun q => kf q H locs ls hP hS hl)
theorem g_if_eq (X : gX Z B cc own) {x : Int32} {off : Int} (tgt : Nat) (h : (pc : Int) + off = (tgt : Int)) (d : decode cc pc = .ok (.ifCond .eq off, 3)) (kt : x = 0 → gG Z B n V tgt L st) (kf : ¬ x = 0 → gG Z B n V (pc + 3) L st) : gG Z B n V pc L (.int x :: st) := by
  obtain ⟨p, l, e, R, s, m, args, below, meth, c, nL, Q⟩ := Z
  exact fun H locs ls hP hS hl => lv_if_eq X.1 X.2.1 d h (fun q => kt q H locs ls hP hS hl) (fun q => kf q H locs ls hP hS hl)
theorem g_icmp_ne (X : gX Z B cc own) {x y : Int32} {off : Int} (tgt : Nat) (h : (pc : Int) + off = (tgt : Int)) (d : decode cc pc = .ok (.if_icmp .ne off, 3)) (kt : ¬ x = y → gG Z B n V tgt L st) (kf : x = y → gG Z B n V (pc + 3) L st) : gG Z B n V pc L (.int y :: .int x :: st) := by
  obtain ⟨p, l, e, R, s, m, args, below, meth, c, nL, Q⟩ := Z
  exact fun H locs ls hP hS hl => lv_icmp_ne X.1 X.2.1 d h (fun q => kt q H locs ls hP hS hl) (fun q => kf q H locs ls hP hS hl)
theorem g_if_ne (X : gX Z B cc own) {x : Int32} {off : Int} (tgt : Nat) (h : (pc : Int) + off = (tgt : Int)) (d : decode cc pc = .ok (.ifCond .ne off, 3)) (kt : ¬ x = 0 → gG Z B n V tgt L st) (kf : x = 0 → gG Z B n V (pc + 3) L st) : gG Z B n V pc L (.int x :: st) := by
  obtain ⟨p, l, e, R, s, m, args, below, meth, c, nL, Q⟩ := Z
  exact fun H locs ls hP hS hl => lv_if_ne X.1 X.2.1 d h (fun q => kt q H locs ls hP hS hl) (fun q => kf q H locs ls hP hS hl)
theorem g_icmp_lt (X : gX Z B cc own) {x y : Int32} {off : Int} (tgt : Nat) (h : (pc : Int) + off = (tgt : Int)) (d : decode cc pc = .ok (.if_icmp .lt off, 3)) (kt : x < y → gG Z B n V tgt L st) (kf : ¬ x < y → gG Z B n V (pc + 3) L st) : gG Z B n V pc L (.int y :: .int x :: st) := by
  obtain ⟨p, l, e, R, s, m, args, below, meth, c, nL, Q⟩ := Z
  exact fun H locs ls hP hS hl => lv_icmp_lt X.1 X.2.1 d h (fun q => kt q H locs ls hP hS hl) (fun q => kf q H locs ls hP hS hl)
theorem g_if_lt (X : gX Z B cc own) {x : Int32} {off : Int} (tgt : Nat) (h : (pc : Int) + off = (tgt : Int)) (d : decode cc pc = .ok (.ifCond .lt off, 3)) (kt : x < 0 → gG Z B n V tgt L st) (kf : ¬ x < 0 → gG Z B n V (pc + 3) L st) : gG Z B n V pc L (.int x :: st) := by
  obtain ⟨p, l, e, R, s, m, args, below, meth, c, nL, Q⟩ := Z
  exact fun H locs ls hP hS hl => lv_if_lt X.1 X.2.1 d h (fun q => kt q H locs ls hP hS hl) (fun q => kf q H locs ls hP hS hl)
theorem g_icmp_ge (X : gX Z B cc own) {x y : Int32} {off : Int} (tgt : Nat) (h : (pc : Int) + off = (tgt : Int)) (d : decode cc pc = .ok (.if_icmp .ge off, 3)) (kt : y ≤ x → gG Z B n V tgt L st) (kf : ¬ y ≤ x → gG Z B n V (pc + 3) L st) : gG Z B n V pc L (.int y :: .int x :: st) := by
  obtain ⟨p, l, e, R, s, m, args, below, meth, c, nL, Q⟩ := Z
  exact fun H locs ls hP hS hl => lv_icmp_ge X.1 X.2.1 d h (fun q => kt q H locs ls hP hS hl) (fun q => kf q H locs ls hP hS hl)
theorem g_if_ge (X : gX Z B cc own) {x : Int32} {off : Int} (tgt : Nat) (h : (pc : Int) + off = (tgt : Int)) (d : decode cc pc = .ok (.ifCond .ge off, 3)) (kt : 0 ≤ x → gG Z B n V tgt L st) (kf : ¬ 0 ≤ x → gG Z B n V (pc + 3) L st) : gG Z B n V pc L (.int x :: st) := by
  obtain ⟨p, l, e, R, s, m, args, below, meth, c, nL, Q⟩ := Z
  exact fun H locs ls hP hS hl => lv_if_ge X.1 X.2.1 d h (fun q => kt q H locs ls hP hS hl) (fun q => kf q H locs ls hP hS hl)
theorem g_icmp_gt (X : gX Z B cc own) {x y : Int32} {off : Int} (tgt : Nat) (h : (pc : Int) + off = (tgt : Int)) (d : decode cc pc = .ok (.if_icmp .gt off, 3)) (kt : y < x → gG Z B n V tgt L st) (kf : ¬ y < x → gG Z B n V (pc + 3) L st) : gG Z B n V pc L (.int y :: .int x :: st) := by
  obtain ⟨p, l, e, R, s, m, args, below, meth, c, nL, Q⟩ := Z
  exact fun H locs ls hP hS hl => lv_icmp_gt X.1 X.2.1 d h (fun q => kt q H locs ls hP hS hl) (fun q => kf q H locs ls hP hS hl)
theorem g_if_gt (X : gX Z B cc own) {x : Int32} {off : Int} (tgt : Nat) (h : (pc : Int) + off = (tgt : Int)) (d : decode cc pc = .ok (.ifCond .gt off, 3)) (kt : 0 < x → gG Z B n V tgt L st) (kf : ¬ 0 < x → gG Z B n V (pc + 3) L st) : gG Z B n V pc L (.int x :: st) := by
  obtain ⟨p, l, e, R, s, m, args, below, meth, c, nL, Q⟩ := Z
  exact fun H locs ls hP hS hl => lv_if_gt X.1 X.2.1 d h (fun q => kt q H locs ls hP hS hl) (fun q => kf q H locs ls hP hS hl)
theorem g_icmp_le (X : gX Z B cc own) {x y : Int32} {off : Int} (tgt : Nat) (h : (pc : Int) + off = (tgt : Int)) (d : decode cc pc = .ok (.if_icmp .le off, 3)) (kt : x ≤ y → gG Z B n V tgt L st) (kf : ¬ x ≤ y → gG Z B n V (pc + 3) L st) : gG Z B n V pc L (.int y :: .int x :: st) := by
  obtain ⟨p, l, e, R, s, m, args, below, meth, c, nL, Q⟩ := Z
  exact fun H locs ls hP hS hl => lv_icmp_le X.1 X.2.1 d h (fun q => kt q H locs ls hP hS hl) (fun q => kf q H locs ls hP hS hl)
theorem g_if_le (X : gX Z B cc own) {x : Int32} {off : Int} (tgt : Nat) (h : (pc : Int) + off = (tgt : Int)) (d : decode cc pc = .ok (.ifCond .le off, 3)) (kt : x ≤ 0 → gG Z B n V tgt L st) (kf : ¬ x ≤ 0 → gG Z B n V (pc + 3) L st) : gG Z B n V pc L (.int x :: st) := by
  obtain ⟨p, l, e, R, s, m, args, below, meth, c, nL, Q⟩ := Z
  exact fun H locs ls hP hS hl => lv_if_le X.1 X.2.1 d h (fun q => kt q H locs ls hP hS hl) (fun q => kf q H locs ls hP hS hl)
theorem g_tableIn (X : gX Z B cc own) {dflt lo hi : Int} {offs : Array Int} {len : Nat} {x : Int32} (off : Int) (tgt : Nat) (h1 : ¬ x.toInt < lo) (h2 : ¬ hi < x.toInt) (ho : offs[(x.toInt - lo).toNat]? = some off) (ht : (pc : Int) + off = (tgt : Int)) (d : decode cc pc = .ok (.tableswitch dflt lo hi offs, len)) (kk : gG Z B n V tgt L st) : gG Z B n V pc L (.int x :: st) := by
  obtain ⟨p, l, e, R, s, m, args, below, meth, c, nL, Q⟩ := Z
  exact fun H locs ls hP hS hl => lv_tableIn X.1 X.2.1 d h1 h2 ho ht (kk H locs ls hP hS hl)
theorem g_tableOut (X : gX Z B cc own) {dflt lo hi : Int} {offs : Array Int} {len : Nat} {x : Int32} (tgt : Nat) (h1 : x.toInt < lo ∨ hi < x.toInt) (ht : (pc : Int) + dflt = (tgt : Int)) (d : decode cc pc = .ok (.tableswitch dflt lo hi offs, len)) (kk : gG Z B n V tgt L st) : gG Z B n V pc L (.int x :: st) := by
  obtain ⟨p, l, e, R, s, m, args, below, meth, c, nL, Q⟩ := Z
  exact fun H locs ls hP hS hl => lv_tableOut X.1 X.2.1 d h1 ht (kk H locs ls hP hS hl)
theorem g_lookup (X : gX Z B cc own) {dflt : Int} {ps : Array (Int × Int)} {len : Nat} {x : Int32} (off : Int) (tgt : Nat) (hp : (ps.toList.zip (ps.toList.drop 1)).all (fun (a, next) => a.1 < next.1) = true) (ho : Op.lookupswitch.offset ps.toList dflt x.toInt = off) (ht : (pc : Int) + off = (tgt : Int)) (d : decode cc pc = .ok (.lookupswitch dflt ps, len)) (kk : gG Z B n V tgt L st) : gG Z B n V pc L (.int x :: st) := by
  obtain ⟨p, l, e, R, s, m, args, below, meth, c, nL, Q⟩ := Z
  exact fun H locs ls hP hS hl => lv_lookup X.1 X.2.1 d hp ho ht (kk H locs ls hP hS hl)
/-- a field link, plain or of a nest mate -/
def gFL (own : String) (idx : Nat) (C nm ds : String) : Prop := gW (.fieldLink own idx C nm ds) ∨ ∃ h, gW (.fieldLinkNest own idx C nm ds h)
theorem g_get (X : gX Z B cc own) {ci N : Nat} {C : String} {T : u_T} {K b i idx : Nat} {fs : List Value} {v : Value} (hc : vwCl[ci]? = some (C, T, N)) (hu : ∀ w ∈ u_ws C T N, gW w) (k : Nat) (hk : k < N) (hT : (T k).1 = C) (hp : gP K b i) (he : gE B K b i (V K b i) = .inr (ci, fs)) (hv : fs[k]? = some v) (hq : gFL own idx C (T k).2.1 (T k).2.2.1) (d : decode cc pc = .ok (.getfield idx, 3)) (kk : gG Z B n V (pc + 3) L (v :: st)) : gG Z B n V pc L (.ref (B.2.1 K b i) :: st) := by
  obtain ⟨p, l, e, R, s, m, args, below, meth, c, nL, Q⟩ := Z
  intro H locs ls hP hS hl
  obtain ⟨q0, -, hq0⟩ := gws_at B V hp
  rw [he] at hq0
  have hts : ∀ w ∈ u_ws C T N, w.before args s = true := fun w hw => X.2.2.2.2.1.1 w (hu w hw) args
  rcases hq with hq | ⟨h, hq⟩
  · exact va_get X.1 X.2.1 hts (fun w hw => hw) X.2.2.2.1 X.2.2.2.2.1.2 hP q0 hq0 hc k hk (X.2.2.2.2.1.1 _ hq args) (fun x hx => by rw [hT] at hx; exact hx) hv d (kk H locs ls hP hS hl)
  · exact va_getN X.1 X.2.1 hts (fun w hw => hw) X.2.2.2.1 X.2.2.2.2.1.2 hP q0 hq0 hc k hk (X.2.2.2.2.1.1 _ hq args) (fun x hx => by rw [hT] at hx; exact hx) hv d (kk H locs ls hP hS hl)
theorem g_put (X : gX Z B cc own) {ci N : Nat} {C : String} {T : u_T} {K b i idx : Nat} {fs : List Value} {x : Int32} {ty : FieldType} (hc : vwCl[ci]? = some (C, T, N)) (hu : ∀ w ∈ u_ws C T N, gW w) (ty0 : Nat → FieldType) (hty : ∀ k, k < N → parseFieldDescriptor (T k).2.2.1 = some (ty0 k)) (hnm : ∀ a, a < N → ∀ b, b < N → a ≠ b → (T a).2.1 ≠ (T b).2.1) (k : Nat) (hk : k < N) (hT : (T k).1 = C) (hfin : (T k).2.2.2 = false) (hd : parseFieldDescriptor (T k).2.2.1 = some ty) (hn : narrow ty (.int x) = .int x) (hfit : fits ty (.int x) = true) (hp : gP K b i) (he : gE B K b i (V K b i) = .inr (ci, fs)) (hl : k < fs.length) (hs : Sum.inr (ci, fs.set k (.int x)) = gE B K b i (upd (V K b i) k x)) (hq : gFL own idx C (T k).2.1 (T k).2.2.1) (d : decode cc pc = .ok (.putfield idx, 3)) (kk : gG Z B n (gup V K b i k x) (pc + 3) L st) : gG Z B n V pc L (.int x :: .ref (B.2.1 K b i) :: st) := by
  obtain ⟨p, l, e, R, s, m, args, below, meth, c, nL, Q⟩ := Z
  intro H locs ls hP hS hl9
  obtain ⟨q0, hk0, hq0⟩ := gws_at B V hp
  rw [he] at hq0
  have hts : ∀ w ∈ u_ws C T N, w.before args s = true := fun w hw => X.2.2.2.2.1.1 w (hu w hw) args
  have go : ∀ (H1 : Heap) (locs1 : List Loc), va_P B.1 vwCl ((gws B V).set q0 (B.2.1 K b i, .inr (ci, fs.set k (.int x)))) H1 → va_D (gA B s.heap.size) ((gws B V).set q0 (B.2.1 K b i, .inr (ci, fs.set k (.int x)))) → va_S (gA B s.heap.size) s.heap H1 locs1 → W p l e R s m args below meth c H1 locs1 n.1 n.2 Q (F0 m (pc + 3) ls st) := by
    intro H1 locs1 hP1 _ hS1
    rw [gws_set k x hk0 hs] at hP1
    exact kk H1 locs1 ls hP1 hS1 hl9
  rcases hq with hq | ⟨h, hq⟩
  · exact va_put X.1 X.2.1 hts (fun w hw => hw) ty0 hty hnm X.2.2.2.1 X.2.2.2.2.1.2 hP (gws_D V _ X.2.2.2.2.2.1) hS q0 hq0 hc k hk (X.2.2.2.2.1.1 _ hq args) (fun x hx => by rw [hT] at hx; exact hx) hfin hd hn hfit hl d go
  · exact va_putN X.1 X.2.1 hts (fun w hw => hw) ty0 hty hnm X.2.2.2.1 X.2.2.2.2.1.2 hP (gws_D V _ X.2.2.2.2.2.1) hS q0 hq0 hc k hk (X.2.2.2.2.1.1 _ hq args) (fun x hx => by rw [hT] at hx; exact hx) hfin hd hn hfit hl d go
theorem g_ialdX (X : gX Z B cc own) {K b i N : Nat} {x : Int32} (hp : (K, b, i) ∈ gPX B) (he : gE B K b i (V K b i) = .inl (B.2.2.1.1, N, .inl (V K b i))) (hin : vp_in x N) (d : decode cc pc = .ok (.iaload, 1)) (kk : gG Z B n V (pc + 1) L (.int (V K b i x.toNatClampNeg) :: st)) : gG Z B n V pc L (.int x :: .ref (B.2.1 K b i) :: st) := by
  obtain ⟨p, l, e, R, s, m, args, below, meth, c, nL, Q⟩ := Z
  intro H locs ls hP hS hl
  obtain ⟨q0, -, hq0⟩ := gws_atX B V hp
  rw [he] at hq0
  exact va_iald X.1 X.2.1 X.2.2.2.2.1.2 hP q0 0 hq0 rfl hin d (kk H locs ls hP hS hl)
theorem g_iastX (X : gX Z B cc own) {K b i N : Nat} {x v : Int32} (hp : (K, b, i) ∈ gPX B) (he : ∀ f, gE B K b i f = .inl (B.2.2.1.1, N, .inl f)) (hin : vp_in x N) (d : decode cc pc = .ok (.iastore, 1)) (kk : gG Z B n (gup V K b i x.toNatClampNeg v) (pc + 1) L st) : gG Z B n V pc L (.int v :: .int x :: .ref (B.2.1 K b i) :: st) := by
  obtain ⟨p, l, e, R, s, m, args, below, meth, c, nL, Q⟩ := Z
  intro H locs ls hP hS hl
  obtain ⟨q0, hk0, hq0⟩ := gws_atX B V hp
  rw [he] at hq0
  refine va_iast X.1 X.2.1 X.2.2.2.2.1.2 hP (gws_D V _ X.2.2.2.2.2.1) hS q0 0 hq0 rfl hin d (fun H1 locs1 hP1 _ hS1 => ?_)
  rw [gws_set x.toNatClampNeg v hk0 (he _).symm] at hP1
  exact kk H1 locs1 ls hP1 hS1 hl
theorem g_ialdNX (X : gX Z B cc own) {K b i N : Nat} {x : Int32} (j : Nat) (hx : x = nI j) (hj : j < N) (hN : N < 2 ^ 31) (hp : (K, b, i) ∈ gPX B) (he : gE B K b i (V K b i) = .inl (B.2.2.1.1, N, .inl (V K b i))) (d : decode cc pc = .ok (.iaload, 1)) (kk : gG Z B n V (pc + 1) L (.int (V K b i j) :: st)) : gG Z B n V pc L (.int x :: .ref (B.2.1 K b i) :: st) := by
  subst hx
  refine g_ialdX X hp he (vp_in_nI hj hN) d ?_
  rw [nI_clamp (by omega)]
  exact kk
theorem g_iastNX (X : gX Z B cc own) {K b i N : Nat} {x v : Int32} (j : Nat) (hx : x = nI j) (hj : j < N) (hN : N < 2 ^ 31) (hp : (K, b, i) ∈ gPX B) (he : ∀ f, gE B K b i f = .inl (B.2.2.1.1, N, .inl f)) (d : decode cc pc = .ok (.iastore, 1)) (kk : gG Z B n (gup V K b i j v) (pc + 1) L st) : gG Z B n V pc L (.int v :: .int x :: .ref (B.2.1 K b i) :: st) := by
  subst hx
  refine g_iastX X hp he (vp_in_nI hj hN) d ?_
  rw [nI_clamp (by omega)]
  exact kk
theorem g_ialdN (X : gX Z B cc own) {K b i N : Nat} {x : Int32} (j : Nat) (hx : x = nI j) (hj : j < N) (hN : N < 2 ^ 31) (hp : gP K b i) (he : gE B K b i (V K b i) = .inl (B.2.2.1.1, N, .inl (V K b i))) (d : decode cc pc = .ok (.iaload, 1)) (kk : gG Z B n V (pc + 1) L (.int (V K b i j) :: st)) : gG Z B n V pc L (.int x :: .ref (B.2.1 K b i) :: st) := g_ialdNX X j hx hj hN (gPX_in hp) he d kk
theorem g_iastN (X : gX Z B cc own) {K b i N : Nat} {x v : Int32} (j : Nat) (hx : x = nI j) (hj : j < N) (hN : N < 2 ^ 31) (hp : gP K b i) (he : ∀ f, gE B K b i f = .inl (B.2.2.1.1, N, .inl f)) (d : decode cc pc = .ok (.iastore, 1)) (kk : gG Z B n (gup V K b i j v) (pc + 1) L st) : gG Z B n V pc L (.int v :: .int x :: .ref (B.2.1 K b i) :: st) := g_iastNX X j hx hj hN (gPX_in hp) he d kk
theorem g_alen (X : gX Z B cc own) {K b i N : Nat} {v : Int32} (hp : gP K b i) (he : gE B K b i (V K b i) = .inl (B.2.2.1.1, N, .inl (V K b i))) (hv : Int32.ofNat N = v) (d : decode cc pc = .ok (.arraylength, 1)) (kk : gG Z B n V (pc + 1) L (.int v :: st)) : gG Z B n V pc L (.ref (B.2.1 K b i) :: st) := by
  obtain ⟨p, l, e, R, s, m, args, below, meth, c, nL, Q⟩ := Z
  intro H locs ls hP hS hl
  obtain ⟨q0, -, hq0⟩ := gws_at B V hp
  rw [he] at hq0
  exact va_alen X.1 X.2.1 X.2.2.2.2.1.2 hP q0 0 hq0 rfl hv d (kk H locs ls hP hS hl)
/-- the carts' own array -/
theorem g_alenC (X : gX Z B cc own) {b : Nat} (hb : b < 3) (d : decode cc pc = .ok (.arraylength, 1)) (kk : gG Z B n V (pc + 1) L (.int 16 :: st)) : gG Z B n V pc L (.ref (B.2.1 11 b 0) :: st) := by
  obtain ⟨p, l, e, R, s, m, args, below, meth, c, nL, Q⟩ := Z
  intro H locs ls hP hS hl
  obtain ⟨q0, -, hq0⟩ := gws_at B V (K := 11) (b := b) (i := 0) ⟨hb, Nat.zero_lt_one⟩
  exact va_alen X.1 X.2.1 X.2.2.2.2.1.2 hP q0 1 hq0 rfl (v := 16) rfl d (kk H locs ls hP hS hl)
theorem g_aaldC (X : gX Z B cc own) {b : Nat} {x : Int32} (j : Nat) (hx : x = nI j) (hj : j < 16) (hb : b < 3) (d : decode cc pc = .ok (.aaload, 1)) (kk : gG Z B n V (pc + 1) L (.ref (B.2.1 15 b j) :: st)) : gG Z B n V pc L (.int x :: .ref (B.2.1 11 b 0) :: st) := by
  obtain ⟨p, l, e, R, s, m, args, below, meth, c, nL, Q⟩ := Z
  intro H locs ls hP hS hl
  subst hx
  obtain ⟨q0, -, hq0⟩ := gws_at B V (K := 11) (b := b) (i := 0) ⟨hb, Nat.zero_lt_one⟩
  refine va_aldq X.1 X.2.1 X.2.2.2.2.1.2 hP q0 1 hq0 rfl (vp_in_nI hj (by decide)) d ?_
  rw [nI_clamp (by omega)]
  exact kk H locs ls hP hS hl
/-! ends -/
theorem g_iret {rm : Room} {post : Option Value → gMem → Prop} (X : gX Z B cc own) (F : gF Z B rm (some .int) post) {v : Int32} (hp : post (some (.int v)) V) (hn : n = (rm.cells, rm.slots)) (d : decode cc pc = .ok (.ireturn, 1)) : gG Z B n V pc L [.int v] := by
  obtain ⟨p, l, e, R, s, m, args, below, meth, c, nL, Q⟩ := Z
  obtain ⟨h1, h2, h3⟩ := F
  subst h3; subst hn
  intro H locs ls hP hS hl
  exact W.iret X.1 X.2.1 h2 (fun t ht hW => ⟨⟨_, V, rfl, hp, by rw [ht]; exact hP⟩, hS.F ht⟩) hS.2.2 d X.2.2.2.2.2.2
theorem g_zret {rm : Room} {post : Option Value → gMem → Prop} (X : gX Z B cc own) (F : gF Z B rm (some .boolean) post) {v : Int32} (hb : narrow .boolean (.int v) = .int v) (hp : post (some (.int v)) V) (hn : n = (rm.cells, rm.slots)) (d : decode cc pc = .ok (.ireturn, 1)) : gG Z B n V pc L [.int v] := by
  obtain ⟨p, l, e, R, s, m, args, below, meth, c, nL, Q⟩ := Z
  obtain ⟨h1, h2, h3⟩ := F
  subst h3; subst hn
  intro H locs ls hP hS hl
  exact W.zret X.1 X.2.1 h2 hb (fun t ht hW => ⟨⟨_, V, rfl, hp, by rw [ht]; exact hP⟩, hS.F ht⟩) hS.2.2 d X.2.2.2.2.2.2
theorem g_lret {rm : Room} {post : Option Value → gMem → Prop} (X : gX Z B cc own) (F : gF Z B rm (some .long) post) {v : Int64} (hp : post (some (.long v)) V) (hn : n = (rm.cells, rm.slots)) (d : decode cc pc = .ok (.lreturn, 1)) : gG Z B n V pc L [.long v] := by
  obtain ⟨p, l, e, R, s, m, args, below, meth, c, nL, Q⟩ := Z
  obtain ⟨h1, h2, h3⟩ := F
  subst h3; subst hn
  intro H locs ls hP hS hl
  exact W.lret X.1 X.2.1 h2 (fun t ht hW => ⟨⟨_, V, rfl, hp, by rw [ht]; exact hP⟩, hS.F ht⟩) hS.2.2 d X.2.2.2.2.2.2
theorem g_vret {rm : Room} {post : Option Value → gMem → Prop} (X : gX Z B cc own) (F : gF Z B rm none post) (hp : post none V) (hn : n = (rm.cells, rm.slots)) (d : decode cc pc = .ok (.return_, 1)) : gG Z B n V pc L [] := by
  obtain ⟨p, l, e, R, s, m, args, below, meth, c, nL, Q⟩ := Z
  obtain ⟨h1, h2, h3⟩ := F
  subst h3; subst hn
  intro H locs ls hP hS hl
  exact W.vret X.1 X.2.1 h2 (fun t ht hW => ⟨⟨_, V, rfl, hp, by rw [ht]; exact hP⟩, hS.F ht⟩) hS.2.2 d X.2.2.2.2.2.2
theorem g_aret {rm : Room} {post : Option Value → gMem → Prop} {t0 : String} (X : gX Z B cc own) (F : gF Z B rm (some (.object t0)) post) {v : Value} (hv : v = .null ∨ ∃ a, v = .ref a) (hp : post (some v) V) (hn : n = (rm.cells, rm.slots)) (d : decode cc pc = .ok (.areturn, 1)) : gG Z B n V pc L [v] := by
  obtain ⟨p, l, e, R, s, m, args, below, meth, c, nL, Q⟩ := Z
  obtain ⟨h1, h2, h3⟩ := F
  subst h3; subst hn
  intro H locs ls hP hS hl
  exact W.aret X.1 X.2.1 h2 (Or.inl ⟨_, rfl⟩) hv (fun t ht hW => ⟨⟨_, V, rfl, hp, by rw [ht]; exact hP⟩, hS.F ht⟩) hS.2.2 d X.2.2.2.2.2.2
/-! calls -/
/-- what a callee's tables say: an instance method, selected in its own class -/
def gCV (y : MethodName) (bc : ByteArray) (mL : Nat) (ret : Option FieldType) (k : Nat) : Prop := gW (.instanceMethod y) ∧ gW (.selects y.cls y y) ∧ gW (.code y bc mL ret) ∧ gW (.initialized y.cls) ∧ (y.cls ≠ "java/lang/invoke/MethodHandle" ∧ y.cls ≠ "java/lang/invoke/VarHandle") ∧ (parseMethodDescriptor y.desc).map (fun d => d.parameters.length) = some k
def gCS (y : MethodName) (bc : ByteArray) (mL : Nat) (ret : Option FieldType) (k : Nat) : Prop := gW (.static y) ∧ gW (.code y bc mL ret) ∧ gW (.initialized y.cls) ∧ (y.cls ≠ "java/lang/invoke/MethodHandle" ∧ y.cls ≠ "java/lang/invoke/VarHandle") ∧ (parseMethodDescriptor y.desc).map (fun d => d.parameters.length) = some k
def gML (own : String) (idx : Nat) (y : MethodName) : Prop := gW (.methodLink own idx y) ∨ ∃ h, gW (.methodLinkNest own idx y h)
theorem gPc_blind {B : gB} {V : gMem} {av : List Value} {sz : Nat} : FrameBlind (va_Pc av (fun U => U.heap.size = sz ∧ va_P B.1 vwCl (gws B V) U.heap ∧ gS B U)) := by
  intro a U g mk q
  obtain ⟨q0, q1, q2, q3⟩ := q
  exact ⟨q0, q1, q2, gS.same (s := U) (U := U.calling g mk a) rfl q3⟩
theorem gar {y : MethodName} {k : Nat} (h : (parseMethodDescriptor y.desc).map (fun d => d.parameters.length) = some k) : ∀ sig, parseMethodDescriptor y.desc = some sig → k = sig.parameters.length := by
  intro sig h2
  rw [h2] at h
  exact (Option.some.inj h).symm
theorem g_after {p : Program} {l : Launch} {e : Env} {R : Room} {s : State} {m : MethodId} {args : Array Value} {below : List Frame} {meth : Method} {c : Code} {nL : Nat} {Q : State → Prop} {rm : Room} {post : Option Value → gMem → Prop} {rest st0 : List Value} {a : Array Value} {H : Heap} {locs : List Loc} {ls : Array Slot} (hr : va_Run p l e R s m args below meth c H locs n.1 n.2 rm.cells rm.slots (F0 m pc ls st0) rest (gQ B post H.size a) (gA B H.size)) (hS : va_S (gA B s.heap.size) s.heap H locs) (hl : lv_has ls nL L)
    (kk : ∀ (v : Option Value) (V' : gMem), post v V' → gG (p, l, e, R, s, m, args, below, meth, c, nL, Q) B (n.1 + rm.cells, n.2 + rm.slots) V' (pc + 3) L (v.toList ++ rest)) : W p l e R s m args below meth c H locs n.1 n.2 Q (F0 m pc ls st0) := by
  have hA : ∀ q, gA B H.size q → gA B s.heap.size q := fun q h => h.elim (fun h => Or.inl h) (fun h => Or.inr (Nat.le_trans hS.1 h))
  intro T hT X
  obtain ⟨v, st₀, t, T', L0, h0, X', hL, e1, e2, ⟨⟨v2, V', hv, hp, hP'⟩, hz, hk⟩, st⟩ := hr T hT X
  cases hv
  rw [h0] at hz hk
  have hS' : va_S (gA B s.heap.size) s.heap T'.heap (locs ++ L0) := ⟨Nat.le_trans hS.1 (by rw [e1]; exact hz), fun q h1 h2 => by rw [e1, hk q (Nat.lt_of_lt_of_le h1 hS.1) (fun z => h2 (hA q z))]; exact hS.2.1 q h1 h2, fun q hq => by
      rcases List.mem_append.mp hq with h | h
      · exact hS.2.2 q h
      · exact hA _ (hL q h)⟩
  obtain ⟨t2, a1, b1⟩ := kk v V' hp T'.heap (locs ++ L0) ls (by rw [e1]; exact hP') hS' hl T' rfl X'
  exact ⟨t2, st t2 a1, b1⟩
theorem g_callV (X : gX Z B cc own) {rmZ rm : Room} (hR : gRm Z = rmZ) {y : MethodName} {bc : ByteArray} {mL idx : Nat} {ret : Option FieldType} {K b i ci : Nat} {fs : List Value} {q : vw_C} {As rest st0 : List Value} {post : Option Value → gMem → Prop} {k : Nat} (hC : gCV y bc mL ret k) (hL : gML own idx y) (hM : gM (gl Z) B y bc mL ret rm (.ref (B.2.1 K b i) :: As) V post) (hk : As.length = k) (hst : st0 = As.reverse ++ .ref (B.2.1 K b i) :: rest) (hcat : (rest.map fun v => v.category).sum ≤ 8) (hp : gP K b i) (he : gE B K b i (V K b i) = .inr (ci, fs)) (hc : vwCl[ci]? = some q) (hq : q.1 = y.cls)
    (hroom : rm.frames + 1 ≤ rmZ.frames ∧ 8 + (mL + 11) + rm.locals ≤ rmZ.locals ∧ n.1 + rm.cells ≤ rmZ.cells ∧ n.2 + rm.slots ≤ rmZ.slots) (d : decode cc pc = .ok (.invokevirtual idx, 3))
    (kk : ∀ (v : Option Value) (V' : gMem), post v V' → gG Z B (n.1 + rm.cells, n.2 + rm.slots) V' (pc + 3) L (v.toList ++ rest)) : gG Z B n V pc L st0 := by
  obtain ⟨p, l, e, R, s, m, args, below, meth, c, nL, Q⟩ := Z
  subst hR; subst hst
  intro H locs ls hP hS hl
  obtain ⟨hx, hb, hml, hown, hs, hI, hlk⟩ := X
  obtain ⟨c1, c2, c3, c4, c5, c6⟩ := hC
  obtain ⟨q0, -, hq0⟩ := gws_at B V hp
  rw [he] at hq0
  have hws : ∀ w ∈ ([.code y bc mL ret] : List Cond), ∀ (a' : Array Value) (U : State), s.WarmedH U.vm → w.before a' U = true := by
    intro w hw a' U hW
    rw [List.mem_singleton.mp hw]
    exact hs.1.warm hW _ c3 a'
  have hrecv := va_recv hs.2 hP hc hq0
  rw [hq] at hrecv
  have hpre : PreV s H y.cls (B.2.1 K b i) (va_Pc (.ref (B.2.1 K b i) :: As) (fun U => U.heap.size = H.size ∧ va_P B.1 vwCl (gws B V) U.heap ∧ gS B U)) As := ⟨gPc_blind, hrecv, fun U hU hW => ⟨rfl, by rw [hU], by rw [hU]; exact hP, hs.warm hW⟩⟩
  have run : va_Run p l e R s m args below meth c H locs n.1 n.2 rm.cells rm.slots (F0 m pc ls (As.reverse ++ .ref (B.2.1 K b i) :: rest)) rest (gQ B post H.size (Value.ref (B.2.1 K b i) :: As).toArray) (gA B H.size) := by
    rcases hL with hL | ⟨h, hL⟩
    · exact va_runV (C := y.cls) (own := own) (Ts := []) (nL := nL) ⟨hx, hb, hml, hown, fun w hw => absurd hw List.not_mem_nil⟩ (hM H.size) ⟨⟨rfl, rfl, hroom.1, hroom.2.1, hws, List.mem_singleton.mpr rfl, hs.1 _ c3 _, hs.1 _ c4 _, c5, gar c6, hs.1 _ hL _⟩, hs.1 _ c1 _, hs.1 _ c2 _⟩ hpre rfl hk hl.1 rfl (lv_room hcat) d hroom.2.2
    · exact va_runVN (C := y.cls) (own := own) (Ts := []) (nL := nL) ⟨hx, hb, hml, hown, fun w hw => absurd hw List.not_mem_nil⟩ (hM H.size) ⟨⟨⟨rfl, rfl, hroom.1, hroom.2.1, hws, List.mem_singleton.mpr rfl⟩, hs.1 _ c3 _, hs.1 _ c4 _, c5, gar c6, hs.1 _ hL _⟩, hs.1 _ c1 _, hs.1 _ c2 _⟩ hpre rfl hk hl.1 rfl (lv_room hcat) d hroom.2.2
  exact g_after run hS hl kk
theorem g_callS (X : gX Z B cc own) {rmZ rm : Room} (hR : gRm Z = rmZ) {y : MethodName} {bc : ByteArray} {mL idx : Nat} {ret : Option FieldType} {As rest st0 : List Value} {post : Option Value → gMem → Prop} {k : Nat} (hC : gCS y bc mL ret k) (hL : gML own idx y) (hM : gM (gl Z) B y bc mL ret rm As V post) (hk : As.length = k) (hst : st0 = As.reverse ++ rest) (hcat : (rest.map fun v => v.category).sum ≤ 8)
    (hroom : rm.frames + 1 ≤ rmZ.frames ∧ 8 + (mL + 11) + rm.locals ≤ rmZ.locals ∧ n.1 + rm.cells ≤ rmZ.cells ∧ n.2 + rm.slots ≤ rmZ.slots) (d : decode cc pc = .ok (.invokestatic idx, 3))
    (kk : ∀ (v : Option Value) (V' : gMem), post v V' → gG Z B (n.1 + rm.cells, n.2 + rm.slots) V' (pc + 3) L (v.toList ++ rest)) : gG Z B n V pc L st0 := by
  obtain ⟨p, l, e, R, s, m, args, below, meth, c, nL, Q⟩ := Z
  subst hR; subst hst
  intro H locs ls hP hS hl
  obtain ⟨hx, hb, hml, hown, hs, hI, hlk⟩ := X
  obtain ⟨c1, c3, c4, c5, c6⟩ := hC
  have hws : ∀ w ∈ ([.code y bc mL ret] : List Cond), ∀ (a' : Array Value) (U : State), s.WarmedH U.vm → w.before a' U = true := by
    intro w hw a' U hW
    rw [List.mem_singleton.mp hw]
    exact hs.1.warm hW _ c3 a'
  have hpre : PreS s H (va_Pc As (fun U => U.heap.size = H.size ∧ va_P B.1 vwCl (gws B V) U.heap ∧ gS B U)) As := ⟨gPc_blind, fun U hU hW => ⟨rfl, by rw [hU], by rw [hU]; exact hP, hs.warm hW⟩⟩
  have run : va_Run p l e R s m args below meth c H locs n.1 n.2 rm.cells rm.slots (F0 m pc ls (As.reverse ++ rest)) rest (gQ B post H.size As.toArray) (gA B H.size) := by
    rcases hL with hL | ⟨h, hL⟩
    · exact va_runS (own := own) (Ts := []) (nL := nL) ⟨hx, hb, hml, hown, fun w hw => absurd hw List.not_mem_nil⟩ (hM H.size) ⟨⟨rfl, rfl, hroom.1, hroom.2.1, hws, List.mem_singleton.mpr rfl, hs.1 _ c3 _, hs.1 _ c4 _, c5, gar c6, hs.1 _ hL _⟩, hs.1 _ c1 _⟩ hpre rfl hk hl.1 rfl (lv_room hcat) d hroom.2.2
    · exact va_runSN (own := own) (Ts := []) (nL := nL) ⟨hx, hb, hml, hown, fun w hw => absurd hw List.not_mem_nil⟩ (hM H.size) ⟨⟨⟨rfl, rfl, hroom.1, hroom.2.1, hws, List.mem_singleton.mpr rfl⟩, hs.1 _ c3 _, hs.1 _ c4 _, c5, gar c6, hs.1 _ hL _⟩, hs.1 _ c1 _, trivial⟩ hpre rfl hk hl.1 rfl (lv_room hcat) d hroom.2.2
  exact g_after run hS hl kk
theorem g_min (X : gX Z B cc own) {rmZ : Room} (hR : gRm Z = rmZ) {idx : Nat} {x y : Int32} (hl : gW (.methodLink own idx Lib.Math.min.name)) (hroom : 1 ≤ rmZ.frames ∧ 21 ≤ rmZ.locals ∧ n.1 ≤ rmZ.cells ∧ n.2 ≤ rmZ.slots) (hcat : (st.map fun v => v.category).sum ≤ 8) (d : decode cc pc = .ok (.invokestatic idx, 3)) (kk : gG Z B n V (pc + 3) L (.int (if y < x then y else x) :: st)) : gG Z B n V pc L (.int y :: .int x :: st) := by
  obtain ⟨p, l, e, R, s, m, args, below, meth, c, nL, Q⟩ := Z
  subst hR
  intro H locs ls hP hS hl9
  have hml : c.maxLocals = ls.size := X.2.2.1.trans hl9.1.symm
  exact va_mmin X.1 X.2.1 hml X.2.2.2.1 (X.2.2.2.2.1.1 _ hl _) (X.2.2.2.2.1.1 _ qTm_min _) (X.2.2.2.2.1.1 _ qNm_math _) (X.2.2.2.2.1.1 _ qCm_min _) hroom.1 (by have := hroom.2.1; show _ + 13 ≤ R.locals; have h9 : 21 ≤ R.locals := this; omega) hroom.2.2.1 hroom.2.2.2 d (kk H locs ls hP hS hl9)
theorem g_max (X : gX Z B cc own) {rmZ : Room} (hR : gRm Z = rmZ) {idx : Nat} {x y : Int32} (hl : gW (.methodLink own idx Lib.Math.max.name)) (hroom : 1 ≤ rmZ.frames ∧ 21 ≤ rmZ.locals ∧ n.1 ≤ rmZ.cells ∧ n.2 ≤ rmZ.slots) (hcat : (st.map fun v => v.category).sum ≤ 8) (d : decode cc pc = .ok (.invokestatic idx, 3)) (kk : gG Z B n V (pc + 3) L (.int (if x < y then y else x) :: st)) : gG Z B n V pc L (.int y :: .int x :: st) := by
  obtain ⟨p, l, e, R, s, m, args, below, meth, c, nL, Q⟩ := Z
  subst hR
  intro H locs ls hP hS hl9
  have hml : c.maxLocals = ls.size := X.2.2.1.trans hl9.1.symm
  exact va_mmax X.1 X.2.1 hml X.2.2.2.1 (X.2.2.2.2.1.1 _ hl _) (X.2.2.2.2.1.1 _ qTm_max _) (X.2.2.2.2.1.1 _ qNm_math _) (X.2.2.2.2.1.1 _ qCm_max _) hroom.1 (by have := hroom.2.1; show _ + 13 ≤ R.locals; have h9 : 21 ≤ R.locals := this; omega) hroom.2.2.1 hroom.2.2.2 d (kk H locs ls hP hS hl9)
/-! an array that the law makes for itself: place (29, k, 0), k as many as stand -/
def gBs (B : gB) (a : Nat) : gB := (B.1, fun K b i => if K = 29 ∧ b = B.2.2.2.2 then a else B.2.1 K b i, B.2.2.1, (B.2.2.2.1, B.2.2.2.2 + 1))
def gzf (V : gMem) (k : Nat) (f : Nat → Int32) : gMem := fun K b i => if K = 29 ∧ b = k ∧ i = 0 then f else V K b i
theorem gzf_at (V : gMem) (k : Nat) (f : Nat → Int32) : gzf V k f 29 k 0 = f := if_pos ⟨rfl, rfl, rfl⟩
theorem gzf_ne (V : gMem) {K b k i : Nat} (f : Nat → Int32) (h : ¬ (K = 29 ∧ b = k)) : gzf V k f K b i = V K b i := if_neg (fun q => h ⟨q.1, q.2.1⟩)
def gsz (Z : gZ) : Nat := Z.2.2.2.2.1.heap.size
theorem gE_s (B : gB) (a : Nat) (f : Nat → Int32) : ∀ {K b i : Nat}, gE (gBs B a) K b i f = gE B K b i f := fun {K b i} => match K with
  | 0 => rfl
  | 1 => rfl
  | 2 => rfl
  | 3 => rfl
  | 4 => rfl
  | 5 => rfl
  | 6 => rfl
  | 7 => rfl
  | 8 => rfl
  | 9 => rfl
  | 10 => rfl
  | 11 => rfl
  | 12 => rfl
  | 13 => rfl
  | 14 => rfl
  | 15 => rfl
  | K + 16 => rfl
theorem gPX_s {B : gB} {a : Nat} : gPX (gBs B a) = gPX B ++ [(29, B.2.2.2.2, 0)] := by
  unfold gPX
  show gPL ++ (List.range (B.2.2.2.2 + 1)).map _ = _
  rw [List.range_succ, List.map_append, ← List.append_assoc]
  rfl
theorem gBs_new (B : gB) (a i : Nat) : (gBs B a).2.1 29 B.2.2.2.2 i = a := if_pos ⟨rfl, rfl⟩
theorem gBs_off (B : gB) (a : Nat) {K b i : Nat} (h : ¬ (K = 29 ∧ b = B.2.2.2.2)) : (gBs B a).2.1 K b i = B.2.1 K b i := if_neg h
theorem gPX_lt {B : gB} {q : Nat × Nat × Nat} (h : q ∈ gPX B) : ¬ (q.1 = 29 ∧ q.2.1 = B.2.2.2.2) := by
  rintro ⟨h1, h2⟩
  rcases List.mem_append.mp h with h | h
  · exact absurd (gP_K (gPL_of h)) (by rw [h1]; decide)
  · obtain ⟨k, hk, rfl⟩ := List.mem_map.mp h
    exact absurd (List.mem_range.mp hk) (by simp only at h2; omega)
theorem gBs_ad {B : gB} {a : Nat} {q : Nat × Nat × Nat} (h : q ∈ gPX B) : (gBs B a).2.1 q.1 q.2.1 q.2.2 = B.2.1 q.1 q.2.1 q.2.2 := gBs_off B a (gPX_lt h)
theorem gws_s {B : gB} {a : Nat} {V V' : gMem} (hV : ∀ K b i, ¬ (K = 29 ∧ b = B.2.2.2.2) → V' K b i = V K b i) : gws (gBs B a) V' = gws B V ++ [(a, .inl (B.2.2.1.1, gLn B.2.2.2.2, .inl (V' 29 B.2.2.2.2 0)))] := by
  unfold gws
  rw [gPX_s, List.map_append]
  congr 1
  · refine List.map_congr_left (fun q hq => ?_)
    unfold gAt
    rw [gBs_ad hq, hV _ _ _ (gPX_lt hq), gE_s]
  · unfold gAt
    show [((gBs B a).2.1 29 B.2.2.2.2 0, gE (gBs B a) 29 B.2.2.2.2 0 (V' 29 B.2.2.2.2 0))] = _
    rw [gBs_new]
    rfl
theorem gA_s {B : gB} {a sz q : Nat} (h : gA B sz q) : gA (gBs B a) sz q := by
  rcases h with ⟨x, hx, e⟩ | h
  · exact Or.inl ⟨x, by rw [gPX_s]; exact List.mem_append_left _ hx, by rw [gBs_ad hx]; exact e⟩
  · exact Or.inr h
theorem gA_s' {B : gB} {a sz q : Nat} (ha : sz ≤ a) (h : gA (gBs B a) sz q) : gA B sz q := by
  rcases h with ⟨x, hx, e⟩ | h
  · rw [gPX_s] at hx
    rcases List.mem_append.mp hx with hx | hx
    · exact Or.inl ⟨x, hx, by rw [← gBs_ad hx]; exact e⟩
    · rw [List.mem_singleton.mp hx] at e
      exact Or.inr (by rw [e]; show sz ≤ (gBs B a).2.1 29 B.2.2.2.2 0; rw [gBs_new]; exact ha)
  · exact Or.inr h
theorem gI_of {B : gB} {V : gMem} {A : Nat → Prop} (h : va_D A (gws B V)) : gI B := by
  intro p hp q hq e
  obtain ⟨i, -, hi⟩ := gws_atX B V hp
  obtain ⟨j, -, hj⟩ := gws_atX B V hq
  have hij := h.1 i j _ _ hi hj e
  subst hij
  obtain ⟨k1, hk1, hk1'⟩ := gws_atX B V hp
  obtain ⟨k2, hk2, hk2'⟩ := gws_atX B V hq
  have e1 := h.1 k1 k2 _ _ hk1' hk2' e
  subst e1
  exact Option.some.inj (hk1.symm.trans hk2)
theorem gnew_ad {B : gB} {V : gMem} {sz q : Nat} {e : va_E} (hD1 : va_D (gA B sz) (gws B V ++ [(q, e)])) : sz ≤ q := by
  rcases hD1.2 (gws B V).length _ (by rw [List.getElem?_append_right (Nat.le_refl _), Nat.sub_self]; rfl) with ⟨y, hy, e⟩ | h
  · obtain ⟨k, hk, hk'⟩ := gws_atX B V hy
    have hkl := (List.getElem?_eq_some_iff.mp hk').1
    have := hD1.1 k (gws B V).length _ _ (by rw [List.getElem?_append_left hkl]; exact hk') (by rw [List.getElem?_append_right (Nat.le_refl _), Nat.sub_self]; rfl) e.symm
    omega
  · exact h
theorem g_newS (X : gX Z B cc own) {rmZ : Room} (hR : gRm Z = rmZ) {x : Int32} (N : Nat) (hx : x = nI N) (hN : gLn B.2.2.2.2 = N) (hNb : N < 1000) (hroom : n.1 + 1 ≤ rmZ.cells ∧ n.2 + N ≤ rmZ.slots) (d : decode cc pc = .ok (.newarray .int, 2)) (kk : ∀ a, gsz Z ≤ a → gX Z (gBs B a) cc own → gG Z (gBs B a) (n.1 + 1, n.2 + N) (gzf V B.2.2.2.2 (fun _ => 0)) (pc + 2) L (.ref a :: st)) : gG Z B n V pc L (.int x :: st) := by
  obtain ⟨p, l, e, R, s, m, args, below, meth, c, nL, Q⟩ := Z
  subst hR; subst hx
  intro H locs ls hP hS hl
  obtain ⟨hx, hb, hml, hown, hs, hI, hlk⟩ := X
  refine va_newa (atype := .int) (ty := .int) hx hb (hs.1 _ qA_int _) rfl hs.2 hP (gws_D V _ hI) hS (fun q h => Or.inr h) (n := nI N) (N' := N) (a0 := (N, .inl (fun _ => 0))) (fun cA => rfl) (nI_pos (by omega)) (nI_clamp (by omega)) (by show N * 4 ≤ 536870912; omega) hroom.1 hroom.2 d (fun q cA H1 hK1 hP1 hD1 hS1 => ?_)
  have hcA : cA = B.2.2.1.1 := by
    have r1 : s.vm.findClass _ = some cA := (hK1.2 2 (cA, .int) rfl).2
    have r2 : s.vm.findClass _ = some B.2.2.1.1 := (hK1.2 0 (B.2.2.1.1, .int) rfl).2
    exact Option.some.inj (r1.symm.trans r2)
  subst hcA
  have hsq : s.heap.size ≤ q := gnew_ad hD1
  have hw : gws (gBs B q) (gzf V B.2.2.2.2 (fun _ => 0)) = gws B V ++ [(q, .inl (B.2.2.1.1, N, .inl (fun _ => 0)))] := by
    rw [gws_s (fun K b i hK => gzf_ne V _ hK), gzf_at, hN]
  rw [← hw] at hP1 hD1
  exact kk q hsq ⟨hx, hb, hml, hown, hs, gI_of hD1, hlk⟩ H1 locs ls hP1 ⟨hS1.1, fun y h1 h2 => hS1.2.1 y h1 (fun z => h2 (gA_s z)), fun y hy => gA_s (hS1.2.2 y hy)⟩ hl
/-- a row's copy -/
def gCl (Z : gZ) : Prop := va_Nw (.castable "[I" "java/lang/Cloneable") Z.2.2.2.2.1
theorem g_clone (X : gX Z B cc own) (C : gCl Z) {rmZ : Room} (hR : gRm Z = rmZ) {k idx : Nat} (hk : k < B.2.2.2.2) (hN : gLn B.2.2.2.2 = gLn k)
    (hlink : gW (.methodLink own idx ⟨"[I", "clone", "()Ljava/lang/Object;"⟩)) (hsame : gW (.sameMethod "[I" "java/lang/Object" "clone" "()Ljava/lang/Object;")) (hnat : gW (.native ⟨"java/lang/Object", "clone", "()Ljava/lang/Object;"⟩)) (hinst : gW (.instanceMethod ⟨"java/lang/Object", "clone", "()Ljava/lang/Object;"⟩)) (hsel : gW (.selects "[I" ⟨"[I", "clone", "()Ljava/lang/Object;"⟩ ⟨"java/lang/Object", "clone", "()Ljava/lang/Object;"⟩))
    (hcat : (st.map fun v => v.category).sum ≤ 8) (hroom : 1 ≤ rmZ.frames ∧ 22 ≤ rmZ.locals ∧ n.1 + 1 ≤ rmZ.cells ∧ n.2 + gLn k ≤ rmZ.slots) (d : decode cc pc = .ok (.invokevirtual idx, 3))
    (kk : ∀ a, gsz Z ≤ a → gX Z (gBs B a) cc own → gG Z (gBs B a) (n.1 + 1, n.2 + gLn k) (gzf V B.2.2.2.2 (V 29 k 0)) (pc + 3) L (.ref a :: st)) : gG Z B n V pc L (.ref (B.2.1 29 k 0) :: st) := by
  obtain ⟨p, l, e, R, s, m, args, below, meth, c, nL, Q⟩ := Z
  subst hR
  intro H locs ls hP hS hl
  obtain ⟨hx, hb, hml, hown, hs, hI, hlk⟩ := X
  obtain ⟨q0, -, hq0⟩ := gws_atX B V (gPX_own hk)
  have hr := hs.1
  refine va_clone hx hb (hml.trans hl.1.symm) hown (hr _ hlink _) (hr _ hsame _) (hr _ hnat _) (hr _ hinst _) (hr _ hsel _) C hs.2 hP (gws_D V _ hI) hS (fun q h => Or.inr h) q0 0 (cA := B.2.2.1.1) (x := (gLn k, .inl (V 29 k 0))) (ty := .int) hq0 rfl (hs.2.2 0 (B.2.2.1.1, .int) rfl).2 (fun i v hv => ?_) hroom.1 (by have := hroom.2.1; show _ + 14 ≤ R.locals; have h9 : 22 ≤ R.locals := this; omega) hroom.2.2.1 hroom.2.2.2 d (fun q H1 hK1 hP1 hD1 hS1 => ?_)
  · have h1 : (arrV B.2.2.1.1 (gLn k) (fun j => .int (V 29 k 0 j))).slots[i]? = some v := hv
    have h2 := (Array.getElem?_eq_some_iff.mp h1).1
    have h3 : i < gLn k := by rw [arrV_size] at h2; exact h2
    have h4 : (arrV B.2.2.1.1 (gLn k) (fun j => .int (V 29 k 0 j))).slots[i]? = some (.int (V 29 k 0 i)) := by
      unfold arrV
      simp [h3]
    rw [h4] at h1
    rw [← Option.some.inj h1]
    rfl
  have hsq : s.heap.size ≤ q := gnew_ad hD1
  have hw : gws (gBs B q) (gzf V B.2.2.2.2 (V 29 k 0)) = gws B V ++ [(q, .inl (B.2.2.1.1, gLn k, .inl (V 29 k 0)))] := by
    rw [gws_s (fun K b i hK => gzf_ne V _ hK), gzf_at, hN]
  rw [← hw] at hP1 hD1
  exact kk q hsq ⟨hx, hb, hml, hown, hs, gI_of hD1, hlk⟩ H1 locs ls hP1 ⟨hS1.1, fun y h1 h2 => hS1.2.1 y h1 (fun z => h2 (gA_s z)), fun y hy => gA_s (hS1.2.2 y hy)⟩ hl
theorem g_castI (X : gX Z B cc own) {k idx : Nat} (hk : k < B.2.2.2.2) (hlink : gW (.classLink own idx "[I")) (d : decode cc pc = .ok (.checkcast idx, 3)) (kk : gG Z B n V (pc + 3) L (.ref (B.2.1 29 k 0) :: st)) : gG Z B n V pc L (.ref (B.2.1 29 k 0) :: st) := by
  obtain ⟨p, l, e, R, s, m, args, below, meth, c, nL, Q⟩ := Z
  intro H locs ls hP hS hl
  obtain ⟨hx, hb, hml, hown, hs, hI, hlk⟩ := X
  obtain ⟨q0, -, hq0⟩ := gws_atX B V (gPX_own hk)
  exact va_castA hx hb hown (hs.1 _ hlink _) hP q0 (cA := B.2.2.1.1) (x := (gLn k, .inl (V 29 k 0))) hq0 (hs.2.2 0 (B.2.2.1.1, .int) rfl).2 d (kk H locs ls hP hS hl)
/-- an own row's place -/
theorem g_oald (X : gX Z B cc own) {k : Nat} {x : Int32} (j : Nat) (hk : k < B.2.2.2.2) (hx : x = nI j) (hj : j < gLn k) (d : decode cc pc = .ok (.iaload, 1)) (kk : gG Z B n V (pc + 1) L (.int (V 29 k 0 j) :: st)) : gG Z B n V pc L (.int x :: .ref (B.2.1 29 k 0) :: st) := g_ialdNX X j hx hj (by unfold gLn; split <;> decide) (gPX_own hk) rfl d kk
theorem g_oast (X : gX Z B cc own) {k : Nat} {x v : Int32} (j : Nat) (hk : k < B.2.2.2.2) (hx : x = nI j) (hj : j < gLn k) (d : decode cc pc = .ok (.iastore, 1)) (kk : gG Z B n (gup V 29 k 0 j v) (pc + 1) L st) : gG Z B n V pc L (.int v :: .int x :: .ref (B.2.1 29 k 0) :: st) := g_iastNX X j hx hj (by unfold gLn; split <;> decide) (gPX_own hk) (fun _ => rfl) d kk
/-- the newest one is forgotten -/
theorem g_drop {a : Nat} (ha : gsz Z ≤ a) (kk : gG Z B n V pc L st) : gG Z (gBs B a) n V pc L st := by
  obtain ⟨p, l, e, R, s, m, args, below, meth, c, nL, Q⟩ := Z
  intro H locs ls hP hS hl
  rw [gws_s (V := V) (fun _ _ _ _ => rfl)] at hP
  refine kk H locs ls (fun k q hk => hP k q ?_) ⟨hS.1, fun y h1 h2 => hS.2.1 y h1 (fun z => h2 (gA_s' ha z)), fun y hy => gA_s' ha (hS.2.2 y hy)⟩ hl
  rw [List.getElem?_append_left (List.getElem?_eq_some_iff.mp hk).1]
  exact hk
theorem g_widen (n' : Nat × Nat) (h1 : n.1 ≤ n'.1) (h2 : n.2 ≤ n'.2) (kk : gG Z B n' V pc L st) : gG Z B n V pc L st := by
  obtain ⟨p, l, e, R, s, m, args, below, meth, c, nL, Q⟩ := Z
  exact fun H locs ls hP hS hl => W.widen h1 h2 (kk H locs ls hP hS hl)
end GR
end
section
section GFLD
variable {Z : gZ} {B : gB} {n : Nat × Nat} {V : gMem} {pc : Nat} {L : List (Nat × Value)} {st : List Value} {cc : ByteArray} {own : String} {b i idx : Nat}
theorem gg_X6_code (X : gX Z B cc own) (hp : gP 0 0 0) (hq : gFL own idx RX6 "code" "LFogBridge$Code;") (d : decode cc pc = .ok (.getfield idx, 3)) (kk : gG Z B n V (pc + 3) L (.ref (B.2.1 1 0 0) :: st)) : gG Z B n V pc L (.ref (B.2.1 0 0 0) :: st) := g_get X (ci := 5) (N := 5) (C := RX6) (T := TX6) rfl gU_X6 0 (by decide) rfl hp rfl rfl hq d kk
theorem gg_X6_fog (X : gX Z B cc own) (hp : gP 0 0 0) (hq : gFL own idx RX6 "fog" "[I") (d : decode cc pc = .ok (.getfield idx, 3)) (kk : gG Z B n V (pc + 3) L (.ref (B.2.1 4 0 0) :: st)) : gG Z B n V pc L (.ref (B.2.1 0 0 0) :: st) := g_get X (ci := 5) (N := 5) (C := RX6) (T := TX6) rfl gU_X6 1 (by decide) rfl hp rfl rfl hq d kk
theorem gg_X6_bridge (X : gX Z B cc own) (hp : gP 0 0 0) (hq : gFL own idx RX6 "bridge" "LFogBridge$Bridge;") (d : decode cc pc = .ok (.getfield idx, 3)) (kk : gG Z B n V (pc + 3) L (.ref (B.2.1 10 0 0) :: st)) : gG Z B n V pc L (.ref (B.2.1 0 0 0) :: st) := g_get X (ci := 5) (N := 5) (C := RX6) (T := TX6) rfl gU_X6 2 (by decide) rfl hp rfl rfl hq d kk
theorem gg_X6_ahead (X : gX Z B cc own) (hp : gP 0 0 0) (hq : gFL own idx RX6 "ahead" "LFogBridge$Bridge;") (d : decode cc pc = .ok (.getfield idx, 3)) (kk : gG Z B n V (pc + 3) L (.ref (B.2.1 10 1 0) :: st)) : gG Z B n V pc L (.ref (B.2.1 0 0 0) :: st) := g_get X (ci := 5) (N := 5) (C := RX6) (T := TX6) rfl gU_X6 3 (by decide) rfl hp rfl rfl hq d kk
theorem gg_X6_branch (X : gX Z B cc own) (hp : gP 0 0 0) (hq : gFL own idx RX6 "branch" "LFogBridge$Bridge;") (d : decode cc pc = .ok (.getfield idx, 3)) (kk : gG Z B n V (pc + 3) L (.ref (B.2.1 10 2 0) :: st)) : gG Z B n V pc L (.ref (B.2.1 0 0 0) :: st) := g_get X (ci := 5) (N := 5) (C := RX6) (T := TX6) rfl gU_X6 4 (by decide) rfl hp rfl rfl hq d kk
theorem gg_X2_signals (X : gX Z B cc own) (hp : gP 1 0 0) (hq : gFL own idx RX2 "signals" "[I") (d : decode cc pc = .ok (.getfield idx, 3)) (kk : gG Z B n V (pc + 3) L (.ref (B.2.1 2 0 0) :: st)) : gG Z B n V pc L (.ref (B.2.1 1 0 0) :: st) := g_get X (ci := 2) (N := 3) (C := RX2) (T := TX2) rfl gU_X2 0 (by decide) rfl hp rfl rfl hq d kk
theorem gg_X2_rowsOfLength (X : gX Z B cc own) (hp : gP 1 0 0) (hq : gFL own idx RX2 "rowsOfLength" "[I") (d : decode cc pc = .ok (.getfield idx, 3)) (kk : gG Z B n V (pc + 3) L (.ref (B.2.1 3 0 0) :: st)) : gG Z B n V pc L (.ref (B.2.1 1 0 0) :: st) := g_get X (ci := 2) (N := 3) (C := RX2) (T := TX2) rfl gU_X2 1 (by decide) rfl hp rfl rfl hq d kk
theorem gg_X2_size (X : gX Z B cc own) (hp : gP 1 0 0) (hq : gFL own idx RX2 "size" "I") (d : decode cc pc = .ok (.getfield idx, 3)) (kk : gG Z B n V (pc + 3) L (.int (V 1 0 0 2) :: st)) : gG Z B n V pc L (.ref (B.2.1 1 0 0) :: st) := g_get X (ci := 2) (N := 3) (C := RX2) (T := TX2) rfl gU_X2 2 (by decide) rfl hp rfl rfl hq d kk
theorem gp_X2_size (X : gX Z B cc own) {x : Int32} (hp : gP 1 0 0) (hq : gFL own idx RX2 "size" "I") (d : decode cc pc = .ok (.putfield idx, 3)) (kk : gG Z B n (gup V 1 0 0 2 x) (pc + 3) L st) : gG Z B n V pc L (.int x :: .ref (B.2.1 1 0 0) :: st) := g_put X (ci := 2) (N := 3) (C := RX2) (T := TX2) (ty := .int) rfl gU_X2 tyX2 tyX2_ok nmX2 2 (by decide) rfl rfl (by decide +kernel) rfl rfl hp rfl (by simp) rfl hq d kk
theorem gg_X0_tick (X : gX Z B cc own) (hp : gP 10 b 0) (hq : gFL own idx RX0 "tick" "I") (d : decode cc pc = .ok (.getfield idx, 3)) (kk : gG Z B n V (pc + 3) L (.int (V 10 b 0 0) :: st)) : gG Z B n V pc L (.ref (B.2.1 10 b 0) :: st) := g_get X (ci := 0) (N := 11) (C := RX0) (T := TX0) rfl gU_X0 0 (by decide) rfl hp rfl rfl hq d kk
theorem gp_X0_tick (X : gX Z B cc own) {x : Int32} (hp : gP 10 b 0) (hq : gFL own idx RX0 "tick" "I") (d : decode cc pc = .ok (.putfield idx, 3)) (kk : gG Z B n (gup V 10 b 0 0 x) (pc + 3) L st) : gG Z B n V pc L (.int x :: .ref (B.2.1 10 b 0) :: st) := g_put X (ci := 0) (N := 11) (C := RX0) (T := TX0) (ty := .int) rfl gU_X0 tyX0 tyX0_ok nmX0 0 (by decide) rfl rfl (by decide +kernel) rfl rfl hp rfl (by simp) rfl hq d kk
theorem gg_X0_direction (X : gX Z B cc own) (hp : gP 10 b 0) (hq : gFL own idx RX0 "direction" "I") (d : decode cc pc = .ok (.getfield idx, 3)) (kk : gG Z B n V (pc + 3) L (.int (V 10 b 0 1) :: st)) : gG Z B n V pc L (.ref (B.2.1 10 b 0) :: st) := g_get X (ci := 0) (N := 11) (C := RX0) (T := TX0) rfl gU_X0 1 (by decide) rfl hp rfl rfl hq d kk
theorem gp_X0_direction (X : gX Z B cc own) {x : Int32} (hp : gP 10 b 0) (hq : gFL own idx RX0 "direction" "I") (d : decode cc pc = .ok (.putfield idx, 3)) (kk : gG Z B n (gup V 10 b 0 1 x) (pc + 3) L st) : gG Z B n V pc L (.int x :: .ref (B.2.1 10 b 0) :: st) := g_put X (ci := 0) (N := 11) (C := RX0) (T := TX0) (ty := .int) rfl gU_X0 tyX0 tyX0_ok nmX0 1 (by decide) rfl rfl (by decide +kernel) rfl rfl hp rfl (by simp) rfl hq d kk
theorem gg_X0_places (X : gX Z B cc own) (hp : gP 10 b 0) (hq : gFL own idx RX0 "places" "I") (d : decode cc pc = .ok (.getfield idx, 3)) (kk : gG Z B n V (pc + 3) L (.int (V 10 b 0 2) :: st)) : gG Z B n V pc L (.ref (B.2.1 10 b 0) :: st) := g_get X (ci := 0) (N := 11) (C := RX0) (T := TX0) rfl gU_X0 2 (by decide) rfl hp rfl rfl hq d kk
theorem gp_X0_places (X : gX Z B cc own) {x : Int32} (hp : gP 10 b 0) (hq : gFL own idx RX0 "places" "I") (d : decode cc pc = .ok (.putfield idx, 3)) (kk : gG Z B n (gup V 10 b 0 2 x) (pc + 3) L st) : gG Z B n V pc L (.int x :: .ref (B.2.1 10 b 0) :: st) := g_put X (ci := 0) (N := 11) (C := RX0) (T := TX0) (ty := .int) rfl gU_X0 tyX0 tyX0_ok nmX0 2 (by decide) rfl rfl (by decide +kernel) rfl rfl hp rfl (by simp) rfl hq d kk
theorem gg_X0_bears (X : gX Z B cc own) (hp : gP 10 b 0) (hq : gFL own idx RX0 "bears" "I") (d : decode cc pc = .ok (.getfield idx, 3)) (kk : gG Z B n V (pc + 3) L (.int (V 10 b 0 3) :: st)) : gG Z B n V pc L (.ref (B.2.1 10 b 0) :: st) := g_get X (ci := 0) (N := 11) (C := RX0) (T := TX0) rfl gU_X0 3 (by decide) rfl hp rfl rfl hq d kk
theorem gp_X0_bears (X : gX Z B cc own) {x : Int32} (hp : gP 10 b 0) (hq : gFL own idx RX0 "bears" "I") (d : decode cc pc = .ok (.putfield idx, 3)) (kk : gG Z B n (gup V 10 b 0 3 x) (pc + 3) L st) : gG Z B n V pc L (.int x :: .ref (B.2.1 10 b 0) :: st) := g_put X (ci := 0) (N := 11) (C := RX0) (T := TX0) (ty := .int) rfl gU_X0 tyX0 tyX0_ok nmX0 3 (by decide) rfl rfl (by decide +kernel) rfl rfl hp rfl (by simp) rfl hq d kk
theorem gg_X0_axleToll (X : gX Z B cc own) (hp : gP 10 b 0) (hq : gFL own idx RX0 "axleToll" "I") (d : decode cc pc = .ok (.getfield idx, 3)) (kk : gG Z B n V (pc + 3) L (.int (V 10 b 0 4) :: st)) : gG Z B n V pc L (.ref (B.2.1 10 b 0) :: st) := g_get X (ci := 0) (N := 11) (C := RX0) (T := TX0) rfl gU_X0 4 (by decide) rfl hp rfl rfl hq d kk
theorem gp_X0_axleToll (X : gX Z B cc own) {x : Int32} (hp : gP 10 b 0) (hq : gFL own idx RX0 "axleToll" "I") (d : decode cc pc = .ok (.putfield idx, 3)) (kk : gG Z B n (gup V 10 b 0 4 x) (pc + 3) L st) : gG Z B n V pc L (.int x :: .ref (B.2.1 10 b 0) :: st) := g_put X (ci := 0) (N := 11) (C := RX0) (T := TX0) (ty := .int) rfl gU_X0 tyX0 tyX0_ok nmX0 4 (by decide) rfl rfl (by decide +kernel) rfl rfl hp rfl (by simp) rfl hq d kk
theorem gg_X0_tenToll (X : gX Z B cc own) (hp : gP 10 b 0) (hq : gFL own idx RX0 "tenToll" "I") (d : decode cc pc = .ok (.getfield idx, 3)) (kk : gG Z B n V (pc + 3) L (.int (V 10 b 0 5) :: st)) : gG Z B n V pc L (.ref (B.2.1 10 b 0) :: st) := g_get X (ci := 0) (N := 11) (C := RX0) (T := TX0) rfl gU_X0 5 (by decide) rfl hp rfl rfl hq d kk
theorem gp_X0_tenToll (X : gX Z B cc own) {x : Int32} (hp : gP 10 b 0) (hq : gFL own idx RX0 "tenToll" "I") (d : decode cc pc = .ok (.putfield idx, 3)) (kk : gG Z B n (gup V 10 b 0 5 x) (pc + 3) L st) : gG Z B n V pc L (.int x :: .ref (B.2.1 10 b 0) :: st) := g_put X (ci := 0) (N := 11) (C := RX0) (T := TX0) (ty := .int) rfl gU_X0 tyX0 tyX0_ok nmX0 5 (by decide) rfl rfl (by decide +kernel) rfl rfl hp rfl (by simp) rfl hq d kk
theorem gg_X0_cartCount (X : gX Z B cc own) (hp : gP 10 b 0) (hq : gFL own idx RX0 "cartCount" "I") (d : decode cc pc = .ok (.getfield idx, 3)) (kk : gG Z B n V (pc + 3) L (.int (V 10 b 0 6) :: st)) : gG Z B n V pc L (.ref (B.2.1 10 b 0) :: st) := g_get X (ci := 0) (N := 11) (C := RX0) (T := TX0) rfl gU_X0 6 (by decide) rfl hp rfl rfl hq d kk
theorem gp_X0_cartCount (X : gX Z B cc own) {x : Int32} (hp : gP 10 b 0) (hq : gFL own idx RX0 "cartCount" "I") (d : decode cc pc = .ok (.putfield idx, 3)) (kk : gG Z B n (gup V 10 b 0 6 x) (pc + 3) L st) : gG Z B n V pc L (.int x :: .ref (B.2.1 10 b 0) :: st) := g_put X (ci := 0) (N := 11) (C := RX0) (T := TX0) (ty := .int) rfl gU_X0 tyX0 tyX0_ok nmX0 6 (by decide) rfl rfl (by decide +kernel) rfl rfl hp rfl (by simp) rfl hq d kk
theorem gg_X0_carts (X : gX Z B cc own) (hp : gP 10 b 0) (hq : gFL own idx RX0 "carts" "[LFogBridge$Cart;") (d : decode cc pc = .ok (.getfield idx, 3)) (kk : gG Z B n V (pc + 3) L (.ref (B.2.1 11 b 0) :: st)) : gG Z B n V pc L (.ref (B.2.1 10 b 0) :: st) := g_get X (ci := 0) (N := 11) (C := RX0) (T := TX0) rfl gU_X0 7 (by decide) rfl hp rfl rfl hq d kk
theorem gg_X0_firstGate (X : gX Z B cc own) (hp : gP 10 b 0) (hq : gFL own idx RX0 "firstGate" "LFogBridge$Gate;") (d : decode cc pc = .ok (.getfield idx, 3)) (kk : gG Z B n V (pc + 3) L (.ref (B.2.1 12 b 0) :: st)) : gG Z B n V pc L (.ref (B.2.1 10 b 0) :: st) := g_get X (ci := 0) (N := 11) (C := RX0) (T := TX0) rfl gU_X0 8 (by decide) rfl hp rfl rfl hq d kk
theorem gg_X0_secondGate (X : gX Z B cc own) (hp : gP 10 b 0) (hq : gFL own idx RX0 "secondGate" "LFogBridge$Gate;") (d : decode cc pc = .ok (.getfield idx, 3)) (kk : gG Z B n V (pc + 3) L (.ref (B.2.1 12 b 1) :: st)) : gG Z B n V pc L (.ref (B.2.1 10 b 0) :: st) := g_get X (ci := 0) (N := 11) (C := RX0) (T := TX0) rfl gU_X0 9 (by decide) rfl hp rfl rfl hq d kk
theorem gg_X0_crossing (X : gX Z B cc own) (hp : gP 10 b 0) (hq : gFL own idx RX0 "crossing" "LFogBridge$Row;") (d : decode cc pc = .ok (.getfield idx, 3)) (kk : gG Z B n V (pc + 3) L (.ref (B.2.1 13 b 2) :: st)) : gG Z B n V pc L (.ref (B.2.1 10 b 0) :: st) := g_get X (ci := 0) (N := 11) (C := RX0) (T := TX0) rfl gU_X0 10 (by decide) rfl hp rfl rfl hq d kk
theorem gg_X3_waiting (X : gX Z B cc own) (hp : gP 12 b i) (hq : gFL own idx RX3 "waiting" "LFogBridge$Row;") (d : decode cc pc = .ok (.getfield idx, 3)) (kk : gG Z B n V (pc + 3) L (.ref (B.2.1 13 b i) :: st)) : gG Z B n V pc L (.ref (B.2.1 12 b i) :: st) := g_get X (ci := 3) (N := 5) (C := RX3) (T := TX3) rfl gU_X3 0 (by decide) rfl hp rfl rfl hq d kk
theorem gg_X3_coins (X : gX Z B cc own) (hp : gP 12 b i) (hq : gFL own idx RX3 "coins" "I") (d : decode cc pc = .ok (.getfield idx, 3)) (kk : gG Z B n V (pc + 3) L (.int (V 12 b i 1) :: st)) : gG Z B n V pc L (.ref (B.2.1 12 b i) :: st) := g_get X (ci := 3) (N := 5) (C := RX3) (T := TX3) rfl gU_X3 1 (by decide) rfl hp rfl rfl hq d kk
theorem gp_X3_coins (X : gX Z B cc own) {x : Int32} (hp : gP 12 b i) (hq : gFL own idx RX3 "coins" "I") (d : decode cc pc = .ok (.putfield idx, 3)) (kk : gG Z B n (gup V 12 b i 1 x) (pc + 3) L st) : gG Z B n V pc L (.int x :: .ref (B.2.1 12 b i) :: st) := g_put X (ci := 3) (N := 5) (C := RX3) (T := TX3) (ty := .int) rfl gU_X3 tyX3 tyX3_ok nmX3 1 (by decide) rfl rfl (by decide +kernel) rfl rfl hp rfl (by simp) rfl hq d kk
theorem gg_X3_payers (X : gX Z B cc own) (hp : gP 12 b i) (hq : gFL own idx RX3 "payers" "I") (d : decode cc pc = .ok (.getfield idx, 3)) (kk : gG Z B n V (pc + 3) L (.int (V 12 b i 2) :: st)) : gG Z B n V pc L (.ref (B.2.1 12 b i) :: st) := g_get X (ci := 3) (N := 5) (C := RX3) (T := TX3) rfl gU_X3 2 (by decide) rfl hp rfl rfl hq d kk
theorem gp_X3_payers (X : gX Z B cc own) {x : Int32} (hp : gP 12 b i) (hq : gFL own idx RX3 "payers" "I") (d : decode cc pc = .ok (.putfield idx, 3)) (kk : gG Z B n (gup V 12 b i 2 x) (pc + 3) L st) : gG Z B n V pc L (.int x :: .ref (B.2.1 12 b i) :: st) := g_put X (ci := 3) (N := 5) (C := RX3) (T := TX3) (ty := .int) rfl gU_X3 tyX3 tyX3_ok nmX3 2 (by decide) rfl rfl (by decide +kernel) rfl rfl hp rfl (by simp) rfl hq d kk
theorem gg_X3_axles (X : gX Z B cc own) (hp : gP 12 b i) (hq : gFL own idx RX3 "axles" "I") (d : decode cc pc = .ok (.getfield idx, 3)) (kk : gG Z B n V (pc + 3) L (.int (V 12 b i 3) :: st)) : gG Z B n V pc L (.ref (B.2.1 12 b i) :: st) := g_get X (ci := 3) (N := 5) (C := RX3) (T := TX3) rfl gU_X3 3 (by decide) rfl hp rfl rfl hq d kk
theorem gp_X3_axles (X : gX Z B cc own) {x : Int32} (hp : gP 12 b i) (hq : gFL own idx RX3 "axles" "I") (d : decode cc pc = .ok (.putfield idx, 3)) (kk : gG Z B n (gup V 12 b i 3 x) (pc + 3) L st) : gG Z B n V pc L (.int x :: .ref (B.2.1 12 b i) :: st) := g_put X (ci := 3) (N := 5) (C := RX3) (T := TX3) (ty := .int) rfl gU_X3 tyX3 tyX3_ok nmX3 3 (by decide) rfl rfl (by decide +kernel) rfl rfl hp rfl (by simp) rfl hq d kk
theorem gg_X3_keptByCheats (X : gX Z B cc own) (hp : gP 12 b i) (hq : gFL own idx RX3 "keptByCheats" "I") (d : decode cc pc = .ok (.getfield idx, 3)) (kk : gG Z B n V (pc + 3) L (.int (V 12 b i 4) :: st)) : gG Z B n V pc L (.ref (B.2.1 12 b i) :: st) := g_get X (ci := 3) (N := 5) (C := RX3) (T := TX3) rfl gU_X3 4 (by decide) rfl hp rfl rfl hq d kk
theorem gp_X3_keptByCheats (X : gX Z B cc own) {x : Int32} (hp : gP 12 b i) (hq : gFL own idx RX3 "keptByCheats" "I") (d : decode cc pc = .ok (.putfield idx, 3)) (kk : gG Z B n (gup V 12 b i 4 x) (pc + 3) L st) : gG Z B n V pc L (.int x :: .ref (B.2.1 12 b i) :: st) := g_put X (ci := 3) (N := 5) (C := RX3) (T := TX3) (ty := .int) rfl gU_X3 tyX3 tyX3_ok nmX3 4 (by decide) rfl rfl (by decide +kernel) rfl rfl hp rfl (by simp) rfl hq d kk
theorem gg_X5_carts (X : gX Z B cc own) (hp : gP 13 b i) (hq : gFL own idx RX5 "carts" "[I") (d : decode cc pc = .ok (.getfield idx, 3)) (kk : gG Z B n V (pc + 3) L (.ref (B.2.1 14 b i) :: st)) : gG Z B n V pc L (.ref (B.2.1 13 b i) :: st) := g_get X (ci := 4) (N := 2) (C := RX5) (T := TX5) rfl gU_X5 0 (by decide) rfl hp rfl rfl hq d kk
theorem gg_X5_size (X : gX Z B cc own) (hp : gP 13 b i) (hq : gFL own idx RX5 "size" "I") (d : decode cc pc = .ok (.getfield idx, 3)) (kk : gG Z B n V (pc + 3) L (.int (V 13 b i 1) :: st)) : gG Z B n V pc L (.ref (B.2.1 13 b i) :: st) := g_get X (ci := 4) (N := 2) (C := RX5) (T := TX5) rfl gU_X5 1 (by decide) rfl hp rfl rfl hq d kk
theorem gp_X5_size (X : gX Z B cc own) {x : Int32} (hp : gP 13 b i) (hq : gFL own idx RX5 "size" "I") (d : decode cc pc = .ok (.putfield idx, 3)) (kk : gG Z B n (gup V 13 b i 1 x) (pc + 3) L st) : gG Z B n V pc L (.int x :: .ref (B.2.1 13 b i) :: st) := g_put X (ci := 4) (N := 2) (C := RX5) (T := TX5) (ty := .int) rfl gU_X5 tyX5 tyX5_ok nmX5 1 (by decide) rfl rfl (by decide +kernel) rfl rfl hp rfl (by simp) rfl hq d kk
theorem gg_X1_number (X : gX Z B cc own) (hp : gP 15 b i) (hq : gFL own idx RX1 "number" "I") (d : decode cc pc = .ok (.getfield idx, 3)) (kk : gG Z B n V (pc + 3) L (.int (V 15 b i 0) :: st)) : gG Z B n V pc L (.ref (B.2.1 15 b i) :: st) := g_get X (ci := 1) (N := 11) (C := RX1) (T := TX1) rfl gU_X1 0 (by decide) rfl hp rfl rfl hq d kk
theorem gg_X1_end (X : gX Z B cc own) (hp : gP 15 b i) (hq : gFL own idx RX1 "end" "I") (d : decode cc pc = .ok (.getfield idx, 3)) (kk : gG Z B n V (pc + 3) L (.int (V 15 b i 1) :: st)) : gG Z B n V pc L (.ref (B.2.1 15 b i) :: st) := g_get X (ci := 1) (N := 11) (C := RX1) (T := TX1) rfl gU_X1 1 (by decide) rfl hp rfl rfl hq d kk
theorem gp_X1_end (X : gX Z B cc own) {x : Int32} (hp : gP 15 b i) (hq : gFL own idx RX1 "end" "I") (d : decode cc pc = .ok (.putfield idx, 3)) (kk : gG Z B n (gup V 15 b i 1 x) (pc + 3) L st) : gG Z B n V pc L (.int x :: .ref (B.2.1 15 b i) :: st) := g_put X (ci := 1) (N := 11) (C := RX1) (T := TX1) (ty := .int) rfl gU_X1 tyX1 tyX1_ok nmX1 1 (by decide) rfl rfl (by decide +kernel) rfl rfl hp rfl (by simp) rfl hq d kk
theorem gg_X1_axles (X : gX Z B cc own) (hp : gP 15 b i) (hq : gFL own idx RX1 "axles" "I") (d : decode cc pc = .ok (.getfield idx, 3)) (kk : gG Z B n V (pc + 3) L (.int (V 15 b i 2) :: st)) : gG Z B n V pc L (.ref (B.2.1 15 b i) :: st) := g_get X (ci := 1) (N := 11) (C := RX1) (T := TX1) rfl gU_X1 2 (by decide) rfl hp rfl rfl hq d kk
theorem gp_X1_axles (X : gX Z B cc own) {x : Int32} (hp : gP 15 b i) (hq : gFL own idx RX1 "axles" "I") (d : decode cc pc = .ok (.putfield idx, 3)) (kk : gG Z B n (gup V 15 b i 2 x) (pc + 3) L st) : gG Z B n V pc L (.int x :: .ref (B.2.1 15 b i) :: st) := g_put X (ci := 1) (N := 11) (C := RX1) (T := TX1) (ty := .int) rfl gU_X1 tyX1 tyX1_ok nmX1 2 (by decide) rfl rfl (by decide +kernel) rfl rfl hp rfl (by simp) rfl hq d kk
theorem gg_X1_weight (X : gX Z B cc own) (hp : gP 15 b i) (hq : gFL own idx RX1 "weight" "I") (d : decode cc pc = .ok (.getfield idx, 3)) (kk : gG Z B n V (pc + 3) L (.int (V 15 b i 3) :: st)) : gG Z B n V pc L (.ref (B.2.1 15 b i) :: st) := g_get X (ci := 1) (N := 11) (C := RX1) (T := TX1) rfl gU_X1 3 (by decide) rfl hp rfl rfl hq d kk
theorem gp_X1_weight (X : gX Z B cc own) {x : Int32} (hp : gP 15 b i) (hq : gFL own idx RX1 "weight" "I") (d : decode cc pc = .ok (.putfield idx, 3)) (kk : gG Z B n (gup V 15 b i 3 x) (pc + 3) L st) : gG Z B n V pc L (.int x :: .ref (B.2.1 15 b i) :: st) := g_put X (ci := 1) (N := 11) (C := RX1) (T := TX1) (ty := .int) rfl gU_X1 tyX1 tyX1_ok nmX1 3 (by decide) rfl rfl (by decide +kernel) rfl rfl hp rfl (by simp) rfl hq d kk
theorem gg_X1_pace (X : gX Z B cc own) (hp : gP 15 b i) (hq : gFL own idx RX1 "pace" "I") (d : decode cc pc = .ok (.getfield idx, 3)) (kk : gG Z B n V (pc + 3) L (.int (V 15 b i 4) :: st)) : gG Z B n V pc L (.ref (B.2.1 15 b i) :: st) := g_get X (ci := 1) (N := 11) (C := RX1) (T := TX1) rfl gU_X1 4 (by decide) rfl hp rfl rfl hq d kk
theorem gp_X1_pace (X : gX Z B cc own) {x : Int32} (hp : gP 15 b i) (hq : gFL own idx RX1 "pace" "I") (d : decode cc pc = .ok (.putfield idx, 3)) (kk : gG Z B n (gup V 15 b i 4 x) (pc + 3) L st) : gG Z B n V pc L (.int x :: .ref (B.2.1 15 b i) :: st) := g_put X (ci := 1) (N := 11) (C := RX1) (T := TX1) (ty := .int) rfl gU_X1 tyX1 tyX1_ok nmX1 4 (by decide) rfl rfl (by decide +kernel) rfl rfl hp rfl (by simp) rfl hq d kk
theorem gg_X1_coins (X : gX Z B cc own) (hp : gP 15 b i) (hq : gFL own idx RX1 "coins" "I") (d : decode cc pc = .ok (.getfield idx, 3)) (kk : gG Z B n V (pc + 3) L (.int (V 15 b i 5) :: st)) : gG Z B n V pc L (.ref (B.2.1 15 b i) :: st) := g_get X (ci := 1) (N := 11) (C := RX1) (T := TX1) rfl gU_X1 5 (by decide) rfl hp rfl rfl hq d kk
theorem gp_X1_coins (X : gX Z B cc own) {x : Int32} (hp : gP 15 b i) (hq : gFL own idx RX1 "coins" "I") (d : decode cc pc = .ok (.putfield idx, 3)) (kk : gG Z B n (gup V 15 b i 5 x) (pc + 3) L st) : gG Z B n V pc L (.int x :: .ref (B.2.1 15 b i) :: st) := g_put X (ci := 1) (N := 11) (C := RX1) (T := TX1) (ty := .int) rfl gU_X1 tyX1 tyX1_ok nmX1 5 (by decide) rfl rfl (by decide +kernel) rfl rfl hp rfl (by simp) rfl hq d kk
theorem gg_X1_isCheat (X : gX Z B cc own) (hp : gP 15 b i) (hq : gFL own idx RX1 "isCheat" "Z") (d : decode cc pc = .ok (.getfield idx, 3)) (kk : gG Z B n V (pc + 3) L (.int (V 15 b i 6) :: st)) : gG Z B n V pc L (.ref (B.2.1 15 b i) :: st) := g_get X (ci := 1) (N := 11) (C := RX1) (T := TX1) rfl gU_X1 6 (by decide) rfl hp rfl rfl hq d kk
theorem gp_X1_isCheat (X : gX Z B cc own) {x : Int32} (hx : narrow .boolean (.int x) = .int x) (hx2 : fits .boolean (.int x) = true) (hp : gP 15 b i) (hq : gFL own idx RX1 "isCheat" "Z") (d : decode cc pc = .ok (.putfield idx, 3)) (kk : gG Z B n (gup V 15 b i 6 x) (pc + 3) L st) : gG Z B n V pc L (.int x :: .ref (B.2.1 15 b i) :: st) := g_put X (ci := 1) (N := 11) (C := RX1) (T := TX1) (ty := .boolean) rfl gU_X1 tyX1 tyX1_ok nmX1 6 (by decide) rfl rfl (by decide +kernel) hx hx2 hp rfl (by simp) rfl hq d kk
theorem gg_X1_hasPaid (X : gX Z B cc own) (hp : gP 15 b i) (hq : gFL own idx RX1 "hasPaid" "Z") (d : decode cc pc = .ok (.getfield idx, 3)) (kk : gG Z B n V (pc + 3) L (.int (V 15 b i 7) :: st)) : gG Z B n V pc L (.ref (B.2.1 15 b i) :: st) := g_get X (ci := 1) (N := 11) (C := RX1) (T := TX1) rfl gU_X1 7 (by decide) rfl hp rfl rfl hq d kk
theorem gp_X1_hasPaid (X : gX Z B cc own) {x : Int32} (hx : narrow .boolean (.int x) = .int x) (hx2 : fits .boolean (.int x) = true) (hp : gP 15 b i) (hq : gFL own idx RX1 "hasPaid" "Z") (d : decode cc pc = .ok (.putfield idx, 3)) (kk : gG Z B n (gup V 15 b i 7 x) (pc + 3) L st) : gG Z B n V pc L (.int x :: .ref (B.2.1 15 b i) :: st) := g_put X (ci := 1) (N := 11) (C := RX1) (T := TX1) (ty := .boolean) rfl gU_X1 tyX1 tyX1_ok nmX1 7 (by decide) rfl rfl (by decide +kernel) hx hx2 hp rfl (by simp) rfl hq d kk
theorem gg_X1_state (X : gX Z B cc own) (hp : gP 15 b i) (hq : gFL own idx RX1 "state" "I") (d : decode cc pc = .ok (.getfield idx, 3)) (kk : gG Z B n V (pc + 3) L (.int (V 15 b i 8) :: st)) : gG Z B n V pc L (.ref (B.2.1 15 b i) :: st) := g_get X (ci := 1) (N := 11) (C := RX1) (T := TX1) rfl gU_X1 8 (by decide) rfl hp rfl rfl hq d kk
theorem gp_X1_state (X : gX Z B cc own) {x : Int32} (hp : gP 15 b i) (hq : gFL own idx RX1 "state" "I") (d : decode cc pc = .ok (.putfield idx, 3)) (kk : gG Z B n (gup V 15 b i 8 x) (pc + 3) L st) : gG Z B n V pc L (.int x :: .ref (B.2.1 15 b i) :: st) := g_put X (ci := 1) (N := 11) (C := RX1) (T := TX1) (ty := .int) rfl gU_X1 tyX1 tyX1_ok nmX1 8 (by decide) rfl rfl (by decide +kernel) rfl rfl hp rfl (by simp) rfl hq d kk
theorem gg_X1_way (X : gX Z B cc own) (hp : gP 15 b i) (hq : gFL own idx RX1 "way" "I") (d : decode cc pc = .ok (.getfield idx, 3)) (kk : gG Z B n V (pc + 3) L (.int (V 15 b i 9) :: st)) : gG Z B n V pc L (.ref (B.2.1 15 b i) :: st) := g_get X (ci := 1) (N := 11) (C := RX1) (T := TX1) rfl gU_X1 9 (by decide) rfl hp rfl rfl hq d kk
theorem gp_X1_way (X : gX Z B cc own) {x : Int32} (hp : gP 15 b i) (hq : gFL own idx RX1 "way" "I") (d : decode cc pc = .ok (.putfield idx, 3)) (kk : gG Z B n (gup V 15 b i 9 x) (pc + 3) L st) : gG Z B n V pc L (.int x :: .ref (B.2.1 15 b i) :: st) := g_put X (ci := 1) (N := 11) (C := RX1) (T := TX1) (ty := .int) rfl gU_X1 tyX1 tyX1_ok nmX1 9 (by decide) rfl rfl (by decide +kernel) rfl rfl hp rfl (by simp) rfl hq d kk
theorem gg_X1_overTick (X : gX Z B cc own) (hp : gP 15 b i) (hq : gFL own idx RX1 "overTick" "I") (d : decode cc pc = .ok (.getfield idx, 3)) (kk : gG Z B n V (pc + 3) L (.int (V 15 b i 10) :: st)) : gG Z B n V pc L (.ref (B.2.1 15 b i) :: st) := g_get X (ci := 1) (N := 11) (C := RX1) (T := TX1) rfl gU_X1 10 (by decide) rfl hp rfl rfl hq d kk
theorem gp_X1_overTick (X : gX Z B cc own) {x : Int32} (hp : gP 15 b i) (hq : gFL own idx RX1 "overTick" "I") (d : decode cc pc = .ok (.putfield idx, 3)) (kk : gG Z B n (gup V 15 b i 10 x) (pc + 3) L st) : gG Z B n V pc L (.int x :: .ref (B.2.1 15 b i) :: st) := g_put X (ci := 1) (N := 11) (C := RX1) (T := TX1) (ty := .int) rfl gU_X1 tyX1 tyX1_ok nmX1 10 (by decide) rfl rfl (by decide +kernel) rfl rfl hp rfl (by simp) rfl hq d kk
end GFLD
theorem fX2_9 : gFL RX2 9 RX2 "signals" "[I" := Or.inl qF_X2_9
theorem fX2_15 : gFL RX2 15 RX2 "rowsOfLength" "[I" := Or.inl qF_X2_15
theorem fX2_18 : gFL RX2 18 RX2 "size" "I" := Or.inl qF_X2_18
theorem fX6_81 : gFL RX6 81 RX2 "size" "I" := Or.inr ⟨_, qFN_X6_81⟩
theorem fX5_9 : gFL RX5 9 RX5 "carts" "[I" := Or.inl qF_X5_9
theorem fX5_15 : gFL RX5 15 RX5 "size" "I" := Or.inl qF_X5_15
theorem fX3_34 : gFL RX3 34 RX5 "size" "I" := Or.inr ⟨_, qFN_X3_34⟩
theorem fX6_114 : gFL RX6 114 RX5 "size" "I" := Or.inr ⟨_, qFN_X6_114⟩
theorem fX0_80 : gFL RX0 80 RX5 "size" "I" := Or.inr ⟨_, qFN_X0_80⟩
theorem fX3_12 : gFL RX3 12 RX3 "waiting" "LFogBridge$Row;" := Or.inl qF_X3_12
theorem fX6_172 : gFL RX6 172 RX3 "waiting" "LFogBridge$Row;" := Or.inr ⟨_, qFN_X6_172⟩
theorem fX0_157 : gFL RX0 157 RX3 "waiting" "LFogBridge$Row;" := Or.inr ⟨_, qFN_X0_157⟩
theorem fX3_18 : gFL RX3 18 RX3 "coins" "I" := Or.inl qF_X3_18
theorem fX0_77 : gFL RX0 77 RX3 "coins" "I" := Or.inr ⟨_, qFN_X0_77⟩
theorem fX6_209 : gFL RX6 209 RX3 "coins" "I" := Or.inr ⟨_, qFN_X6_209⟩
theorem fX3_22 : gFL RX3 22 RX3 "payers" "I" := Or.inl qF_X3_22
theorem fX3_25 : gFL RX3 25 RX3 "axles" "I" := Or.inl qF_X3_25
theorem fX3_31 : gFL RX3 31 RX3 "keptByCheats" "I" := Or.inl qF_X3_31
theorem fX6_206 : gFL RX6 206 RX3 "keptByCheats" "I" := Or.inr ⟨_, qFN_X6_206⟩
theorem fX1_18 : gFL RX1 18 RX1 "number" "I" := Or.inl qF_X1_18
theorem fX6_177 : gFL RX6 177 RX1 "number" "I" := Or.inr ⟨_, qFN_X6_177⟩
theorem fX0_160 : gFL RX0 160 RX1 "number" "I" := Or.inr ⟨_, qFN_X0_160⟩
theorem fX1_21 : gFL RX1 21 RX1 "end" "I" := Or.inl qF_X1_21
theorem fX6_147 : gFL RX6 147 RX1 "end" "I" := Or.inr ⟨_, qFN_X6_147⟩
theorem fX0_100 : gFL RX0 100 RX1 "end" "I" := Or.inr ⟨_, qFN_X0_100⟩
theorem fX1_24 : gFL RX1 24 RX1 "axles" "I" := Or.inl qF_X1_24
theorem fX3_28 : gFL RX3 28 RX1 "axles" "I" := Or.inr ⟨_, qFN_X3_28⟩
theorem fX6_152 : gFL RX6 152 RX1 "axles" "I" := Or.inr ⟨_, qFN_X6_152⟩
theorem fX0_93 : gFL RX0 93 RX1 "axles" "I" := Or.inr ⟨_, qFN_X0_93⟩
theorem fX1_27 : gFL RX1 27 RX1 "weight" "I" := Or.inl qF_X1_27
theorem fX0_87 : gFL RX0 87 RX1 "weight" "I" := Or.inr ⟨_, qFN_X0_87⟩
theorem fX6_155 : gFL RX6 155 RX1 "weight" "I" := Or.inr ⟨_, qFN_X6_155⟩
theorem fX1_30 : gFL RX1 30 RX1 "pace" "I" := Or.inl qF_X1_30
theorem fX6_158 : gFL RX6 158 RX1 "pace" "I" := Or.inr ⟨_, qFN_X6_158⟩
theorem fX0_96 : gFL RX0 96 RX1 "pace" "I" := Or.inr ⟨_, qFN_X0_96⟩
theorem fX1_33 : gFL RX1 33 RX1 "coins" "I" := Or.inl qF_X1_33
theorem fX6_161 : gFL RX6 161 RX1 "coins" "I" := Or.inr ⟨_, qFN_X6_161⟩
theorem fX0_99 : gFL RX0 99 RX1 "coins" "I" := Or.inr ⟨_, qFN_X0_99⟩
theorem fX1_36 : gFL RX1 36 RX1 "isCheat" "Z" := Or.inl qF_X1_36
theorem fX6_164 : gFL RX6 164 RX1 "isCheat" "Z" := Or.inr ⟨_, qFN_X6_164⟩
theorem fX0_190 : gFL RX0 190 RX1 "isCheat" "Z" := Or.inr ⟨_, qFN_X0_190⟩
theorem fX1_40 : gFL RX1 40 RX1 "hasPaid" "Z" := Or.inl qF_X1_40
theorem fX0_173 : gFL RX0 173 RX1 "hasPaid" "Z" := Or.inr ⟨_, qFN_X0_173⟩
theorem fX1_9 : gFL RX1 9 RX1 "state" "I" := Or.inl qF_X1_9
theorem fX0_74 : gFL RX0 74 RX1 "state" "I" := Or.inr ⟨_, qFN_X0_74⟩
theorem fX1_43 : gFL RX1 43 RX1 "way" "I" := Or.inl qF_X1_43
theorem fX0_133 : gFL RX0 133 RX1 "way" "I" := Or.inr ⟨_, qFN_X0_133⟩
theorem fX1_15 : gFL RX1 15 RX1 "overTick" "I" := Or.inl qF_X1_15
theorem fX0_90 : gFL RX0 90 RX1 "overTick" "I" := Or.inr ⟨_, qFN_X0_90⟩
theorem fX0_71 : gFL RX0 71 RX0 "tick" "I" := Or.inl qF_X0_71
theorem fX6_90 : gFL RX6 90 RX0 "tick" "I" := Or.inr ⟨_, qFN_X6_90⟩
theorem fX0_61 : gFL RX0 61 RX0 "direction" "I" := Or.inl qF_X0_61
theorem fX6_136 : gFL RX6 136 RX0 "direction" "I" := Or.inr ⟨_, qFN_X6_136⟩
theorem fX0_9 : gFL RX0 9 RX0 "places" "I" := Or.inl qF_X0_9
theorem fX6_122 : gFL RX6 122 RX0 "places" "I" := Or.inr ⟨_, qFN_X6_122⟩
theorem fX0_15 : gFL RX0 15 RX0 "bears" "I" := Or.inl qF_X0_15
theorem fX6_119 : gFL RX6 119 RX0 "bears" "I" := Or.inr ⟨_, qFN_X6_119⟩
theorem fX0_18 : gFL RX0 18 RX0 "axleToll" "I" := Or.inl qF_X0_18
theorem fX6_127 : gFL RX6 127 RX0 "axleToll" "I" := Or.inr ⟨_, qFN_X6_127⟩
theorem fX0_21 : gFL RX0 21 RX0 "tenToll" "I" := Or.inl qF_X0_21
theorem fX6_130 : gFL RX6 130 RX0 "tenToll" "I" := Or.inr ⟨_, qFN_X6_130⟩
theorem fX0_50 : gFL RX0 50 RX0 "cartCount" "I" := Or.inl qF_X0_50
theorem fX6_258 : gFL RX6 258 RX0 "cartCount" "I" := Or.inr ⟨_, qFN_X6_258⟩
theorem fX0_26 : gFL RX0 26 RX0 "carts" "[LFogBridge$Cart;" := Or.inl qF_X0_26
theorem fX0_33 : gFL RX0 33 RX0 "firstGate" "LFogBridge$Gate;" := Or.inl qF_X0_33
theorem fX0_37 : gFL RX0 37 RX0 "secondGate" "LFogBridge$Gate;" := Or.inl qF_X0_37
theorem fX0_43 : gFL RX0 43 RX0 "crossing" "LFogBridge$Row;" := Or.inl qF_X0_43
theorem fX6_110 : gFL RX6 110 RX0 "crossing" "LFogBridge$Row;" := Or.inr ⟨_, qFN_X6_110⟩
theorem fX6_10 : gFL RX6 10 RX6 "code" "LFogBridge$Code;" := Or.inl qF_X6_10
theorem fX6_16 : gFL RX6 16 RX6 "fog" "[I" := Or.inl qF_X6_16
theorem fX6_23 : gFL RX6 23 RX6 "bridge" "LFogBridge$Bridge;" := Or.inl qF_X6_23
theorem fX6_27 : gFL RX6 27 RX6 "ahead" "LFogBridge$Bridge;" := Or.inl qF_X6_27
theorem fX6_30 : gFL RX6 30 RX6 "branch" "LFogBridge$Bridge;" := Or.inl qF_X6_30
theorem lL_25 : gML RL 25 yX6_setToll := Or.inl qL_L_25
theorem lX6_39 : gML RX6 39 yX6_isBetween := Or.inl qL_X6_39
theorem lL_49 : gML RL 49 yX6_change := Or.inl qL_L_49
theorem lX6_133 : gML RX6 133 yX0_turn := Or.inl qL_X6_133
theorem lL_40 : gML RL 40 yX6_cart := Or.inl qL_L_40
theorem lX6_184 : gML RX6 184 yX0_cartAt := Or.inl qL_X6_184
theorem lX0_53 : gML RX0 53 yX6_isIndex := Or.inr ⟨_, qMN_X0_53⟩
theorem lX6_68 : gML RX6 68 yX6_isIndex := Or.inl qL_X6_68
theorem lX6_190 : gML RX6 190 yX0_tellCart := Or.inl qL_X6_190
theorem lX0_103 : gML RX0 103 yX0_placeOf := Or.inl qL_X0_103
theorem lX0_107 : gML RX0 107 yX0_tollFor := Or.inl qL_X0_107
theorem lL_75 : gML RL 75 yX6_queue := Or.inl qL_L_75
theorem lX6_168 : gML RX6 168 yX0_gateAt := Or.inl qL_X6_168
theorem lX6_196 : gML RX6 196 yX5_at := Or.inl qL_X6_196
theorem lX5_19 : gML RX5 19 yX6_isIndex := Or.inr ⟨_, qMN_X5_19⟩
theorem lL_53 : gML RL 53 yX6_box := Or.inl qL_L_53
theorem lX6_201 : gML RX6 201 yX3_tell := Or.inl qL_X6_201
theorem lL_56 : gML RL 56 yX6_empty := Or.inl qL_L_56
theorem lL_72 : gML RL 72 yX6_pass := Or.inl qL_L_72
theorem lX6_212 : gML RX6 212 yX0_run := Or.inl qL_X6_212
theorem lX0_64 : gML RX0 64 yX0_move := Or.inl qL_X0_64
theorem lX0_83 : gML RX0 83 yX5_at := Or.inl qL_X0_83
theorem lX0_57 : gML RX0 57 yX0_cartAt := Or.inl qL_X0_57
theorem lX0_136 : gML RX0 136 yX0_goOn := Or.inl qL_X0_136
theorem lX0_142 : gML RX0 142 yJ9_min_7cf53 := Or.inl qL_X0_142
theorem lX0_147 : gML RX0 147 yX5_removeFirst := Or.inl qL_X0_147
theorem lX0_139 : gML RX0 139 yX0_goBack := Or.inl qL_X0_139
theorem lX0_150 : gML RX0 150 yJ9_max_7cf53 := Or.inl qL_X0_150
theorem lX0_153 : gML RX0 153 yX0_gateAt := Or.inl qL_X0_153
theorem lX0_163 : gML RX0 163 yX5_addFirst := Or.inl qL_X0_163
theorem lX0_166 : gML RX0 166 yX5_removeLast := Or.inl qL_X0_166
theorem lX0_68 : gML RX0 68 yX0_comeOn := Or.inl qL_X0_68
theorem lX0_169 : gML RX0 169 yX0_hasRoomFor := Or.inl qL_X0_169
theorem lX0_184 : gML RX0 184 yX5_last := Or.inl qL_X0_184
theorem lX5_23 : gML RX5 23 yX5_at := Or.inl qL_X5_23
theorem lX0_187 : gML RX0 187 yX0_weightOnBridge := Or.inl qL_X0_187
theorem lX0_177 : gML RX0 177 yX0_pays := Or.inl qL_X0_177
theorem lX0_193 : gML RX0 193 yX3_take := Or.inl qL_X0_193
theorem lX0_181 : gML RX0 181 yX5_addLast := Or.inl qL_X0_181
theorem lL_36 : gML RL 36 yX6_count := Or.inl qL_L_36
theorem lX6_217 : gML RX6 217 yX6_countOf := Or.inl qL_X6_217
theorem lX6_261 : gML RX6 261 yX0_cartsIn := Or.inl qL_X6_261
theorem lX6_264 : gML RX6 264 yX0_weightOnBridge := Or.inl qL_X6_264
theorem lL_69 : gML RL 69 yX6_over := Or.inl qL_L_69
theorem lX6_222 : gML RX6 222 yX0_copyFrom := Or.inl qL_X6_222
theorem lX0_123 : gML RX0 123 yX1_copyFrom := Or.inl qL_X0_123
theorem lX0_127 : gML RX0 127 yX3_copyFrom := Or.inl qL_X0_127
theorem lX3_48 : gML RX3 48 yX5_copyFrom := Or.inl qL_X3_48
theorem lX0_130 : gML RX0 130 yX5_copyFrom := Or.inl qL_X0_130
theorem lX6_226 : gML RX6 226 yX0_isOver := Or.inl qL_X6_226
theorem lL_66 : gML RL 66 yX6_keep := Or.inl qL_L_66
theorem lL_63 : gML RL 63 yX6_foresee := Or.inl qL_L_63
theorem lX6_231 : gML RX6 231 yX0_coinsInBoxes := Or.inl qL_X6_231
theorem lL_59 : gML RL 59 yX6_digest := Or.inl qL_L_59
theorem lX6_241 : gML RX6 241 yX6_mixed := Or.inl qL_X6_241
theorem lX6_245 : gML RX6 245 yX2_mixedInto := Or.inl qL_X6_245
theorem lX2_22 : gML RX2 22 yX2_ringsOf := Or.inl qL_X2_22
theorem lX2_32 : gML RX2 32 yX6_isIndex := Or.inr ⟨_, qMN_X2_32⟩
theorem lX2_54 : gML RX2 54 yX6_mixed := Or.inr ⟨_, qMN_X2_54⟩
theorem lX6_249 : gML RX6 249 yX0_mixedInto := Or.inl qL_X6_249
theorem lX0_111 : gML RX0 111 yX3_mixedInto := Or.inl qL_X0_111
theorem lX3_37 : gML RX3 37 yX3_tell := Or.inl qL_X3_37
theorem lX3_41 : gML RX3 41 yX6_mixed := Or.inr ⟨_, qMN_X3_41⟩
theorem lX3_45 : gML RX3 45 yX5_at := Or.inl qL_X3_45
theorem lX0_115 : gML RX0 115 yX0_tellCart := Or.inl qL_X0_115
theorem lX0_119 : gML RX0 119 yX6_mixed := Or.inr ⟨_, qMN_X0_119⟩
theorem lL_18 : gML RL 18 yL_below := Or.inl qL_L_18
theorem lL_12 : gML RL 12 yL_cell := Or.inl qL_L_12
theorem lL_32 : gML RL 32 yL_bridge := Or.inl qL_L_32
theorem lL_11 : gML RL 11 yX6_init := Or.inl qL_L_11
theorem lX6_1 : gML RX6 1 objectInit := Or.inl qL_X6_1
theorem lX6_9 : gML RX6 9 yX2_init := Or.inr ⟨_, qMN_X6_9⟩
theorem lX2_3 : gML RX2 3 objectInit := Or.inl qL_X2_3
theorem lX6_22 : gML RX6 22 yX0_init := Or.inl qL_X6_22
theorem lX0_3 : gML RX0 3 objectInit := Or.inl qL_X0_3
theorem lX0_32 : gML RX0 32 yX3_init := Or.inr ⟨_, qMN_X0_32⟩
theorem lX3_3 : gML RX3 3 objectInit := Or.inl qL_X3_3
theorem lX3_11 : gML RX3 11 yX5_init := Or.inr ⟨_, qMN_X3_11⟩
theorem lX5_3 : gML RX5 3 objectInit := Or.inl qL_X5_3
theorem lX0_42 : gML RX0 42 yX5_init := Or.inr ⟨_, qMN_X0_42⟩
theorem lX0_47 : gML RX0 47 yX1_init := Or.inl qL_X0_47
theorem lX1_3 : gML RX1 3 objectInit := Or.inl qL_X1_3
theorem lL_22 : gML RL 22 yX6_rebuild := Or.inl qL_L_22
theorem lL_28 : gML RL 28 yX6_come := Or.inl qL_L_28
theorem lX6_141 : gML RX6 141 yX0_newCart := Or.inl qL_X6_141
theorem lX6_180 : gML RX6 180 yX5_addLast := Or.inl qL_X6_180
theorem mX6_setToll : gCV yX6_setToll cX6_setToll 4 (some .int) 2 := ⟨qI_yX6_setToll, qS_yX6_setToll, qC_yX6_setToll, qN_X6, by decide +kernel, by decide +kernel⟩
theorem mX6_isBetween : gCS yX6_isBetween cX6_isBetween 3 (some .boolean) 3 := ⟨qT_yX6_isBetween, qC_yX6_isBetween, qN_X6, by decide +kernel, by decide +kernel⟩
theorem mX6_change : gCV yX6_change cX6_change 1 (some .int) 0 := ⟨qI_yX6_change, qS_yX6_change, qC_yX6_change, qN_X6, by decide +kernel, by decide +kernel⟩
theorem mX0_turn : gCV yX0_turn cX0_turn 1 none 0 := ⟨qI_yX0_turn, qS_yX0_turn, qC_yX0_turn, qN_X0, by decide +kernel, by decide +kernel⟩
theorem mX6_cart : gCV yX6_cart cX6_cart 4 (some .int) 2 := ⟨qI_yX6_cart, qS_yX6_cart, qC_yX6_cart, qN_X6, by decide +kernel, by decide +kernel⟩
theorem mX0_cartAt : gCV yX0_cartAt cX0_cartAt 2 (some (.object "FogBridge$Cart")) 1 := ⟨qI_yX0_cartAt, qS_yX0_cartAt, qC_yX0_cartAt, qN_X0, by decide +kernel, by decide +kernel⟩
theorem mX6_isIndex : gCS yX6_isIndex cX6_isIndex 2 (some .boolean) 2 := ⟨qT_yX6_isIndex, qC_yX6_isIndex, qN_X6, by decide +kernel, by decide +kernel⟩
theorem mX0_tellCart : gCV yX0_tellCart cX0_tellCart 3 (some .int) 2 := ⟨qI_yX0_tellCart, qS_yX0_tellCart, qC_yX0_tellCart, qN_X0, by decide +kernel, by decide +kernel⟩
theorem mX0_placeOf : gCV yX0_placeOf cX0_placeOf 2 (some .int) 1 := ⟨qI_yX0_placeOf, qS_yX0_placeOf, qC_yX0_placeOf, qN_X0, by decide +kernel, by decide +kernel⟩
theorem mX0_tollFor : gCV yX0_tollFor cX0_tollFor 3 (some .int) 2 := ⟨qI_yX0_tollFor, qS_yX0_tollFor, qC_yX0_tollFor, qN_X0, by decide +kernel, by decide +kernel⟩
theorem mX6_queue : gCV yX6_queue cX6_queue 3 (some .int) 2 := ⟨qI_yX6_queue, qS_yX6_queue, qC_yX6_queue, qN_X6, by decide +kernel, by decide +kernel⟩
theorem mX0_gateAt : gCV yX0_gateAt cX0_gateAt 2 (some (.object "FogBridge$Gate")) 1 := ⟨qI_yX0_gateAt, qS_yX0_gateAt, qC_yX0_gateAt, qN_X0, by decide +kernel, by decide +kernel⟩
theorem mX5_at : gCV yX5_at cX5_at 2 (some .int) 1 := ⟨qI_yX5_at, qS_yX5_at, qC_yX5_at, qN_X5, by decide +kernel, by decide +kernel⟩
theorem mX6_box : gCV yX6_box cX6_box 3 (some .int) 2 := ⟨qI_yX6_box, qS_yX6_box, qC_yX6_box, qN_X6, by decide +kernel, by decide +kernel⟩
theorem mX3_tell : gCV yX3_tell cX3_tell 2 (some .int) 1 := ⟨qI_yX3_tell, qS_yX3_tell, qC_yX3_tell, qN_X3, by decide +kernel, by decide +kernel⟩
theorem mX6_empty : gCV yX6_empty cX6_empty 4 (some .int) 1 := ⟨qI_yX6_empty, qS_yX6_empty, qC_yX6_empty, qN_X6, by decide +kernel, by decide +kernel⟩
theorem mX6_pass : gCV yX6_pass cX6_pass 2 (some .int) 1 := ⟨qI_yX6_pass, qS_yX6_pass, qC_yX6_pass, qN_X6, by decide +kernel, by decide +kernel⟩
theorem mX0_run : gCV yX0_run cX0_run 4 (some .int) 1 := ⟨qI_yX0_run, qS_yX0_run, qC_yX0_run, qN_X0, by decide +kernel, by decide +kernel⟩
theorem mX0_move : gCV yX0_move cX0_move 2 (some .int) 0 := ⟨qI_yX0_move, qS_yX0_move, qC_yX0_move, qN_X0, by decide +kernel, by decide +kernel⟩
theorem mX0_goOn : gCV yX0_goOn cX0_goOn 6 (some .int) 0 := ⟨qI_yX0_goOn, qS_yX0_goOn, qC_yX0_goOn, qN_X0, by decide +kernel, by decide +kernel⟩
theorem mJ9_min_7cf53 : gCS yJ9_min_7cf53 cJ9_min_7cf53 2 (some .int) 2 := ⟨qT_yJ9_min_7cf53, qC_yJ9_min_7cf53, qN_J9, by decide +kernel, by decide +kernel⟩
theorem mX5_removeFirst : gCV yX5_removeFirst cX5_removeFirst 2 none 0 := ⟨qI_yX5_removeFirst, qS_yX5_removeFirst, qC_yX5_removeFirst, qN_X5, by decide +kernel, by decide +kernel⟩
theorem mX0_goBack : gCV yX0_goBack cX0_goBack 5 none 0 := ⟨qI_yX0_goBack, qS_yX0_goBack, qC_yX0_goBack, qN_X0, by decide +kernel, by decide +kernel⟩
theorem mJ9_max_7cf53 : gCS yJ9_max_7cf53 cJ9_max_7cf53 2 (some .int) 2 := ⟨qT_yJ9_max_7cf53, qC_yJ9_max_7cf53, qN_J9, by decide +kernel, by decide +kernel⟩
theorem mX5_addFirst : gCV yX5_addFirst cX5_addFirst 3 none 1 := ⟨qI_yX5_addFirst, qS_yX5_addFirst, qC_yX5_addFirst, qN_X5, by decide +kernel, by decide +kernel⟩
theorem mX5_removeLast : gCV yX5_removeLast cX5_removeLast 1 none 0 := ⟨qI_yX5_removeLast, qS_yX5_removeLast, qC_yX5_removeLast, qN_X5, by decide +kernel, by decide +kernel⟩
theorem mX0_comeOn : gCV yX0_comeOn cX0_comeOn 3 none 0 := ⟨qI_yX0_comeOn, qS_yX0_comeOn, qC_yX0_comeOn, qN_X0, by decide +kernel, by decide +kernel⟩
theorem mX0_hasRoomFor : gCV yX0_hasRoomFor cX0_hasRoomFor 4 (some .boolean) 1 := ⟨qI_yX0_hasRoomFor, qS_yX0_hasRoomFor, qC_yX0_hasRoomFor, qN_X0, by decide +kernel, by decide +kernel⟩
theorem mX5_last : gCV yX5_last cX5_last 1 (some .int) 0 := ⟨qI_yX5_last, qS_yX5_last, qC_yX5_last, qN_X5, by decide +kernel, by decide +kernel⟩
theorem mX0_weightOnBridge : gCV yX0_weightOnBridge cX0_weightOnBridge 4 (some .int) 0 := ⟨qI_yX0_weightOnBridge, qS_yX0_weightOnBridge, qC_yX0_weightOnBridge, qN_X0, by decide +kernel, by decide +kernel⟩
theorem mX0_pays : gCV yX0_pays cX0_pays 5 (some .boolean) 2 := ⟨qI_yX0_pays, qS_yX0_pays, qC_yX0_pays, qN_X0, by decide +kernel, by decide +kernel⟩
theorem mX3_take : gCV yX3_take cX3_take 4 none 3 := ⟨qI_yX3_take, qS_yX3_take, qC_yX3_take, qN_X3, by decide +kernel, by decide +kernel⟩
theorem mX5_addLast : gCV yX5_addLast cX5_addLast 2 none 1 := ⟨qI_yX5_addLast, qS_yX5_addLast, qC_yX5_addLast, qN_X5, by decide +kernel, by decide +kernel⟩
theorem mX6_count : gCV yX6_count cX6_count 2 (some .int) 1 := ⟨qI_yX6_count, qS_yX6_count, qC_yX6_count, qN_X6, by decide +kernel, by decide +kernel⟩
theorem mX6_countOf : gCV yX6_countOf cX6_countOf 2 (some .int) 1 := ⟨qI_yX6_countOf, qS_yX6_countOf, qC_yX6_countOf, qN_X6, by decide +kernel, by decide +kernel⟩
theorem mX0_cartsIn : gCV yX0_cartsIn cX0_cartsIn 5 (some .int) 1 := ⟨qI_yX0_cartsIn, qS_yX0_cartsIn, qC_yX0_cartsIn, qN_X0, by decide +kernel, by decide +kernel⟩
theorem mX6_over : gCV yX6_over cX6_over 3 (some .int) 1 := ⟨qI_yX6_over, qS_yX6_over, qC_yX6_over, qN_X6, by decide +kernel, by decide +kernel⟩
theorem mX0_copyFrom : gCV yX0_copyFrom cX0_copyFrom 5 none 1 := ⟨qI_yX0_copyFrom, qS_yX0_copyFrom, qC_yX0_copyFrom, qN_X0, by decide +kernel, by decide +kernel⟩
theorem mX1_copyFrom : gCV yX1_copyFrom cX1_copyFrom 2 none 1 := ⟨qI_yX1_copyFrom, qS_yX1_copyFrom, qC_yX1_copyFrom, qN_X1, by decide +kernel, by decide +kernel⟩
theorem mX3_copyFrom : gCV yX3_copyFrom cX3_copyFrom 2 none 1 := ⟨qI_yX3_copyFrom, qS_yX3_copyFrom, qC_yX3_copyFrom, qN_X3, by decide +kernel, by decide +kernel⟩
theorem mX5_copyFrom : gCV yX5_copyFrom cX5_copyFrom 3 none 1 := ⟨qI_yX5_copyFrom, qS_yX5_copyFrom, qC_yX5_copyFrom, qN_X5, by decide +kernel, by decide +kernel⟩
theorem mX0_isOver : gCV yX0_isOver cX0_isOver 3 (some .boolean) 1 := ⟨qI_yX0_isOver, qS_yX0_isOver, qC_yX0_isOver, qN_X0, by decide +kernel, by decide +kernel⟩
theorem mX6_keep : gCV yX6_keep cX6_keep 6 (some .int) 0 := ⟨qI_yX6_keep, qS_yX6_keep, qC_yX6_keep, qN_X6, by decide +kernel, by decide +kernel⟩
theorem mX6_foresee : gCV yX6_foresee cX6_foresee 4 (some .int) 2 := ⟨qI_yX6_foresee, qS_yX6_foresee, qC_yX6_foresee, qN_X6, by decide +kernel, by decide +kernel⟩
theorem mX0_coinsInBoxes : gCV yX0_coinsInBoxes cX0_coinsInBoxes 1 (some .int) 0 := ⟨qI_yX0_coinsInBoxes, qS_yX0_coinsInBoxes, qC_yX0_coinsInBoxes, qN_X0, by decide +kernel, by decide +kernel⟩
theorem mX6_digest : gCV yX6_digest cX6_digest 4 (some .long) 0 := ⟨qI_yX6_digest, qS_yX6_digest, qC_yX6_digest, qN_X6, by decide +kernel, by decide +kernel⟩
theorem mX6_mixed : gCS yX6_mixed cX6_mixed 3 (some .long) 2 := ⟨qT_yX6_mixed, qC_yX6_mixed, qN_X6, by decide +kernel, by decide +kernel⟩
theorem mX2_mixedInto : gCV yX2_mixedInto cX2_mixedInto 6 (some .long) 1 := ⟨qI_yX2_mixedInto, qS_yX2_mixedInto, qC_yX2_mixedInto, qN_X2, by decide +kernel, by decide +kernel⟩
theorem mX2_ringsOf : gCV yX2_ringsOf cX2_ringsOf 2 (some .int) 1 := ⟨qI_yX2_ringsOf, qS_yX2_ringsOf, qC_yX2_ringsOf, qN_X2, by decide +kernel, by decide +kernel⟩
theorem mX0_mixedInto : gCV yX0_mixedInto cX0_mixedInto 8 (some .long) 1 := ⟨qI_yX0_mixedInto, qS_yX0_mixedInto, qC_yX0_mixedInto, qN_X0, by decide +kernel, by decide +kernel⟩
theorem mX3_mixedInto : gCV yX3_mixedInto cX3_mixedInto 6 (some .long) 1 := ⟨qI_yX3_mixedInto, qS_yX3_mixedInto, qC_yX3_mixedInto, qN_X3, by decide +kernel, by decide +kernel⟩
theorem mX6_rebuild : gCV yX6_rebuild cX6_rebuild 4 (some .int) 2 := ⟨qI_yX6_rebuild, qS_yX6_rebuild, qC_yX6_rebuild, qN_X6, by decide +kernel, by decide +kernel⟩
theorem mX6_come : gCV yX6_come cX6_come 8 (some .int) 6 := ⟨qI_yX6_come, qS_yX6_come, qC_yX6_come, qN_X6, by decide +kernel, by decide +kernel⟩
theorem mX0_newCart : gCV yX0_newCart cX0_newCart 1 (some (.object "FogBridge$Cart")) 0 := ⟨qI_yX0_newCart, qS_yX0_newCart, qC_yX0_newCart, qN_X0, by decide +kernel, by decide +kernel⟩
end
section
/-! rows of cart numbers -/
theorem ix1 {j k : Nat} (h : j < k) (hk : k < 2 ^ 31) : 0 ≤ nI j ∧ nI j < nI k := ⟨nI_pos' (by omega), nI_lt h hk⟩
theorem ixle {j k : Nat} (h : nI k ≤ nI j) (hj : j < 2 ^ 31) (hk : k < 2 ^ 31) : k ≤ j := (nI_leI hk hj).mp h
theorem ixnle {j k : Nat} (h : ¬ nI k ≤ nI j) (hj : j < 2 ^ 31) (hk : k < 2 ^ 31) : j < k := Nat.lt_of_not_le fun q => h ((nI_leI hk hj).mpr q)
theorem ixlt {j k : Nat} (h : nI j < nI k) (hj : j < 2 ^ 31) (hk : k < 2 ^ 31) : j < k := (nI_ltI hj hk).mp h
theorem ixnlt {j k : Nat} (h : ¬ nI j < nI k) (hj : j < 2 ^ 31) (hk : k < 2 ^ 31) : k ≤ j := Nat.le_of_not_lt fun q => h ((nI_ltI hj hk).mpr q)
theorem ixle0 {j : Nat} (h : nI j ≤ 0) (hj : j < 2 ^ 31) : j = 0 := Nat.le_zero.mp (ixle (j := 0) (k := j) h (by decide) hj)
theorem ixnle0 {j : Nat} (h : ¬ nI j ≤ 0) (hj : j < 2 ^ 31) : 0 < j := ixnle (j := 0) (k := j) h (by decide) hj
def RowIs (V : gMem) (b r : Nat) (xs : List Nat) : Prop := V 13 b r 1 = nI xs.length ∧ xs.length ≤ 16 ∧ ∀ (j : Nat) (h : j < xs.length), V 14 b r j = nI xs[j]
/-- nothing but one row of a bridge is another one -/
def rowmod (V V' : gMem) (b r : Nat) : Prop := ∀ K b' i', ¬ ((K = 13 ∨ K = 14) ∧ b' = b ∧ i' = r) → V' K b' i' = V K b' i'
def lat (xs : List Nat) (j : Nat) : Int32 := match xs[j]? with
  | some c => nI c
  | none => -1
theorem lat_in {xs : List Nat} {j : Nat} (h : j < xs.length) : lat xs j = nI xs[j] := by simp [lat, h]
theorem lat_out {xs : List Nat} {j : Nat} (h : xs.length ≤ j) : lat xs j = -1 := by simp [lat, h]

abbrev rmX6_isIndex : Room := { frames := 0, cells := 0, slots := 0, locals := 0 }
set_option maxRecDepth 20000 in
theorem k_isIndex1 {l : Launch} {B : gB} (hI : gI B) (V : gMem) (x : Int32) (y : Int32) (h0 : 0 ≤ x) (h1 : x < y) : gM l B yX6_isIndex cX6_isIndex 2 (some .boolean) rmX6_isIndex [.int x, .int y] V (fun v V' => v = some (.int 1) ∧ V' = V) := by
  refine gM_of (own := RX6) (L := [(0, .int x), (1, .int y)]) (by decide +kernel) rfl hI (Nat.le_of_ble_eq_true rfl) rfl ?_
  intro Z hnL hR X F
  refine g_iload_n X 0 rfl dX6_isIndex_0 ?_
  refine g_if_lt X 13 (by decide) dX6_isIndex_1 (fun c1 => ?_) (fun c1 => ?_)
  · first | exact absurd (Int32.not_lt.mpr h0) c1 | exact absurd c1 (Int32.not_lt.mpr h0)
  · refine g_iload_n X 0 rfl dX6_isIndex_4 ?_
    refine g_iload_n X 1 rfl dX6_isIndex_5 ?_
    refine g_icmp_ge X 13 (by decide) dX6_isIndex_6 (fun c2 => ?_) (fun c2 => ?_)
    · first | exact absurd (Int32.not_le.mpr h1) c2 | exact absurd c2 (Int32.not_le.mpr h1)
    · refine g_iconst X 1 (by decide) dX6_isIndex_9 ?_
      refine g_goto X 14 (by decide) dX6_isIndex_10 ?_
      refine g_zret X F rfl ?_ rfl dX6_isIndex_14
      exact ⟨rfl, rfl⟩

set_option maxRecDepth 20000 in
theorem k_isIndexN {l : Launch} {B : gB} (hI : gI B) (V : gMem) (x : Int32) (y : Int32) (h0 : x < 0) : gM l B yX6_isIndex cX6_isIndex 2 (some .boolean) rmX6_isIndex [.int x, .int y] V (fun v V' => v = some (.int 0) ∧ V' = V) := by
  refine gM_of (own := RX6) (L := [(0, .int x), (1, .int y)]) (by decide +kernel) rfl hI (Nat.le_of_ble_eq_true rfl) rfl ?_
  intro Z hnL hR X F
  refine g_iload_n X 0 rfl dX6_isIndex_0 ?_
  refine g_if_lt X 13 (by decide) dX6_isIndex_1 (fun c1 => ?_) (fun c1 => ?_)
  · refine g_iconst X 0 (by decide) dX6_isIndex_13 ?_
    refine g_zret X F rfl ?_ rfl dX6_isIndex_14
    exact ⟨rfl, rfl⟩
  · first | exact absurd (h0) c1 | exact absurd c1 (h0)

set_option maxRecDepth 20000 in
theorem k_isIndexG {l : Launch} {B : gB} (hI : gI B) (V : gMem) (x : Int32) (y : Int32) (h0 : 0 ≤ x) (h1 : y ≤ x) : gM l B yX6_isIndex cX6_isIndex 2 (some .boolean) rmX6_isIndex [.int x, .int y] V (fun v V' => v = some (.int 0) ∧ V' = V) := by
  refine gM_of (own := RX6) (L := [(0, .int x), (1, .int y)]) (by decide +kernel) rfl hI (Nat.le_of_ble_eq_true rfl) rfl ?_
  intro Z hnL hR X F
  refine g_iload_n X 0 rfl dX6_isIndex_0 ?_
  refine g_if_lt X 13 (by decide) dX6_isIndex_1 (fun c1 => ?_) (fun c1 => ?_)
  · first | exact absurd (Int32.not_lt.mpr h0) c1 | exact absurd c1 (Int32.not_lt.mpr h0)
  · refine g_iload_n X 0 rfl dX6_isIndex_4 ?_
    refine g_iload_n X 1 rfl dX6_isIndex_5 ?_
    refine g_icmp_ge X 13 (by decide) dX6_isIndex_6 (fun c2 => ?_) (fun c2 => ?_)
    · refine g_iconst X 0 (by decide) dX6_isIndex_13 ?_
      refine g_zret X F rfl ?_ rfl dX6_isIndex_14
      exact ⟨rfl, rfl⟩
    · first | exact absurd (h1) c2 | exact absurd c2 (h1)

abbrev rmX5_at : Room := { frames := 1, cells := 0, slots := 0, locals := 21 }
set_option maxRecDepth 20000 in
theorem k_at {l : Launch} {B : gB} (hI : gI B) (V : gMem) (b : Nat) (r : Nat) (xs : List Nat) (j : Nat) (hb : b < 3) (hr : r < 3) (hx : RowIs V b r xs) (hj : j < 2 ^ 31) : gM l B yX5_at cX5_at 2 (some .int) rmX5_at [.ref (B.2.1 13 b r), .int (nI j)] V (fun v V' => v = some (.int (lat xs j)) ∧ V' = V) := by
  refine gM_of (own := RX5) (L := [(0, .ref (B.2.1 13 b r)), (1, .int (nI j))]) (by decide +kernel) rfl hI (Nat.le_of_ble_eq_true rfl) rfl ?_
  intro Z hnL hR X F
  refine g_iload_n X 1 rfl dX5_at_0 ?_
  refine g_aload_n X 0 rfl dX5_at_1 ?_
  refine gg_X5_size X (gP_13 (by first | assumption | decide | omega) (by first | assumption | decide | omega)) fX5_15 dX5_at_2 ?_
  refine gG_top (nI xs.length) (hx.1) ?_
  refine g_icmp_ge X 29 (by decide) dX5_at_5 (fun c1 => ?_) (fun c1 => ?_)
  · refine g_iconst X (-1) (by decide) dX5_at_29 ?_
    refine g_iret X F ?_ rfl dX5_at_30
    exact ⟨by rw [lat_out (ixle c1 hj (by have := hx.2.1; omega))], rfl⟩
  · have hj2 : j < xs.length := ixnle c1 hj (by have := hx.2.1; omega)
    have hj3 : j < 16 := by have := hx.2.1; omega
    refine g_iload_n X 1 rfl dX5_at_8 ?_
    refine g_aload_n X 0 rfl dX5_at_9 ?_
    refine gg_X5_carts X (gP_13 (by first | assumption | decide | omega) (by first | assumption | decide | omega)) fX5_9 dX5_at_10 ?_
    refine g_alen X (v := 16) (gP_14 (by first | assumption | decide | omega) (by first | assumption | decide | omega)) rfl (by decide) dX5_at_13 ?_
    refine g_callS X hR (As := [.int (nI j), .int 16]) (rest := []) mX6_isIndex lX5_19 (k_isIndex1 hI V (nI j) 16 (nI_pos' (by omega)) (nI_lt (b := 16) hj3 (by decide))) rfl rfl (Nat.le_of_ble_eq_true rfl) ⟨Nat.le_of_ble_eq_true rfl, Nat.le_of_ble_eq_true rfl, Nat.le_of_ble_eq_true rfl, Nat.le_of_ble_eq_true rfl⟩ dX5_at_14 (fun r2 V3 hz_4 => ?_)
    refine gG_ret hz_4.1 hz_4.2 ?_
    refine gG_st [.int 1] rfl ?_
    refine g_if_eq X 29 (by decide) dX5_at_17 (fun c5 => ?_) (fun c5 => ?_)
    ·  exact absurd c5 (by decide)
    · refine g_aload_n X 0 rfl dX5_at_20 ?_
      refine gg_X5_carts X (gP_13 (by first | assumption | decide | omega) (by first | assumption | decide | omega)) fX5_9 dX5_at_21 ?_
      refine g_iload_n X 1 rfl dX5_at_24 ?_
      refine g_ialdN X (j) rfl hj3 (by decide) (gP_14 (by first | assumption | decide | omega) (by first | assumption | decide | omega)) rfl dX5_at_25 ?_
      refine g_goto X 30 (by decide) dX5_at_26 ?_
      refine g_iret X F ?_ rfl dX5_at_30
      exact ⟨by rw [lat_in hj2, hx.2.2 j hj2], rfl⟩

set_option maxRecDepth 20000 in
theorem k_at_m1 {l : Launch} {B : gB} (hI : gI B) (V : gMem) (b : Nat) (r : Nat) (xs : List Nat) (hb : b < 3) (hr : r < 3) (hx : RowIs V b r xs) : gM l B yX5_at cX5_at 2 (some .int) rmX5_at [.ref (B.2.1 13 b r), .int ((-1))] V (fun v V' => v = some (.int (-1)) ∧ V' = V) := by
  refine gM_of (own := RX5) (L := [(0, .ref (B.2.1 13 b r)), (1, .int ((-1)))]) (by decide +kernel) rfl hI (Nat.le_of_ble_eq_true rfl) rfl ?_
  intro Z hnL hR X F
  refine g_iload_n X 1 rfl dX5_at_0 ?_
  refine g_aload_n X 0 rfl dX5_at_1 ?_
  refine gg_X5_size X (gP_13 (by first | assumption | decide | omega) (by first | assumption | decide | omega)) fX5_15 dX5_at_2 ?_
  refine gG_top (nI xs.length) (hx.1) ?_
  refine g_icmp_ge X 29 (by decide) dX5_at_5 (fun c1 => ?_) (fun c1 => ?_)
  · first | exact absurd (fun q => absurd (Int32.le_trans (nI_pos' (by have := hx.2.1; omega)) q) (by decide)) c1 | exact absurd c1 (fun q => absurd (Int32.le_trans (nI_pos' (by have := hx.2.1; omega)) q) (by decide))
  · refine g_iload_n X 1 rfl dX5_at_8 ?_
    refine g_aload_n X 0 rfl dX5_at_9 ?_
    refine gg_X5_carts X (gP_13 (by first | assumption | decide | omega) (by first | assumption | decide | omega)) fX5_9 dX5_at_10 ?_
    refine g_alen X (v := 16) (gP_14 (by first | assumption | decide | omega) (by first | assumption | decide | omega)) rfl (by decide) dX5_at_13 ?_
    refine g_callS X hR (As := [.int ((-1)), .int 16]) (rest := []) mX6_isIndex lX5_19 (k_isIndexN hI V (-1) 16 (by decide)) rfl rfl (Nat.le_of_ble_eq_true rfl) ⟨Nat.le_of_ble_eq_true rfl, Nat.le_of_ble_eq_true rfl, Nat.le_of_ble_eq_true rfl, Nat.le_of_ble_eq_true rfl⟩ dX5_at_14 (fun r2 V3 hz_4 => ?_)
    refine gG_ret hz_4.1 hz_4.2 ?_
    refine gG_st [.int 0] rfl ?_
    refine g_if_eq X 29 (by decide) dX5_at_17 (fun c5 => ?_) (fun c5 => ?_)
    · refine g_iconst X (-1) (by decide) dX5_at_29 ?_
      refine g_iret X F ?_ rfl dX5_at_30
      exact ⟨rfl, rfl⟩
    ·  exact absurd c5 (by decide)

def llast (xs : List Nat) : Int32 := if xs.length = 0 then -1 else lat xs (xs.length - 1)
theorem nI_dec {k : Nat} (h : 0 < k) : nI k - 1 = nI (k - 1) := by
  obtain ⟨j, rfl⟩ : ∃ j, k = j + 1 := ⟨k - 1, by omega⟩
  exact nI_pred j
theorem RowIs.lt {V : gMem} {b r : Nat} {xs : List Nat} (h : RowIs V b r xs) : xs.length < 2 ^ 31 := by have := h.2.1; omega
theorem gup_ne {V : gMem} {K b i j : Nat} {x : Int32} {K' b' i' j' : Nat} (h : ¬ (K' = K ∧ b' = b ∧ i' = i ∧ j' = j)) : gup V K b i j x K' b' i' j' = V K' b' i' j' := by
  simp only [gup]
  rw [if_neg h]
theorem gup_eq {V : gMem} {K b i j : Nat} {x : Int32} : gup V K b i j x K b i j = x := by simp [gup]
theorem rowmod.rf {V : gMem} {b r : Nat} : rowmod V V b r := fun _ _ _ _ => rfl
theorem rowmod.trans {V V1 V2 : gMem} {b r : Nat} (h : rowmod V V1 b r) (h2 : rowmod V1 V2 b r) : rowmod V V2 b r := fun K b' i' hn => (h2 K b' i' hn).trans (h K b' i' hn)
theorem rowmod.up13 {V V1 : gMem} {b r j : Nat} {x : Int32} (h : rowmod V V1 b r) : rowmod V (gup V1 13 b r j x) b r := fun K b' i' hn => (gup_off V1 x (fun q => hn ⟨Or.inl q.1, q.2.1, q.2.2⟩)).trans (h K b' i' hn)
theorem rowmod.up14 {V V1 : gMem} {b r j : Nat} {x : Int32} (h : rowmod V V1 b r) : rowmod V (gup V1 14 b r j x) b r := fun K b' i' hn => (gup_off V1 x (fun q => hn ⟨Or.inr q.1, q.2.1, q.2.2⟩)).trans (h K b' i' hn)

abbrev rmX5_last : Room := { frames := 2, cells := 0, slots := 0, locals := 42 }
set_option maxRecDepth 20000 in
theorem k_last {l : Launch} {B : gB} (hI : gI B) (V : gMem) (b : Nat) (r : Nat) (xs : List Nat) (hb : b < 3) (hr : r < 3) (hx : RowIs V b r xs) : gM l B yX5_last cX5_last 1 (some .int) rmX5_last [.ref (B.2.1 13 b r)] V (fun v V' => v = some (.int (llast xs)) ∧ V' = V) := by
  refine gM_of (own := RX5) (L := [(0, .ref (B.2.1 13 b r))]) (by decide +kernel) rfl hI (Nat.le_of_ble_eq_true rfl) rfl ?_
  intro Z hnL hR X F
  refine g_aload_n X 0 rfl dX5_last_0 ?_
  refine g_aload_n X 0 rfl dX5_last_1 ?_
  refine gg_X5_size X (gP_13 (by first | assumption | decide | omega) (by first | assumption | decide | omega)) fX5_15 dX5_last_2 ?_
  refine g_iconst X 1 (by decide) dX5_last_5 ?_
  refine g_isub X dX5_last_6 ?_
  by_cases he : xs.length = 0
  · refine gG_top (-1) (by rw [hx.1, he]; rfl) ?_
    refine g_callV X hR (rest := []) mX5_at lX5_23 (k_at_m1 hI V b r xs (by first | assumption | decide | omega) (by first | assumption | decide | omega) (by first | assumption | decide | omega)) rfl rfl (Nat.le_of_ble_eq_true rfl) (gP_13 (by first | assumption | decide | omega) (by first | assumption | decide | omega)) rfl rfl rfl ⟨Nat.le_of_ble_eq_true rfl, Nat.le_of_ble_eq_true rfl, Nat.le_of_ble_eq_true rfl, Nat.le_of_ble_eq_true rfl⟩ dX5_last_7 (fun r1 V2 hz_3 => ?_)
    refine gG_ret hz_3.1 hz_3.2 ?_
    refine gG_st [.int ((-1))] rfl ?_
    refine g_iret X F ?_ rfl dX5_last_10
    exact ⟨by rw [show llast xs = -1 from if_pos he], rfl⟩
  · refine gG_top (nI (xs.length - 1)) (by rw [hx.1]; exact nI_dec (by omega)) ?_
    refine g_callV X hR (rest := []) mX5_at lX5_23 (k_at hI V b r xs (xs.length - 1) (by first | assumption | decide | omega) (by first | assumption | decide | omega) (by first | assumption | decide | omega) (by have := hx.lt; omega)) rfl rfl (Nat.le_of_ble_eq_true rfl) (gP_13 (by first | assumption | decide | omega) (by first | assumption | decide | omega)) rfl rfl rfl ⟨Nat.le_of_ble_eq_true rfl, Nat.le_of_ble_eq_true rfl, Nat.le_of_ble_eq_true rfl, Nat.le_of_ble_eq_true rfl⟩ dX5_last_7 (fun r4 V5 hz_6 => ?_)
    refine gG_ret hz_6.1 hz_6.2 ?_
    refine gG_st [.int (lat xs (xs.length - 1))] rfl ?_
    refine g_iret X F ?_ rfl dX5_last_10
    exact ⟨by rw [show llast xs = lat xs (xs.length - 1) from if_neg he], rfl⟩

abbrev rmX5_addLast : Room := { frames := 1, cells := 0, slots := 0, locals := 21 }
set_option maxRecDepth 20000 in
theorem k_addLast {l : Launch} {B : gB} (hI : gI B) (V : gMem) (b : Nat) (r : Nat) (xs : List Nat) (c : Nat) (hb : b < 3) (hr : r < 3) (hx : RowIs V b r xs) (hl : xs.length < 16) : gM l B yX5_addLast cX5_addLast 2 none rmX5_addLast [.ref (B.2.1 13 b r), .int (nI c)] V (fun v V' => v = none ∧ RowIs V' b r (xs ++ [c]) ∧ rowmod V V' b r) := by
  refine gM_of (own := RX5) (L := [(0, .ref (B.2.1 13 b r)), (1, .int (nI c))]) (by decide +kernel) rfl hI (Nat.le_of_ble_eq_true rfl) rfl ?_
  intro Z hnL hR X F
  refine g_aload_n X 0 rfl dX5_addLast_0 ?_
  refine gg_X5_size X (gP_13 (by first | assumption | decide | omega) (by first | assumption | decide | omega)) fX5_15 dX5_addLast_1 ?_
  refine gG_top (nI xs.length) (hx.1) ?_
  refine g_aload_n X 0 rfl dX5_addLast_4 ?_
  refine gg_X5_carts X (gP_13 (by first | assumption | decide | omega) (by first | assumption | decide | omega)) fX5_9 dX5_addLast_5 ?_
  refine g_alen X (v := 16) (gP_14 (by first | assumption | decide | omega) (by first | assumption | decide | omega)) rfl (by decide) dX5_addLast_8 ?_
  refine g_callS X hR (As := [.int (nI xs.length), .int 16]) (rest := []) mX6_isIndex lX5_19 (k_isIndex1 hI V (nI xs.length) 16 (nI_pos' (by omega)) (nI_lt (b := 16) hl (by decide))) rfl rfl (Nat.le_of_ble_eq_true rfl) ⟨Nat.le_of_ble_eq_true rfl, Nat.le_of_ble_eq_true rfl, Nat.le_of_ble_eq_true rfl, Nat.le_of_ble_eq_true rfl⟩ dX5_addLast_9 (fun r1 V2 hz_3 => ?_)
  refine gG_ret hz_3.1 hz_3.2 ?_
  refine gG_st [.int 1] rfl ?_
  refine g_if_eq X 35 (by decide) dX5_addLast_12 (fun c4 => ?_) (fun c4 => ?_)
  ·  exact absurd c4 (by decide)
  · refine g_aload_n X 0 rfl dX5_addLast_15 ?_
    refine gg_X5_carts X (gP_13 (by first | assumption | decide | omega) (by first | assumption | decide | omega)) fX5_9 dX5_addLast_16 ?_
    refine g_aload_n X 0 rfl dX5_addLast_19 ?_
    refine gg_X5_size X (gP_13 (by first | assumption | decide | omega) (by first | assumption | decide | omega)) fX5_15 dX5_addLast_20 ?_
    refine gG_top (nI xs.length) (hx.1) ?_
    refine g_iload_n X 1 rfl dX5_addLast_23 ?_
    refine g_iastN X (xs.length) rfl hl (by decide) (gP_14 (by first | assumption | decide | omega) (by first | assumption | decide | omega)) (fun _ => rfl) dX5_addLast_24 ?_
    refine gG_nm (fun V5 hV5 => ?_)
    refine g_aload_n X 0 rfl dX5_addLast_25 ?_
    refine g_dup X rfl dX5_addLast_26 ?_
    refine gg_X5_size X (gP_13 (by first | assumption | decide | omega) (by first | assumption | decide | omega)) fX5_15 dX5_addLast_27 ?_
    refine gG_top (nI xs.length) (by rw [hV5, gup_ne (by simp)]; exact hx.1) ?_
    refine g_iconst X 1 (by decide) dX5_addLast_30 ?_
    refine g_iadd X dX5_addLast_31 ?_
    refine gG_top (nI (xs.length + 1)) (nI_1 _) ?_
    refine gp_X5_size X (gP_13 (by first | assumption | decide | omega) (by first | assumption | decide | omega)) fX5_15 dX5_addLast_32 ?_
    refine gG_nm (fun V6 hV6 => ?_)
    refine g_vret X F ?_ rfl dX5_addLast_35
    refine ⟨rfl, ⟨by rw [hV6, gup_eq]; simp only [List.length_append, List.length_singleton], by simp only [List.length_append, List.length_singleton]; omega, fun j hj => ?_⟩, ?_⟩
    · rw [hV6, gup_ne (by simp), hV5]
      simp only [List.length_append, List.length_singleton] at hj
      by_cases he : j = xs.length
      · subst he
        rw [gup_eq]
        simp
      · rw [gup_ne (by simp [he]), hx.2.2 j (by omega), List.getElem_append_left (by omega)]
    · rw [hV6, hV5]
      exact rowmod.rf.up14.up13

abbrev rmX5_addFirst : Room := { frames := 1, cells := 0, slots := 0, locals := 21 }
set_option maxRecDepth 20000 in
theorem k_addFirst {l : Launch} {B : gB} (hI : gI B) (V : gMem) (b : Nat) (r : Nat) (xs : List Nat) (c : Nat) (hb : b < 3) (hr : r < 3) (hx : RowIs V b r xs) (hl : xs.length < 16) : gM l B yX5_addFirst cX5_addFirst 3 none rmX5_addFirst [.ref (B.2.1 13 b r), .int (nI c)] V (fun v V' => v = none ∧ RowIs V' b r (c :: xs) ∧ rowmod V V' b r) := by
  refine gM_of (own := RX5) (L := [(0, .ref (B.2.1 13 b r)), (1, .int (nI c))]) (by decide +kernel) rfl hI (Nat.le_of_ble_eq_true rfl) rfl ?_
  intro Z hnL hR X F
  refine g_aload_n X 0 rfl dX5_addFirst_0 ?_
  refine gg_X5_size X (gP_13 (by first | assumption | decide | omega) (by first | assumption | decide | omega)) fX5_15 dX5_addFirst_1 ?_
  refine gG_top (nI xs.length) (hx.1) ?_
  refine g_aload_n X 0 rfl dX5_addFirst_4 ?_
  refine gg_X5_carts X (gP_13 (by first | assumption | decide | omega) (by first | assumption | decide | omega)) fX5_9 dX5_addFirst_5 ?_
  refine g_alen X (v := 16) (gP_14 (by first | assumption | decide | omega) (by first | assumption | decide | omega)) rfl (by decide) dX5_addFirst_8 ?_
  refine g_callS X hR (As := [.int (nI xs.length), .int 16]) (rest := []) mX6_isIndex lX5_19 (k_isIndex1 hI V (nI xs.length) 16 (nI_pos' (by omega)) (nI_lt (b := 16) hl (by decide))) rfl rfl (Nat.le_of_ble_eq_true rfl) ⟨Nat.le_of_ble_eq_true rfl, Nat.le_of_ble_eq_true rfl, Nat.le_of_ble_eq_true rfl, Nat.le_of_ble_eq_true rfl⟩ dX5_addFirst_9 (fun r1 V2 hz_3 => ?_)
  refine gG_ret hz_3.1 hz_3.2 ?_
  refine gG_st [.int 1] rfl ?_
  refine g_if_eq X 61 (by decide) dX5_addFirst_12 (fun c4 => ?_) (fun c4 => ?_)
  ·  exact absurd c4 (by decide)
  · refine g_aload_n X 0 rfl dX5_addFirst_15 ?_
    refine gg_X5_size X (gP_13 (by first | assumption | decide | omega) (by first | assumption | decide | omega)) fX5_15 dX5_addFirst_16 ?_
    refine gG_top (nI xs.length) (hx.1) ?_
    refine g_istore_n X rfl dX5_addFirst_19 [(2, .int (nI xs.length)), (0, .ref (B.2.1 13 b r)), (1, .int (nI c))] rfl (gnl_lt hnL (by decide)) ?_
    refine gG_L [1, 2, 0] (L' := [(0, .ref (B.2.1 13 b r)), (1, .int (nI c)), (2, .int (nI xs.length))]) rfl ?_
    have loop : ∀ (k : Nat) (V1 : gMem), k ≤ xs.length → rowmod V V1 b r → V1 13 b r 1 = nI xs.length → (∀ j (h : j < xs.length), j < k → V1 14 b r j = nI xs[j]) → (∀ j (h : j < xs.length), k ≤ j → V1 14 b r (j + 1) = nI xs[j]) → gG Z B (0, 0) V1 20 [(0, .ref (B.2.1 13 b r)), (1, .int (nI c)), (2, .int (nI k))] [] := by
      intro k
      induction k with
      | zero =>
        intro V1 hk hm h1 h2 h3
        refine g_iload_n X 2 rfl dX5_addFirst_20 ?_
        refine g_if_le X 44 (by decide) dX5_addFirst_21 (fun c5 => ?_) (fun c5 => ?_)
        · refine g_aload_n X 0 rfl dX5_addFirst_44 ?_
          refine gg_X5_carts X (gP_13 (by first | assumption | decide | omega) (by first | assumption | decide | omega)) fX5_9 dX5_addFirst_45 ?_
          refine g_iconst X 0 (by decide) dX5_addFirst_48 ?_
          refine g_iload_n X 1 rfl dX5_addFirst_49 ?_
          refine g_iastN X (0) rfl (by decide) (by decide) (gP_14 (by first | assumption | decide | omega) (by first | assumption | decide | omega)) (fun _ => rfl) dX5_addFirst_50 ?_
          refine gG_nm (fun V6 hV6 => ?_)
          refine g_aload_n X 0 rfl dX5_addFirst_51 ?_
          refine g_dup X rfl dX5_addFirst_52 ?_
          refine gg_X5_size X (gP_13 (by first | assumption | decide | omega) (by first | assumption | decide | omega)) fX5_15 dX5_addFirst_53 ?_
          refine gG_top (nI xs.length) (by rw [hV6, gup_ne (by simp)]; exact h1) ?_
          refine g_iconst X 1 (by decide) dX5_addFirst_56 ?_
          refine g_iadd X dX5_addFirst_57 ?_
          refine gG_top (nI (xs.length + 1)) (nI_1 _) ?_
          refine gp_X5_size X (gP_13 (by first | assumption | decide | omega) (by first | assumption | decide | omega)) fX5_15 dX5_addFirst_58 ?_
          refine gG_nm (fun V7 hV7 => ?_)
          refine g_vret X F ?_ rfl dX5_addFirst_61
          refine ⟨rfl, ⟨by rw [hV7, gup_eq]; simp only [List.length_cons], by simp only [List.length_cons]; omega, fun j hj => ?_⟩, ?_⟩
          · rw [hV7, gup_ne (by simp), hV6]
            simp only [List.length_cons] at hj
            cases j with
            | zero => rw [gup_eq]; rfl
            | succ j => rw [gup_ne (by omega), h3 j (by omega) (Nat.zero_le _)]; rfl
          · rw [hV7, hV6]
            exact hm.up14.up13
        · first | exact absurd (Int32.le_refl _) c5 | exact absurd c5 (Int32.le_refl _)
      | succ k ih =>
        intro V1 hk hm h1 h2 h3
        have hk16 : k + 1 < 17 := by have := hx.2.1; omega
        refine g_iload_n X 2 rfl dX5_addFirst_20 ?_
        refine g_if_le X 44 (by decide) dX5_addFirst_21 (fun c8 => ?_) (fun c8 => ?_)
        · first | exact absurd (nI_nle (by omega) (by omega)) c8 | exact absurd c8 (nI_nle (by omega) (by omega))
        · refine g_aload_n X 0 rfl dX5_addFirst_24 ?_
          refine gg_X5_carts X (gP_13 (by first | assumption | decide | omega) (by first | assumption | decide | omega)) fX5_9 dX5_addFirst_25 ?_
          refine g_iload_n X 2 rfl dX5_addFirst_28 ?_
          refine g_aload_n X 0 rfl dX5_addFirst_29 ?_
          refine gg_X5_carts X (gP_13 (by first | assumption | decide | omega) (by first | assumption | decide | omega)) fX5_9 dX5_addFirst_30 ?_
          refine g_iload_n X 2 rfl dX5_addFirst_33 ?_
          refine g_iconst X 1 (by decide) dX5_addFirst_34 ?_
          refine g_isub X dX5_addFirst_35 ?_
          refine gG_top (nI k) (nI_pred k) ?_
          refine g_ialdN X (k) rfl (by omega) (by decide) (gP_14 (by first | assumption | decide | omega) (by first | assumption | decide | omega)) rfl dX5_addFirst_36 ?_
          refine g_iastN X (k + 1) rfl (by omega) (by decide) (gP_14 (by first | assumption | decide | omega) (by first | assumption | decide | omega)) (fun _ => rfl) dX5_addFirst_37 ?_
          refine gG_nm (fun V9 hV9 => ?_)
          refine g_iinc X 2 rfl (nI k) (iinc_m1 k) dX5_addFirst_38 [(2, .int (nI k)), (0, .ref (B.2.1 13 b r)), (1, .int (nI c))] rfl (gnl_lt hnL (by decide)) ?_
          refine g_goto X 20 (by decide) dX5_addFirst_41 ?_
          refine gG_L [1, 2, 0] (L' := [(0, .ref (B.2.1 13 b r)), (1, .int (nI c)), (2, .int (nI k))]) rfl ?_
          refine ih V9 (by omega) (by rw [hV9]; exact hm.up14) (by rw [hV9, gup_ne (by simp)]; exact h1) (fun j h hj => ?_) (fun j h hj => ?_)
          · rw [hV9, gup_ne (by omega)]
            exact h2 j h (by omega)
          · by_cases he : j = k
            · subst he
              rw [hV9, gup_eq]
              exact h2 j h (by omega)
            · rw [hV9, gup_ne (by omega)]
              exact h3 j h (by omega)
    exact loop xs.length V (Nat.le_refl _) rowmod.rf hx.1 (fun j h _ => hx.2.2 j h) (fun j h hj => absurd h (by omega))

theorem RowIs.mod {V V' : gMem} {b r b2 r2 : Nat} {xs : List Nat} (h : RowIs V b2 r2 xs) (hm : rowmod V V' b r) (hne : ¬ (b2 = b ∧ r2 = r)) : RowIs V' b2 r2 xs := by
  have e1 := hm 13 b2 r2 (fun q => hne q.2)
  have e2 := hm 14 b2 r2 (fun q => hne q.2)
  exact ⟨by rw [e1]; exact h.1, h.2.1, fun j hj => by rw [e2]; exact h.2.2 j hj⟩

abbrev rmX5_removeFirst : Room := { frames := 0, cells := 0, slots := 0, locals := 0 }
set_option maxRecDepth 20000 in
theorem k_removeFirst {l : Launch} {B : gB} (hI : gI B) (V : gMem) (b : Nat) (r : Nat) (c : Nat) (ys : List Nat) (hb : b < 3) (hr : r < 3) (hx : RowIs V b r (c :: ys)) : gM l B yX5_removeFirst cX5_removeFirst 2 none rmX5_removeFirst [.ref (B.2.1 13 b r)] V (fun v V' => v = none ∧ RowIs V' b r (ys) ∧ rowmod V V' b r) := by
  refine gM_of (own := RX5) (L := [(0, .ref (B.2.1 13 b r))]) (by decide +kernel) rfl hI (Nat.le_of_ble_eq_true rfl) rfl ?_
  intro Z hnL hR X F
  have hlen : ys.length + 1 ≤ 16 := hx.2.1
  refine g_aload_n X 0 rfl dX5_removeFirst_0 ?_
  refine gg_X5_size X (gP_13 (by first | assumption | decide | omega) (by first | assumption | decide | omega)) fX5_15 dX5_removeFirst_1 ?_
  refine gG_top (nI (ys.length + 1)) (hx.1) ?_
  refine g_if_le X 58 (by decide) dX5_removeFirst_4 (fun c1 => ?_) (fun c1 => ?_)
  · first | exact absurd (nI_nle (by omega) (by omega)) c1 | exact absurd c1 (nI_nle (by omega) (by omega))
  · refine g_aload_n X 0 rfl dX5_removeFirst_7 ?_
    refine g_dup X rfl dX5_removeFirst_8 ?_
    refine gg_X5_size X (gP_13 (by first | assumption | decide | omega) (by first | assumption | decide | omega)) fX5_15 dX5_removeFirst_9 ?_
    refine gG_top (nI (ys.length + 1)) (hx.1) ?_
    refine g_iconst X 1 (by decide) dX5_removeFirst_12 ?_
    refine g_isub X dX5_removeFirst_13 ?_
    refine gG_top (nI ys.length) (nI_pred _) ?_
    refine gp_X5_size X (gP_13 (by first | assumption | decide | omega) (by first | assumption | decide | omega)) fX5_15 dX5_removeFirst_14 ?_
    refine gG_nm (fun V2 hV2 => ?_)
    refine g_iconst X 0 (by decide) dX5_removeFirst_17 ?_
    refine g_istore_n X rfl dX5_removeFirst_18 [(1, .int 0), (0, .ref (B.2.1 13 b r))] rfl (gnl_lt hnL (by decide)) ?_
    refine gG_L [1, 0] (L' := [(0, .ref (B.2.1 13 b r)), (1, .int 0)]) rfl ?_
    have loop : ∀ (f : Nat) (i : Nat) (V1 : gMem), i + f = ys.length → rowmod V V1 b r → V1 13 b r 1 = nI ys.length → (∀ j (h : j < ys.length), j < i → V1 14 b r j = nI ys[j]) → (∀ j (h : j < ys.length), i ≤ j → V1 14 b r (j + 1) = nI ys[j]) → gG Z B (0, 0) V1 19 [(0, .ref (B.2.1 13 b r)), (1, .int (nI i))] [] := by
      intro f
      induction f with
      | zero =>
        intro i V1 hf hm h1 h2 h3
        refine g_iload_n X 1 rfl dX5_removeFirst_19 ?_
        refine g_aload_n X 0 rfl dX5_removeFirst_20 ?_
        refine gg_X5_size X (gP_13 (by first | assumption | decide | omega) (by first | assumption | decide | omega)) fX5_15 dX5_removeFirst_21 ?_
        refine gG_top (nI ys.length) (h1) ?_
        refine g_icmp_ge X 58 (by decide) dX5_removeFirst_24 (fun c3 => ?_) (fun c3 => ?_)
        · refine g_vret X F ?_ rfl dX5_removeFirst_58
          exact ⟨rfl, ⟨h1, by omega, fun j hj => h2 j hj (by omega)⟩, hm⟩
        · first | exact absurd (nI_le (by omega) (by omega)) c3 | exact absurd c3 (nI_le (by omega) (by omega))
      | succ f ih =>
        intro i V1 hf hm h1 h2 h3
        refine g_iload_n X 1 rfl dX5_removeFirst_19 ?_
        refine g_aload_n X 0 rfl dX5_removeFirst_20 ?_
        refine gg_X5_size X (gP_13 (by first | assumption | decide | omega) (by first | assumption | decide | omega)) fX5_15 dX5_removeFirst_21 ?_
        refine gG_top (nI ys.length) (h1) ?_
        refine g_icmp_ge X 58 (by decide) dX5_removeFirst_24 (fun c4 => ?_) (fun c4 => ?_)
        · first | exact absurd (nI_ge (by omega) (by omega)) c4 | exact absurd c4 (nI_ge (by omega) (by omega))
        · refine g_iload_n X 1 rfl dX5_removeFirst_27 ?_
          refine g_iconst X 1 (by decide) dX5_removeFirst_28 ?_
          refine g_iadd X dX5_removeFirst_29 ?_
          refine gG_top (nI (i + 1)) (nI_1 _) ?_
          refine g_aload_n X 0 rfl dX5_removeFirst_30 ?_
          refine gg_X5_carts X (gP_13 (by first | assumption | decide | omega) (by first | assumption | decide | omega)) fX5_9 dX5_removeFirst_31 ?_
          refine g_alen X (v := 16) (gP_14 (by first | assumption | decide | omega) (by first | assumption | decide | omega)) rfl (by decide) dX5_removeFirst_34 ?_
          refine g_icmp_ge X 58 (by decide) dX5_removeFirst_35 (fun c5 => ?_) (fun c5 => ?_)
          · first | exact absurd (nI_ge (b := 16) (by omega) (by decide)) c5 | exact absurd c5 (nI_ge (b := 16) (by omega) (by decide))
          · refine g_aload_n X 0 rfl dX5_removeFirst_38 ?_
            refine gg_X5_carts X (gP_13 (by first | assumption | decide | omega) (by first | assumption | decide | omega)) fX5_9 dX5_removeFirst_39 ?_
            refine g_iload_n X 1 rfl dX5_removeFirst_42 ?_
            refine g_aload_n X 0 rfl dX5_removeFirst_43 ?_
            refine gg_X5_carts X (gP_13 (by first | assumption | decide | omega) (by first | assumption | decide | omega)) fX5_9 dX5_removeFirst_44 ?_
            refine g_iload_n X 1 rfl dX5_removeFirst_47 ?_
            refine g_iconst X 1 (by decide) dX5_removeFirst_48 ?_
            refine g_iadd X dX5_removeFirst_49 ?_
            refine gG_top (nI (i + 1)) (nI_1 _) ?_
            refine g_ialdN X (i + 1) rfl (by omega) (by decide) (gP_14 (by first | assumption | decide | omega) (by first | assumption | decide | omega)) rfl dX5_removeFirst_50 ?_
            refine g_iastN X (i) rfl (by omega) (by decide) (gP_14 (by first | assumption | decide | omega) (by first | assumption | decide | omega)) (fun _ => rfl) dX5_removeFirst_51 ?_
            refine gG_nm (fun V6 hV6 => ?_)
            refine g_iinc X 1 rfl (nI (i + 1)) (iinc_1 _) dX5_removeFirst_52 [(1, .int (nI (i + 1))), (0, .ref (B.2.1 13 b r))] rfl (gnl_lt hnL (by decide)) ?_
            refine g_goto X 19 (by decide) dX5_removeFirst_55 ?_
            refine gG_L [1, 0] (L' := [(0, .ref (B.2.1 13 b r)), (1, .int (nI (i + 1)))]) rfl ?_
            refine ih (i + 1) V6 (by omega) (by rw [hV6]; exact hm.up14) (by rw [hV6, gup_ne (by simp)]; exact h1) (fun j h hj => ?_) (fun j h hj => ?_)
            · by_cases he : j = i
              · subst he
                rw [hV6, gup_eq]
                exact h3 j h (Nat.le_refl _)
              · rw [hV6, gup_ne (by omega)]
                exact h2 j h (by omega)
            · rw [hV6, gup_ne (by omega)]
              exact h3 j h (by omega)
    exact loop ys.length 0 V2 (by omega) (by rw [hV2]; exact rowmod.rf.up13) (by rw [hV2, gup_eq]) (fun j h hj => absurd hj (by omega)) (fun j h _ => by rw [hV2, gup_ne (by simp)]; exact hx.2.2 (j + 1) (by simp only [List.length_cons]; omega))

abbrev rmX5_removeLast : Room := { frames := 0, cells := 0, slots := 0, locals := 0 }
set_option maxRecDepth 20000 in
theorem k_removeLast {l : Launch} {B : gB} (hI : gI B) (V : gMem) (b : Nat) (r : Nat) (xs : List Nat) (c : Nat) (hb : b < 3) (hr : r < 3) (hx : RowIs V b r (xs ++ [c])) : gM l B yX5_removeLast cX5_removeLast 1 none rmX5_removeLast [.ref (B.2.1 13 b r)] V (fun v V' => v = none ∧ RowIs V' b r (xs) ∧ rowmod V V' b r) := by
  refine gM_of (own := RX5) (L := [(0, .ref (B.2.1 13 b r))]) (by decide +kernel) rfl hI (Nat.le_of_ble_eq_true rfl) rfl ?_
  intro Z hnL hR X F
  have hlen : xs.length + 1 ≤ 16 := by have := hx.2.1; simpa using this
  have hsz : V 13 b r 1 = nI (xs.length + 1) := by have := hx.1; simpa using this
  refine g_aload_n X 0 rfl dX5_removeLast_0 ?_
  refine gg_X5_size X (gP_13 (by first | assumption | decide | omega) (by first | assumption | decide | omega)) fX5_15 dX5_removeLast_1 ?_
  refine gG_top (nI (xs.length + 1)) (hsz) ?_
  refine g_if_le X 17 (by decide) dX5_removeLast_4 (fun c1 => ?_) (fun c1 => ?_)
  · first | exact absurd (nI_nle (by omega) (by omega)) c1 | exact absurd c1 (nI_nle (by omega) (by omega))
  · refine g_aload_n X 0 rfl dX5_removeLast_7 ?_
    refine g_dup X rfl dX5_removeLast_8 ?_
    refine gg_X5_size X (gP_13 (by first | assumption | decide | omega) (by first | assumption | decide | omega)) fX5_15 dX5_removeLast_9 ?_
    refine gG_top (nI (xs.length + 1)) (hsz) ?_
    refine g_iconst X 1 (by decide) dX5_removeLast_12 ?_
    refine g_isub X dX5_removeLast_13 ?_
    refine gG_top (nI xs.length) (nI_pred _) ?_
    refine gp_X5_size X (gP_13 (by first | assumption | decide | omega) (by first | assumption | decide | omega)) fX5_15 dX5_removeLast_14 ?_
    refine gG_nm (fun V2 hV2 => ?_)
    refine g_vret X F ?_ rfl dX5_removeLast_17
    refine ⟨rfl, ⟨by rw [hV2, gup_eq], by omega, fun j hj => ?_⟩, by rw [hV2]; exact rowmod.rf.up13⟩
    rw [hV2, gup_ne (by simp), hx.2.2 j (by simp; omega), List.getElem_append_left hj]

abbrev rmX5_copyFrom : Room := { frames := 2, cells := 0, slots := 0, locals := 42 }
set_option maxRecDepth 20000 in
theorem k_rowCopy {l : Launch} {B : gB} (hI : gI B) (V : gMem) (b : Nat) (r : Nat) (b2 : Nat) (r2 : Nat) (xs : List Nat) (hb : b < 3) (hr : r < 3) (hb2 : b2 < 3) (hr2 : r2 < 3) (hne : ¬ (b2 = b ∧ r2 = r)) (hx : RowIs V b2 r2 xs) : gM l B yX5_copyFrom cX5_copyFrom 3 none rmX5_copyFrom [.ref (B.2.1 13 b r), .ref (B.2.1 13 b2 r2)] V (fun v V' => v = none ∧ RowIs V' b r (xs) ∧ rowmod V V' b r) := by
  refine gM_of (own := RX5) (L := [(0, .ref (B.2.1 13 b r)), (1, .ref (B.2.1 13 b2 r2))]) (by decide +kernel) rfl hI (Nat.le_of_ble_eq_true rfl) rfl ?_
  intro Z hnL hR X F
  have hlen : xs.length ≤ 16 := hx.2.1
  refine g_aload_n X 0 rfl dX5_copyFrom_0 ?_
  refine g_aload_n X 1 rfl dX5_copyFrom_1 ?_
  refine gg_X5_size X ⟨hb2, hr2⟩ fX5_15 dX5_copyFrom_2 ?_
  refine gG_top (nI xs.length) (hx.1) ?_
  refine gp_X5_size X (gP_13 (by first | assumption | decide | omega) (by first | assumption | decide | omega)) fX5_15 dX5_copyFrom_5 ?_
  refine gG_nm (fun V1 hV1 => ?_)
  refine g_iconst X 0 (by decide) dX5_copyFrom_8 ?_
  refine g_istore_n X rfl dX5_copyFrom_9 [(2, .int 0), (0, .ref (B.2.1 13 b r)), (1, .ref (B.2.1 13 b2 r2))] rfl (gnl_lt hnL (by decide)) ?_
  refine gG_L [1, 2, 0] (L' := [(0, .ref (B.2.1 13 b r)), (1, .ref (B.2.1 13 b2 r2)), (2, .int 0)]) rfl ?_
  have loop : ∀ (f : Nat) (i : Nat) (V1 : gMem), i + f = xs.length → rowmod V V1 b r → V1 13 b r 1 = nI xs.length → (∀ j (h : j < xs.length), j < i → V1 14 b r j = nI xs[j]) → gG Z B (0, 0) V1 10 [(0, .ref (B.2.1 13 b r)), (1, .ref (B.2.1 13 b2 r2)), (2, .int (nI i))] [] := by
    intro f
    induction f with
    | zero =>
      intro i V1 hf hm h1 h2
      refine g_iload_n X 2 rfl dX5_copyFrom_10 ?_
      refine g_aload_n X 0 rfl dX5_copyFrom_11 ?_
      refine gg_X5_size X (gP_13 (by first | assumption | decide | omega) (by first | assumption | decide | omega)) fX5_15 dX5_copyFrom_12 ?_
      refine gG_top (nI xs.length) (h1) ?_
      refine g_icmp_ge X 44 (by decide) dX5_copyFrom_15 (fun c2 => ?_) (fun c2 => ?_)
      · refine g_vret X F ?_ rfl dX5_copyFrom_44
        exact ⟨rfl, ⟨h1, hlen, fun j hj => h2 j hj (by omega)⟩, hm⟩
      · first | exact absurd (nI_le (by omega) (by omega)) c2 | exact absurd c2 (nI_le (by omega) (by omega))
    | succ f ih =>
      intro i V1 hf hm h1 h2
      refine g_iload_n X 2 rfl dX5_copyFrom_10 ?_
      refine g_aload_n X 0 rfl dX5_copyFrom_11 ?_
      refine gg_X5_size X (gP_13 (by first | assumption | decide | omega) (by first | assumption | decide | omega)) fX5_15 dX5_copyFrom_12 ?_
      refine gG_top (nI xs.length) (h1) ?_
      refine g_icmp_ge X 44 (by decide) dX5_copyFrom_15 (fun c3 => ?_) (fun c3 => ?_)
      · first | exact absurd (nI_ge (by omega) (by omega)) c3 | exact absurd c3 (nI_ge (by omega) (by omega))
      · refine g_iload_n X 2 rfl dX5_copyFrom_18 ?_
        refine g_aload_n X 0 rfl dX5_copyFrom_19 ?_
        refine gg_X5_carts X (gP_13 (by first | assumption | decide | omega) (by first | assumption | decide | omega)) fX5_9 dX5_copyFrom_20 ?_
        refine g_alen X (v := 16) (gP_14 (by first | assumption | decide | omega) (by first | assumption | decide | omega)) rfl (by decide) dX5_copyFrom_23 ?_
        refine g_icmp_ge X 44 (by decide) dX5_copyFrom_24 (fun c4 => ?_) (fun c4 => ?_)
        · first | exact absurd (nI_ge (b := 16) (by omega) (by decide)) c4 | exact absurd c4 (nI_ge (b := 16) (by omega) (by decide))
        · refine g_aload_n X 0 rfl dX5_copyFrom_27 ?_
          refine gg_X5_carts X (gP_13 (by first | assumption | decide | omega) (by first | assumption | decide | omega)) fX5_9 dX5_copyFrom_28 ?_
          refine g_iload_n X 2 rfl dX5_copyFrom_31 ?_
          refine g_aload_n X 1 rfl dX5_copyFrom_32 ?_
          refine g_iload_n X 2 rfl dX5_copyFrom_33 ?_
          refine g_callV X hR (rest := [.int (nI i), .ref (B.2.1 14 b r)]) mX5_at lX5_23 (k_at hI V1 b2 r2 xs i hb2 hr2 (hx.mod hm hne) (by omega)) rfl rfl (Nat.le_of_ble_eq_true rfl) ⟨hb2, hr2⟩ rfl rfl rfl ⟨Nat.le_of_ble_eq_true rfl, Nat.le_of_ble_eq_true rfl, Nat.le_of_ble_eq_true rfl, Nat.le_of_ble_eq_true rfl⟩ dX5_copyFrom_34 (fun r5 V6 hz_7 => ?_)
          refine gG_ret hz_7.1 hz_7.2 ?_
          refine gG_st [.int (lat xs i), .int (nI i), .ref (B.2.1 14 b r)] rfl ?_
          refine g_iastN X (i) rfl (by omega) (by decide) (gP_14 (by first | assumption | decide | omega) (by first | assumption | decide | omega)) (fun _ => rfl) dX5_copyFrom_37 ?_
          refine gG_nm (fun V8 hV8 => ?_)
          refine g_iinc X 2 rfl (nI (i + 1)) (iinc_1 _) dX5_copyFrom_38 [(2, .int (nI (i + 1))), (0, .ref (B.2.1 13 b r)), (1, .ref (B.2.1 13 b2 r2))] rfl (gnl_lt hnL (by decide)) ?_
          refine g_goto X 10 (by decide) dX5_copyFrom_41 ?_
          refine gG_L [1, 2, 0] (L' := [(0, .ref (B.2.1 13 b r)), (1, .ref (B.2.1 13 b2 r2)), (2, .int (nI (i + 1)))]) rfl ?_
          refine ih (i + 1) V8 (by omega) (by rw [hV8]; exact hm.up14) (by rw [hV8, gup_ne (by simp)]; exact h1) (fun j h hj => ?_)
          by_cases he : j = i
          · subst he
            rw [hV8, gup_eq]
            exact lat_in h
          · rw [hV8, gup_ne (by omega)]
            exact h2 j h (by omega)
  exact loop xs.length 0 V1 (by omega) (by rw [hV1]; exact rowmod.rf.up13) (by rw [hV1, gup_eq]) (fun j h hj => absurd hj (by omega))
end
section
/-! THE BRIDGE AS A VALUE: S = (numbers: 0 tick, 1 direction, 2 places, 3 bears, 4 axle toll, 5 toll for ten, 6 carts; rows: 0, 1 queues, 2 those on the bridge; boxes: 1 coins, 2 payers, 3 axles, 4 kept; carts: 1 end, 2 axles, 3 weight, 4 pace, 5 coins, 6 cheat, 7 paid, 8 state, 9 way; ticks of being over) -/
abbrev gSt : Type := (Nat → Nat) × (Nat → List Nat) × (Nat → Nat → Nat) × (Nat → Nat → Nat) × (Nat → Int32)
def AbsC (V : gMem) (b : Nat) (S : gSt) : Prop :=
  (∀ k, k < 7 → V 10 b 0 k = nI (S.1 k)) ∧ (∀ r, r < 3 → RowIs V b r (S.2.1 r)) ∧ (∀ e, e < 2 → ∀ k, 1 ≤ k → k ≤ 4 → V 12 b e k = nI (S.2.2.1 e k)) ∧
  (∀ i, i < S.1 6 → ∀ k, 1 ≤ k → k ≤ 9 → V 15 b i k = nI (S.2.2.2.1 i k)) ∧ (∀ i, i < S.1 6 → V 15 b i 10 = S.2.2.2.2 i) ∧ (∀ i, i < 16 → V 15 b i 0 = nI i) ∧
  (b = 0 → ∀ i, S.1 6 ≤ i → i < 16 → (∀ k, 1 ≤ k → k ≤ 9 → V 15 b i k = nI (S.2.2.2.1 i k)) ∧ V 15 b i 10 = S.2.2.2.2 i)
def sN (S : gSt) (k v : Nat) : gSt := (fun k' => if k' = k then v else S.1 k', S.2)
def sQ (S : gSt) (r : Nat) (xs : List Nat) : gSt := (S.1, fun r' => if r' = r then xs else S.2.1 r', S.2.2)
def sG (S : gSt) (e k v : Nat) : gSt := (S.1, S.2.1, fun e' k' => if e' = e ∧ k' = k then v else S.2.2.1 e' k', S.2.2.2)
def sC (S : gSt) (i k v : Nat) : gSt := (S.1, S.2.1, S.2.2.1, fun i' k' => if i' = i ∧ k' = k then v else S.2.2.2.1 i' k', S.2.2.2.2)
def sO (S : gSt) (i : Nat) (v : Int32) : gSt := (S.1, S.2.1, S.2.2.1, S.2.2.2.1, fun i' => if i' = i then v else S.2.2.2.2 i')
/-- nothing but one bridge is another one -/
def brmod (V V' : gMem) (b : Nat) : Prop := ∀ K b' i', ¬ (10 ≤ K ∧ K ≤ 15 ∧ b' = b) → V' K b' i' = V K b' i'
theorem brmod.rf {V : gMem} {b : Nat} : brmod V V b := fun _ _ _ _ => rfl
theorem brmod.trans {V V1 V2 : gMem} {b : Nat} (h : brmod V V1 b) (h2 : brmod V1 V2 b) : brmod V V2 b := fun K b' i' hn => (h2 K b' i' hn).trans (h K b' i' hn)
theorem brmod.up {V V1 : gMem} {K b i j : Nat} {x : Int32} (h : brmod V V1 b) (hK : 10 ≤ K) (hK2 : K ≤ 15) : brmod V (gup V1 K b i j x) b := fun K' b' i' hn => (gup_off V1 x (fun q => hn ⟨by omega, by omega, q.2.1⟩)).trans (h K' b' i' hn)
theorem rowmod.br {V V' : gMem} {b r : Nat} (h : rowmod V V' b r) : brmod V V' b := fun K b' i' hn => h K b' i' (fun q => hn ⟨by omega, by omega, q.2.1⟩)
theorem RowIs.same {V V' : gMem} {b r : Nat} {xs : List Nat} (h : RowIs V b r xs) (e1 : V' 13 b r = V 13 b r) (e2 : V' 14 b r = V 14 b r) : RowIs V' b r xs := ⟨by rw [e1]; exact h.1, h.2.1, fun j hj => by rw [e2]; exact h.2.2 j hj⟩
theorem AbsC.bnd {V : gMem} {b : Nat} {S : gSt} (h : AbsC V b S) {r : Nat} (hr : r < 3) : (S.2.1 r).length ≤ 16 := (h.2.1 r hr).2.1
theorem AbsC.other {V V' : gMem} {b b' : Nat} {S : gSt} (h : AbsC V b S) (hm : brmod V V' b') (hne : b ≠ b') : AbsC V' b S := by
  have e : ∀ K i, V' K b i = V K b i := fun K i => hm K b i (fun q => hne q.2.2)
  exact ⟨fun k hk => by rw [e]; exact h.1 k hk, fun r hr => (h.2.1 r hr).same (e _ _) (e _ _), fun x hx k h1 h2 => by rw [e]; exact h.2.2.1 x hx k h1 h2, fun i hi k h1 h2 => by rw [e]; exact h.2.2.2.1 i hi k h1 h2, fun i hi => by rw [e]; exact h.2.2.2.2.1 i hi, fun i hi => by rw [e]; exact h.2.2.2.2.2.1 i hi, fun h0 i h1 h2 => by rw [e]; exact h.2.2.2.2.2.2 h0 i h1 h2⟩
theorem AbsC.setN {V : gMem} {b : Nat} {S : gSt} (h : AbsC V b S) (k v : Nat) (hk : k < 6) : AbsC (gup V 10 b 0 k (nI v)) b (sN S k v) := by
  have h6 : (sN S k v).1 6 = S.1 6 := if_neg (by omega)
  refine ⟨fun k' hk' => ?_, fun r hr => (h.2.1 r hr).same (gup_off _ _ (by simp)) (gup_off _ _ (by simp)), fun e he k' h1 h2 => ?_, fun i hi k' h1 h2 => ?_, fun i hi => ?_, fun i hi => ?_, fun h0 i h1 h2 => ?_⟩
  · by_cases hq : k' = k
    · subst hq; rw [gup_eq]; simp [sN]
    · rw [gup_ne (by omega), h.1 k' hk']; simp [sN, hq]
  · rw [gup_ne (by simp)]; exact h.2.2.1 e he k' h1 h2
  · rw [gup_ne (by simp)]; exact h.2.2.2.1 i (h6 ▸ hi) k' h1 h2
  · rw [gup_ne (by simp)]; exact h.2.2.2.2.1 i (h6 ▸ hi)
  · rw [gup_ne (by simp)]; exact h.2.2.2.2.2.1 i hi
  · rw [gup_off _ _ (by simp)]; exact h.2.2.2.2.2.2 h0 i (h6 ▸ h1) h2
theorem AbsC.setG {V : gMem} {b : Nat} {S : gSt} (h : AbsC V b S) (e k v : Nat) : AbsC (gup V 12 b e k (nI v)) b (sG S e k v) := by
  refine ⟨fun k' hk' => ?_, fun r hr => (h.2.1 r hr).same (gup_off _ _ (by simp)) (gup_off _ _ (by simp)), fun e' he k' h1 h2 => ?_, fun i hi k' h1 h2 => ?_, fun i hi => ?_, fun i hi => ?_, fun h0 i h1 h2 => ?_⟩
  · rw [gup_ne (by simp)]; exact h.1 k' hk'
  · by_cases hq : e' = e ∧ k' = k
    · obtain ⟨rfl, rfl⟩ := hq; rw [gup_eq]; simp [sG]
    · rw [gup_ne (by omega), h.2.2.1 e' he k' h1 h2]; simp [sG, hq]
  · rw [gup_ne (by simp)]; exact h.2.2.2.1 i hi k' h1 h2
  · rw [gup_ne (by simp)]; exact h.2.2.2.2.1 i hi
  · rw [gup_ne (by simp)]; exact h.2.2.2.2.2.1 i hi
  · rw [gup_off _ _ (by simp)]; exact h.2.2.2.2.2.2 h0 i h1 h2
theorem AbsC.setC {V : gMem} {b : Nat} {S : gSt} (h : AbsC V b S) (i k v : Nat) (hk : 1 ≤ k ∧ k ≤ 9) : AbsC (gup V 15 b i k (nI v)) b (sC S i k v) := by
  refine ⟨fun k' hk' => ?_, fun r hr => (h.2.1 r hr).same (gup_off _ _ (by simp)) (gup_off _ _ (by simp)), fun e' he k' h1 h2 => ?_, fun i' hi k' h1 h2 => ?_, fun i' hi => ?_, fun i' hi => ?_, fun h0 i' h1 h2 => ?_⟩
  · rw [gup_ne (by simp)]; exact h.1 k' hk'
  · rw [gup_ne (by simp)]; exact h.2.2.1 e' he k' h1 h2
  · by_cases hq : i' = i ∧ k' = k
    · obtain ⟨rfl, rfl⟩ := hq; rw [gup_eq]; simp [sC]
    · rw [gup_ne (by omega), h.2.2.2.1 i' hi k' h1 h2]; simp [sC, hq]
  · rw [gup_ne (by omega)]; exact h.2.2.2.2.1 i' hi
  · rw [gup_ne (by omega)]; exact h.2.2.2.2.2.1 i' hi
  · refine ⟨fun k' q1 q2 => ?_, ?_⟩
    · by_cases hq : i' = i ∧ k' = k
      · obtain ⟨rfl, rfl⟩ := hq; rw [gup_eq]; simp [sC]
      · rw [gup_ne (by omega), (h.2.2.2.2.2.2 h0 i' h1 h2).1 k' q1 q2]; simp [sC, hq]
    · rw [gup_ne (by omega)]; exact (h.2.2.2.2.2.2 h0 i' h1 h2).2
theorem AbsC.setO {V : gMem} {b : Nat} {S : gSt} (h : AbsC V b S) (i : Nat) (v : Int32) : AbsC (gup V 15 b i 10 v) b (sO S i v) := by
  refine ⟨fun k' hk' => ?_, fun r hr => (h.2.1 r hr).same (gup_off _ _ (by simp)) (gup_off _ _ (by simp)), fun e' he k' h1 h2 => ?_, fun i' hi k' h1 h2 => ?_, fun i' hi => ?_, fun i' hi => ?_, fun h0 i' h1 h2 => ?_⟩
  · rw [gup_ne (by simp)]; exact h.1 k' hk'
  · rw [gup_ne (by simp)]; exact h.2.2.1 e' he k' h1 h2
  · rw [gup_ne (by omega)]; exact h.2.2.2.1 i' hi k' h1 h2
  · by_cases hq : i' = i
    · subst hq; rw [gup_eq]; simp [sO]
    · rw [gup_ne (by omega), h.2.2.2.2.1 i' hi]; simp [sO, hq]
  · rw [gup_ne (by omega)]; exact h.2.2.2.2.2.1 i' hi
  · refine ⟨fun k' q1 q2 => ?_, ?_⟩
    · rw [gup_ne (by omega)]; exact (h.2.2.2.2.2.2 h0 i' h1 h2).1 k' q1 q2
    · by_cases hq : i' = i
      · subst hq; rw [gup_eq]; simp [sO]
      · rw [gup_ne (by omega), (h.2.2.2.2.2.2 h0 i' h1 h2).2]; simp [sO, hq]
theorem AbsC.setQ {V V' : gMem} {b : Nat} {S : gSt} (h : AbsC V b S) {r : Nat} {xs : List Nat} (hx : RowIs V' b r xs) (hm : rowmod V V' b r) : AbsC V' b (sQ S r xs) := by
  have e : ∀ K i, K ≠ 13 → K ≠ 14 → V' K b i = V K b i := fun K i h1 h2 => hm K b i (fun q => by omega)
  refine ⟨fun k' hk' => ?_, fun r' hr => ?_, fun e' he k' h1 h2 => ?_, fun i' hi k' h1 h2 => ?_, fun i' hi => ?_, fun i' hi => ?_, fun h0 i' h1 h2 => ?_⟩
  · rw [e 10 0 (by decide) (by decide)]; exact h.1 k' hk'
  · by_cases hq : r' = r
    · subst hq; simp only [sQ, if_true]; exact hx
    · simp only [sQ, if_neg hq]; exact (h.2.1 r' hr).mod hm (fun q => hq q.2)
  · rw [e 12 e' (by decide) (by decide)]; exact h.2.2.1 e' he k' h1 h2
  · rw [e 15 i' (by decide) (by decide)]; exact h.2.2.2.1 i' hi k' h1 h2
  · rw [e 15 i' (by decide) (by decide)]; exact h.2.2.2.2.1 i' hi
  · rw [e 15 i' (by decide) (by decide)]; exact h.2.2.2.2.2.1 i' hi
  · rw [e 15 i' (by decide) (by decide)]; exact h.2.2.2.2.2.2 h0 i' h1 h2
end
section
abbrev rmX0_gateAt : Room := { frames := 0, cells := 0, slots := 0, locals := 0 }
set_option maxRecDepth 20000 in
theorem k_gateAt {l : Launch} {B : gB} (hI : gI B) (V : gMem) (b : Nat) (e : Nat) (hb : b < 3) (he : e < 2) : gM l B yX0_gateAt cX0_gateAt 2 (some (.object "FogBridge$Gate")) rmX0_gateAt [.ref (B.2.1 10 b 0), .int (nI e)] V (fun v V' => v = some (.ref (B.2.1 12 b e)) ∧ V' = V) := by
  refine gM_of (own := RX0) (L := [(0, .ref (B.2.1 10 b 0)), (1, .int (nI e))]) (by decide +kernel) rfl hI (Nat.le_of_ble_eq_true rfl) rfl ?_
  intro Z hnL hR X F
  refine g_iload_n X 1 rfl dX0_gateAt_0 ?_
  by_cases h0 : e = 0
  · skip
    refine g_if_ne X 11 (by decide) dX0_gateAt_1 (fun c1 => ?_) (fun c1 => ?_)
    · first | exact absurd (fun q => q (by rw [h0]; rfl)) c1 | exact absurd c1 (fun q => q (by rw [h0]; rfl))
    · refine g_aload_n X 0 rfl dX0_gateAt_4 ?_
      refine gg_X0_firstGate X (gP_10 (by first | assumption | decide | omega)) fX0_33 dX0_gateAt_5 ?_
      refine g_goto X 15 (by decide) dX0_gateAt_8 ?_
      refine g_aret X F (Or.inr ⟨_, rfl⟩) ?_ rfl dX0_gateAt_15
      exact ⟨by rw [h0], rfl⟩
  · have h1 : e = 1 := by omega
    refine g_if_ne X 11 (by decide) dX0_gateAt_1 (fun c2 => ?_) (fun c2 => ?_)
    · refine g_aload_n X 0 rfl dX0_gateAt_11 ?_
      refine gg_X0_secondGate X (gP_10 (by first | assumption | decide | omega)) fX0_37 dX0_gateAt_12 ?_
      refine g_aret X F (Or.inr ⟨_, rfl⟩) ?_ rfl dX0_gateAt_15
      exact ⟨by rw [h1], rfl⟩
    · first | exact absurd (nI_ne0 (by omega) (by omega)) c2 | exact absurd c2 (nI_ne0 (by omega) (by omega))

abbrev rmX0_cartAt : Room := { frames := 1, cells := 0, slots := 0, locals := 21 }
set_option maxRecDepth 20000 in
theorem k_cartAt {l : Launch} {B : gB} (hI : gI B) (V : gMem) (b : Nat) (S : gSt) (i : Nat) (hb : b < 3) (hS : AbsC V b S) (hn : S.1 6 ≤ 16) (hi : i < S.1 6) : gM l B yX0_cartAt cX0_cartAt 2 (some (.object "FogBridge$Cart")) rmX0_cartAt [.ref (B.2.1 10 b 0), .int (nI i)] V (fun v V' => v = some (.ref (B.2.1 15 b i)) ∧ V' = V) := by
  refine gM_of (own := RX0) (L := [(0, .ref (B.2.1 10 b 0)), (1, .int (nI i))]) (by decide +kernel) rfl hI (Nat.le_of_ble_eq_true rfl) rfl ?_
  intro Z hnL hR X F
  refine g_iload_n X 1 rfl dX0_cartAt_0 ?_
  refine g_aload_n X 0 rfl dX0_cartAt_1 ?_
  refine gg_X0_cartCount X (gP_10 (by first | assumption | decide | omega)) fX0_50 dX0_cartAt_2 ?_
  refine gG_top (nI (S.1 6)) (hS.1 6 (by decide)) ?_
  refine g_icmp_ge X 29 (by decide) dX0_cartAt_5 (fun c1 => ?_) (fun c1 => ?_)
  · first | exact absurd (nI_ge hi (by omega)) c1 | exact absurd c1 (nI_ge hi (by omega))
  · have hi16 : i < 16 := by omega
    refine g_iload_n X 1 rfl dX0_cartAt_8 ?_
    refine g_aload_n X 0 rfl dX0_cartAt_9 ?_
    refine gg_X0_carts X (gP_10 (by first | assumption | decide | omega)) fX0_26 dX0_cartAt_10 ?_
    refine g_alenC X (by first | assumption | decide | omega) dX0_cartAt_13 ?_
    refine g_callS X hR (As := [.int (nI i), .int 16]) (rest := []) mX6_isIndex lX0_53 (k_isIndex1 hI V (nI i) 16 (nI_pos' (by omega)) (nI_lt (b := 16) hi16 (by decide))) rfl rfl (Nat.le_of_ble_eq_true rfl) ⟨Nat.le_of_ble_eq_true rfl, Nat.le_of_ble_eq_true rfl, Nat.le_of_ble_eq_true rfl, Nat.le_of_ble_eq_true rfl⟩ dX0_cartAt_14 (fun r2 V3 hz_4 => ?_)
    refine gG_ret hz_4.1 hz_4.2 ?_
    refine gG_st [.int 1] rfl ?_
    refine g_if_eq X 29 (by decide) dX0_cartAt_17 (fun c5 => ?_) (fun c5 => ?_)
    ·  exact absurd c5 (by decide)
    · refine g_aload_n X 0 rfl dX0_cartAt_20 ?_
      refine gg_X0_carts X (gP_10 (by first | assumption | decide | omega)) fX0_26 dX0_cartAt_21 ?_
      refine g_iload_n X 1 rfl dX0_cartAt_24 ?_
      refine g_aaldC X (i) rfl hi16 (by first | assumption | decide | omega) dX0_cartAt_25 ?_
      refine g_goto X 30 (by decide) dX0_cartAt_26 ?_
      refine g_aret X F (Or.inr ⟨_, rfl⟩) ?_ rfl dX0_cartAt_30
      exact ⟨rfl, rfl⟩

set_option maxRecDepth 20000 in
theorem k_cartAtm {l : Launch} {B : gB} (hI : gI B) (V : gMem) (b : Nat) (S : gSt) (hb : b < 3) (hS : AbsC V b S) (hn : S.1 6 ≤ 16) : gM l B yX0_cartAt cX0_cartAt 2 (some (.object "FogBridge$Cart")) rmX0_cartAt [.ref (B.2.1 10 b 0), .int ((-1))] V (fun v V' => v = some .null ∧ V' = V) := by
  refine gM_of (own := RX0) (L := [(0, .ref (B.2.1 10 b 0)), (1, .int ((-1)))]) (by decide +kernel) rfl hI (Nat.le_of_ble_eq_true rfl) rfl ?_
  intro Z hnL hR X F
  refine g_iload_n X 1 rfl dX0_cartAt_0 ?_
  refine g_aload_n X 0 rfl dX0_cartAt_1 ?_
  refine gg_X0_cartCount X (gP_10 (by first | assumption | decide | omega)) fX0_50 dX0_cartAt_2 ?_
  refine gG_top (nI (S.1 6)) (hS.1 6 (by decide)) ?_
  refine g_icmp_ge X 29 (by decide) dX0_cartAt_5 (fun c1 => ?_) (fun c1 => ?_)
  · first | exact absurd (fun q => absurd (Int32.le_trans (nI_pos' (by omega)) q) (by decide)) c1 | exact absurd c1 (fun q => absurd (Int32.le_trans (nI_pos' (by omega)) q) (by decide))
  · refine g_iload_n X 1 rfl dX0_cartAt_8 ?_
    refine g_aload_n X 0 rfl dX0_cartAt_9 ?_
    refine gg_X0_carts X (gP_10 (by first | assumption | decide | omega)) fX0_26 dX0_cartAt_10 ?_
    refine g_alenC X (by first | assumption | decide | omega) dX0_cartAt_13 ?_
    refine g_callS X hR (As := [.int ((-1)), .int 16]) (rest := []) mX6_isIndex lX0_53 (k_isIndexN hI V (-1) 16 (by decide)) rfl rfl (Nat.le_of_ble_eq_true rfl) ⟨Nat.le_of_ble_eq_true rfl, Nat.le_of_ble_eq_true rfl, Nat.le_of_ble_eq_true rfl, Nat.le_of_ble_eq_true rfl⟩ dX0_cartAt_14 (fun r2 V3 hz_4 => ?_)
    refine gG_ret hz_4.1 hz_4.2 ?_
    refine gG_st [.int 0] rfl ?_
    refine g_if_eq X 29 (by decide) dX0_cartAt_17 (fun c5 => ?_) (fun c5 => ?_)
    · refine g_null X dX0_cartAt_29 ?_
      refine g_aret X F (Or.inl rfl) ?_ rfl dX0_cartAt_30
      exact ⟨rfl, rfl⟩
    ·  exact absurd c5 (by decide)

set_option maxRecDepth 20000 in
theorem k_cartAtout {l : Launch} {B : gB} (hI : gI B) (V : gMem) (b : Nat) (S : gSt) (x : Int32) (hb : b < 3) (hS : AbsC V b S) (hn : S.1 6 ≤ 16) (hx : ¬ (0 ≤ x ∧ x < nI (S.1 6))) : gM l B yX0_cartAt cX0_cartAt 2 (some (.object "FogBridge$Cart")) rmX0_cartAt [.ref (B.2.1 10 b 0), .int x] V (fun v V' => v = some .null ∧ V' = V) := by
  refine gM_of (own := RX0) (L := [(0, .ref (B.2.1 10 b 0)), (1, .int x)]) (by decide +kernel) rfl hI (Nat.le_of_ble_eq_true rfl) rfl ?_
  intro Z hnL hR X F
  refine g_iload_n X 1 rfl dX0_cartAt_0 ?_
  refine g_aload_n X 0 rfl dX0_cartAt_1 ?_
  refine gg_X0_cartCount X (gP_10 (by first | assumption | decide | omega)) fX0_50 dX0_cartAt_2 ?_
  refine gG_top (nI (S.1 6)) (hS.1 6 (by decide)) ?_
  refine g_icmp_ge X 29 (by decide) dX0_cartAt_5 (fun c1 => ?_) (fun c1 => ?_)
  · refine g_null X dX0_cartAt_29 ?_
    refine g_aret X F (Or.inl rfl) ?_ rfl dX0_cartAt_30
    exact ⟨rfl, rfl⟩
  · refine g_iload_n X 1 rfl dX0_cartAt_8 ?_
    refine g_aload_n X 0 rfl dX0_cartAt_9 ?_
    refine gg_X0_carts X (gP_10 (by first | assumption | decide | omega)) fX0_26 dX0_cartAt_10 ?_
    refine g_alenC X (by first | assumption | decide | omega) dX0_cartAt_13 ?_
    have hx0 : x < 0 := Int32.not_le.mp fun q => hx ⟨q, Int32.not_le.mp c1⟩
    refine g_callS X hR (As := [.int x, .int 16]) (rest := []) mX6_isIndex lX0_53 (k_isIndexN hI V x 16 hx0) rfl rfl (Nat.le_of_ble_eq_true rfl) ⟨Nat.le_of_ble_eq_true rfl, Nat.le_of_ble_eq_true rfl, Nat.le_of_ble_eq_true rfl, Nat.le_of_ble_eq_true rfl⟩ dX0_cartAt_14 (fun r2 V3 hz_4 => ?_)
    refine gG_ret hz_4.1 hz_4.2 ?_
    refine gG_st [.int 0] rfl ?_
    refine g_if_eq X 29 (by decide) dX0_cartAt_17 (fun c5 => ?_) (fun c5 => ?_)
    · refine g_null X dX0_cartAt_29 ?_
      refine g_aret X F (Or.inl rfl) ?_ rfl dX0_cartAt_30
      exact ⟨rfl, rfl⟩
    ·  exact absurd c5 (by decide)

def sToll (S : gSt) (ax wt : Nat) : Nat := ax * S.1 4 + wt / 10 * S.1 5

abbrev rmX0_tollFor : Room := { frames := 0, cells := 0, slots := 0, locals := 0 }
set_option maxRecDepth 20000 in
theorem k_tollFor {l : Launch} {B : gB} (hI : gI B) (V : gMem) (b : Nat) (S : gSt) (ax : Nat) (wt : Nat) (hb : b < 3) (hS : AbsC V b S) (hw : wt < 2 ^ 31) : gM l B yX0_tollFor cX0_tollFor 3 (some .int) rmX0_tollFor [.ref (B.2.1 10 b 0), .int (nI ax), .int (nI wt)] V (fun v V' => v = some (.int (nI (sToll S ax wt))) ∧ V' = V) := by
  refine gM_of (own := RX0) (L := [(0, .ref (B.2.1 10 b 0)), (1, .int (nI ax)), (2, .int (nI wt))]) (by decide +kernel) rfl hI (Nat.le_of_ble_eq_true rfl) rfl ?_
  intro Z hnL hR X F
  refine g_iload_n X 1 rfl dX0_tollFor_0 ?_
  refine g_aload_n X 0 rfl dX0_tollFor_1 ?_
  refine gg_X0_axleToll X (gP_10 (by first | assumption | decide | omega)) fX0_18 dX0_tollFor_2 ?_
  refine gG_top (nI (S.1 4)) (hS.1 4 (by decide)) ?_
  refine g_imul X dX0_tollFor_5 ?_
  refine gG_top (nI (ax * (S.1 4))) (pk_mul ax (S.1 4)) ?_
  refine g_iload_n X 2 rfl dX0_tollFor_6 ?_
  refine g_bipush X 10 (by decide) dX0_tollFor_7 ?_
  refine g_idiv X (by decide) dX0_tollFor_9 ?_
  refine gG_top (nI (wt / 10)) (pk_div (d := 10) hw (by decide) (by decide)) ?_
  refine g_aload_n X 0 rfl dX0_tollFor_10 ?_
  refine gg_X0_tenToll X (gP_10 (by first | assumption | decide | omega)) fX0_21 dX0_tollFor_11 ?_
  refine gG_top (nI (S.1 5)) (hS.1 5 (by decide)) ?_
  refine g_imul X dX0_tollFor_14 ?_
  refine gG_top (nI ((wt / 10) * (S.1 5))) (pk_mul (wt / 10) (S.1 5)) ?_
  refine g_iadd X dX0_tollFor_15 ?_
  refine gG_top (nI ((ax * (S.1 4)) + ((wt / 10) * (S.1 5)))) (nI_add (ax * (S.1 4)) ((wt / 10) * (S.1 5))) ?_
  refine g_iret X F ?_ rfl dX0_tollFor_16
  exact ⟨rfl, rfl⟩

def sTake (S : gSt) (e i pd hn : Nat) : gSt :=
  let S1 := sG S e 1 (S.2.2.1 e 1 + pd)
  let S2 := sG S1 e 2 (S1.2.2.1 e 2 + 1)
  let S3 := sG S2 e 3 (S2.2.2.1 e 3 + S2.2.2.2.1 i 2)
  sG S3 e 4 (S3.2.2.1 e 4 + (hn - pd))

abbrev rmX3_take : Room := { frames := 0, cells := 0, slots := 0, locals := 0 }
set_option maxRecDepth 20000 in
theorem k_take {l : Launch} {B : gB} (hI : gI B) (V : gMem) (b : Nat) (S : gSt) (e : Nat) (i : Nat) (pd : Nat) (hn : Nat) (hb : b < 3) (hS : AbsC V b S) (he : e < 2) (hi : i < S.1 6) (hN : S.1 6 ≤ 16) (hp : pd ≤ hn) : gM l B yX3_take cX3_take 4 none rmX3_take [.ref (B.2.1 12 b e), .ref (B.2.1 15 b i), .int (nI pd), .int (nI hn)] V (fun v V' => v = none ∧ AbsC V' b (sTake S e i pd hn) ∧ brmod V V' b) := by
  refine gM_of (own := RX3) (L := [(0, .ref (B.2.1 12 b e)), (1, .ref (B.2.1 15 b i)), (2, .int (nI pd)), (3, .int (nI hn))]) (by decide +kernel) rfl hI (Nat.le_of_ble_eq_true rfl) rfl ?_
  intro Z hnL hR X F
  refine g_aload_n X 0 rfl dX3_take_0 ?_
  refine g_dup X rfl dX3_take_1 ?_
  refine gg_X3_coins X (gP_12 (by first | assumption | decide | omega) (by first | assumption | decide | omega)) fX3_18 dX3_take_2 ?_
  refine gG_top (nI (S.2.2.1 e 1)) (hS.2.2.1 e (by first | assumption | decide | omega) 1 (by decide) (by decide)) ?_
  refine g_iload_n X 2 rfl dX3_take_5 ?_
  refine g_iadd X dX3_take_6 ?_
  refine gG_top (nI ((S.2.2.1 e 1) + pd)) (nI_add (S.2.2.1 e 1) pd) ?_
  refine gp_X3_coins X (gP_12 (by first | assumption | decide | omega) (by first | assumption | decide | omega)) fX3_18 dX3_take_7 ?_
  refine gG_nm (fun V1 hV1 => ?_)
  obtain ⟨S2, eS2⟩ : ∃ y, y = sG S e 1 ((S.2.2.1 e 1) + pd) := ⟨_, rfl⟩
  have hS2 : AbsC V1 b S2 := by rw [eS2, hV1]; exact hS.setG e 1 ((S.2.2.1 e 1) + pd)
  have mS2 : brmod V V1 b := by rw [hV1]; exact brmod.rf.up (by decide) (by decide)
  have nS2 : S2.1 = S.1 := by rw [eS2]; exact rfl
  refine g_aload_n X 0 rfl dX3_take_10 ?_
  refine g_dup X rfl dX3_take_11 ?_
  refine gg_X3_payers X (gP_12 (by first | assumption | decide | omega) (by first | assumption | decide | omega)) fX3_22 dX3_take_12 ?_
  refine gG_top (nI (S2.2.2.1 e 2)) (hS2.2.2.1 e (by first | assumption | decide | omega) 2 (by decide) (by decide)) ?_
  refine g_iconst X 1 (by decide) dX3_take_15 ?_
  refine g_iadd X dX3_take_16 ?_
  refine gG_top (nI ((S2.2.2.1 e 2) + 1)) (nI_1 _) ?_
  refine gp_X3_payers X (gP_12 (by first | assumption | decide | omega) (by first | assumption | decide | omega)) fX3_22 dX3_take_17 ?_
  refine gG_nm (fun V3 hV3 => ?_)
  obtain ⟨S4, eS4⟩ : ∃ y, y = sG S2 e 2 ((S2.2.2.1 e 2) + 1) := ⟨_, rfl⟩
  have hS4 : AbsC V3 b S4 := by rw [eS4, hV3]; exact hS2.setG e 2 ((S2.2.2.1 e 2) + 1)
  have mS4 : brmod V V3 b := by rw [hV3]; exact mS2.up (by decide) (by decide)
  have nS4 : S4.1 = S.1 := by rw [eS4]; exact nS2
  refine g_aload_n X 0 rfl dX3_take_20 ?_
  refine g_dup X rfl dX3_take_21 ?_
  refine gg_X3_axles X (gP_12 (by first | assumption | decide | omega) (by first | assumption | decide | omega)) fX3_25 dX3_take_22 ?_
  refine gG_top (nI (S4.2.2.1 e 3)) (hS4.2.2.1 e (by first | assumption | decide | omega) 3 (by decide) (by decide)) ?_
  refine g_aload_n X 1 rfl dX3_take_25 ?_
  refine gg_X1_axles X (gP_15 (by first | assumption | decide | omega) (by first | assumption | decide | omega)) fX3_28 dX3_take_26 ?_
  refine gG_top (nI (S4.2.2.2.1 i 2)) (hS4.2.2.2.1 i (by rw [nS4]; first | assumption | omega) 2 (by decide) (by decide)) ?_
  refine g_iadd X dX3_take_29 ?_
  refine gG_top (nI ((S4.2.2.1 e 3) + (S4.2.2.2.1 i 2))) (nI_add (S4.2.2.1 e 3) (S4.2.2.2.1 i 2)) ?_
  refine gp_X3_axles X (gP_12 (by first | assumption | decide | omega) (by first | assumption | decide | omega)) fX3_25 dX3_take_30 ?_
  refine gG_nm (fun V5 hV5 => ?_)
  obtain ⟨S6, eS6⟩ : ∃ y, y = sG S4 e 3 ((S4.2.2.1 e 3) + (S4.2.2.2.1 i 2)) := ⟨_, rfl⟩
  have hS6 : AbsC V5 b S6 := by rw [eS6, hV5]; exact hS4.setG e 3 ((S4.2.2.1 e 3) + (S4.2.2.2.1 i 2))
  have mS6 : brmod V V5 b := by rw [hV5]; exact mS4.up (by decide) (by decide)
  have nS6 : S6.1 = S.1 := by rw [eS6]; exact nS4
  refine g_aload_n X 0 rfl dX3_take_33 ?_
  refine g_dup X rfl dX3_take_34 ?_
  refine gg_X3_keptByCheats X (gP_12 (by first | assumption | decide | omega) (by first | assumption | decide | omega)) fX3_31 dX3_take_35 ?_
  refine gG_top (nI (S6.2.2.1 e 4)) (hS6.2.2.1 e (by first | assumption | decide | omega) 4 (by decide) (by decide)) ?_
  refine g_iload_n X 3 rfl dX3_take_38 ?_
  refine g_iload_n X 2 rfl dX3_take_39 ?_
  refine g_isub X dX3_take_40 ?_
  refine gG_top (nI (hn - pd)) (pk_sub hp) ?_
  refine g_iadd X dX3_take_41 ?_
  refine gG_top (nI ((S6.2.2.1 e 4) + (hn - pd))) (nI_add (S6.2.2.1 e 4) (hn - pd)) ?_
  refine gp_X3_keptByCheats X (gP_12 (by first | assumption | decide | omega) (by first | assumption | decide | omega)) fX3_31 dX3_take_42 ?_
  refine gG_nm (fun V7 hV7 => ?_)
  obtain ⟨S8, eS8⟩ : ∃ y, y = sG S6 e 4 ((S6.2.2.1 e 4) + (hn - pd)) := ⟨_, rfl⟩
  have hS8 : AbsC V7 b S8 := by rw [eS8, hV7]; exact hS6.setG e 4 ((S6.2.2.1 e 4) + (hn - pd))
  have mS8 : brmod V V7 b := by rw [hV7]; exact mS6.up (by decide) (by decide)
  have nS8 : S8.1 = S.1 := by rw [eS8]; exact nS6
  refine g_vret X F ?_ rfl dX3_take_45
  subst eS8 eS6 eS4 eS2
  exact ⟨rfl, hS8, mS8⟩

def sDue (S : gSt) (i : Nat) : Nat := if S.2.2.2.1 i 6 = 0 then sToll S (S.2.2.2.1 i 2) (S.2.2.2.1 i 3) else sToll S 1 (S.2.2.2.1 i 3)
def sPay (S : gSt) (e i : Nat) : gSt := sTake (sC (sC S i 5 (S.2.2.2.1 i 5 - sDue S i)) i 7 1) e i (sDue S i) (sToll S (S.2.2.2.1 i 2) (S.2.2.2.1 i 3))
/-- the bounds that the document sets a cart and the tolls -/
def sCartOk (S : gSt) (i : Nat) : Prop := S.2.2.2.1 i 1 ≤ 1 ∧ (1 ≤ S.2.2.2.1 i 2 ∧ S.2.2.2.1 i 2 ≤ 4) ∧ S.2.2.2.1 i 3 ≤ 200 ∧ (1 ≤ S.2.2.2.1 i 4 ∧ S.2.2.2.1 i 4 ≤ 3) ∧ S.2.2.2.1 i 5 ≤ 100 ∧ S.2.2.2.1 i 6 ≤ 1 ∧ S.2.2.2.1 i 7 ≤ 1 ∧ S.2.2.2.1 i 8 ≤ 3
def sNumOk (S : gSt) : Prop := S.1 1 ≤ 1 ∧ (4 ≤ S.1 2 ∧ S.1 2 ≤ 30) ∧ S.1 3 ≤ 500 ∧ S.1 4 ≤ 9 ∧ S.1 5 ≤ 9 ∧ S.1 6 ≤ 16
theorem sToll_le {S : gSt} (h : sNumOk S) {a w : Nat} (ha : a ≤ 4) (hw : w ≤ 200) : sToll S a w ≤ 216 := by
  obtain ⟨-, -, -, h4, h5, -⟩ := h
  have h1 : a * S.1 4 ≤ 4 * 9 := Nat.mul_le_mul ha h4
  have h2 : w / 10 * S.1 5 ≤ 20 * 9 := Nat.mul_le_mul (by omega) h5
  unfold sToll
  omega
theorem sToll_one {S : gSt} {a w : Nat} (ha : 1 ≤ a) : sToll S 1 w ≤ sToll S a w := by
  unfold sToll
  have : 1 * S.1 4 ≤ a * S.1 4 := Nat.mul_le_mul_right _ ha
  omega
theorem sDue_le {S : gSt} {i : Nat} (h : sCartOk S i) : sDue S i ≤ sToll S (S.2.2.2.1 i 2) (S.2.2.2.1 i 3) := by
  unfold sDue
  split
  · exact Nat.le_refl _
  · exact sToll_one h.2.1.1
theorem sDue_216 {S : gSt} {i : Nat} (hn : sNumOk S) (h : sCartOk S i) : sDue S i ≤ 216 := Nat.le_trans (sDue_le h) (sToll_le hn h.2.1.2 h.2.2.1)

abbrev rmX0_pays : Room := { frames := 1, cells := 0, slots := 0, locals := 23 }
set_option maxRecDepth 20000 in
theorem k_pays {l : Launch} {B : gB} (hI : gI B) (V : gMem) (b : Nat) (S : gSt) (e : Nat) (i : Nat) (hb : b < 3) (hS : AbsC V b S) (he : e < 2) (hi : i < S.1 6) (hn : sNumOk S) (hc : sCartOk S i) : gM l B yX0_pays cX0_pays 5 (some .boolean) rmX0_pays [.ref (B.2.1 10 b 0), .ref (B.2.1 15 b i), .ref (B.2.1 12 b e)] V (fun v V' => v = some (.int (if S.2.2.2.1 i 5 < sDue S i then 0 else 1)) ∧ AbsC V' b (if S.2.2.2.1 i 5 < sDue S i then S else sPay S e i) ∧ brmod V V' b) := by
  refine gM_of (own := RX0) (L := [(0, .ref (B.2.1 10 b 0)), (1, .ref (B.2.1 15 b i)), (2, .ref (B.2.1 12 b e))]) (by decide +kernel) rfl hI (Nat.le_of_ble_eq_true rfl) rfl ?_
  intro Z hnL hR X F
  have hN : S.1 6 ≤ 16 := hn.2.2.2.2.2
  have h216 := sDue_216 hn hc
  have hle := sDue_le hc
  have hw2 := hc.2.2.1
  have hco := hc.2.2.2.2.1
  refine g_aload_n X 0 rfl dX0_pays_0 ?_
  refine g_aload_n X 1 rfl dX0_pays_1 ?_
  refine gg_X1_axles X (gP_15 (by first | assumption | decide | omega) (by first | assumption | decide | omega)) fX0_93 dX0_pays_2 ?_
  refine gG_top (nI (S.2.2.2.1 i 2)) (hS.2.2.2.1 i (by first | assumption | omega) 2 (by decide) (by decide)) ?_
  refine g_aload_n X 1 rfl dX0_pays_5 ?_
  refine gg_X1_weight X (gP_15 (by first | assumption | decide | omega) (by first | assumption | decide | omega)) fX0_87 dX0_pays_6 ?_
  refine gG_top (nI (S.2.2.2.1 i 3)) (hS.2.2.2.1 i (by first | assumption | omega) 3 (by decide) (by decide)) ?_
  refine g_callV X hR (rest := []) mX0_tollFor lX0_107 (k_tollFor hI V b S (S.2.2.2.1 i 2) (S.2.2.2.1 i 3) (by first | assumption | decide | omega) hS (by omega)) rfl rfl (Nat.le_of_ble_eq_true rfl) (gP_10 (by first | assumption | decide | omega)) rfl rfl rfl ⟨Nat.le_of_ble_eq_true rfl, Nat.le_of_ble_eq_true rfl, Nat.le_of_ble_eq_true rfl, Nat.le_of_ble_eq_true rfl⟩ dX0_pays_9 (fun r1 V2 hz_3 => ?_)
  refine gG_ret hz_3.1 hz_3.2 ?_
  refine gG_st [.int (nI (sToll S (S.2.2.2.1 i 2) (S.2.2.2.1 i 3)))] rfl ?_
  refine g_istore_n X rfl dX0_pays_12 [(3, .int (nI (sToll S (S.2.2.2.1 i 2) (S.2.2.2.1 i 3)))), (0, .ref (B.2.1 10 b 0)), (1, .ref (B.2.1 15 b i)), (2, .ref (B.2.1 12 b e))] rfl (gnl_lt hnL (by decide)) ?_
  refine g_aload_n X 2 rfl dX0_pays_13 ?_
  refine gg_X1_isCheat X (gP_15 (by first | assumption | decide | omega) (by first | assumption | decide | omega)) fX0_190 dX0_pays_14 ?_
  refine gG_top (nI (S.2.2.2.1 i 6)) (hS.2.2.2.1 i (by first | assumption | omega) 6 (by decide) (by decide)) ?_
  by_cases hz : S.2.2.2.1 i 6 = 0
  · skip
    refine g_if_eq X 32 (by decide) dX0_pays_17 (fun c4 => ?_) (fun c4 => ?_)
    · refine g_iload_n X 0 rfl dX0_pays_32 ?_
      refine gG_top (nI (sDue S i)) (by rw [show sDue S i = sToll S (S.2.2.2.1 i 2) (S.2.2.2.1 i 3) from if_pos hz]) ?_
      refine g_istore X dX0_pays_33 [(4, .int (nI (sDue S i))), (3, .int (nI (sToll S (S.2.2.2.1 i 2) (S.2.2.2.1 i 3)))), (0, .ref (B.2.1 10 b 0)), (1, .ref (B.2.1 15 b i)), (2, .ref (B.2.1 12 b e))] rfl (gnl_lt hnL (by decide)) ?_
      refine g_aload_n X 3 rfl dX0_pays_35 ?_
      refine gg_X1_coins X (gP_15 (by first | assumption | decide | omega) (by first | assumption | decide | omega)) fX0_99 dX0_pays_36 ?_
      refine gG_top (nI (S.2.2.2.1 i 5)) (hS.2.2.2.1 i (by first | assumption | omega) 5 (by decide) (by decide)) ?_
      refine g_iload X 0 rfl dX0_pays_39 ?_
      refine g_icmp_ge X 46 (by decide) dX0_pays_41 (fun c5 => ?_) (fun c5 => ?_)
      · refine g_aload_n X 3 rfl dX0_pays_46 ?_
        refine g_dup X rfl dX0_pays_47 ?_
        refine gg_X1_coins X (gP_15 (by first | assumption | decide | omega) (by first | assumption | decide | omega)) fX0_99 dX0_pays_48 ?_
        refine gG_top (nI (S.2.2.2.1 i 5)) (hS.2.2.2.1 i (by first | assumption | omega) 5 (by decide) (by decide)) ?_
        refine g_iload X 0 rfl dX0_pays_51 ?_
        refine g_isub X dX0_pays_53 ?_
        refine gG_top (nI (S.2.2.2.1 i 5 - sDue S i)) (pk_sub (by have := ixle c5 (by omega) (by omega); omega)) ?_
        refine gp_X1_coins X (gP_15 (by first | assumption | decide | omega) (by first | assumption | decide | omega)) fX0_99 dX0_pays_54 ?_
        refine gG_nm (fun V6 hV6 => ?_)
        obtain ⟨S7, eS7⟩ : ∃ y, y = sC S i 5 (S.2.2.2.1 i 5 - sDue S i) := ⟨_, rfl⟩
        have hS7 : AbsC V6 b S7 := by rw [eS7, hV6]; exact hS.setC i 5 (S.2.2.2.1 i 5 - sDue S i) (by decide)
        have mS7 : brmod V V6 b := by rw [hV6]; exact brmod.rf.up (by decide) (by decide)
        have nS7 : S7.1 = S.1 := by rw [eS7]; exact rfl
        refine g_aload_n X 3 rfl dX0_pays_57 ?_
        refine g_iconst X 1 (by decide) dX0_pays_58 ?_
        refine gp_X1_hasPaid X rfl rfl (gP_15 (by first | assumption | decide | omega) (by first | assumption | decide | omega)) fX0_173 dX0_pays_59 ?_
        refine gG_nm (fun V8 hV8 => ?_)
        obtain ⟨S9, eS9⟩ : ∃ y, y = sC S7 i 7 1 := ⟨_, rfl⟩
        have hS9 : AbsC V8 b S9 := by rw [eS9, hV8]; exact hS7.setC i 7 1 (by decide)
        have mS9 : brmod V V8 b := by rw [hV8]; exact mS7.up (by decide) (by decide)
        have nS9 : S9.1 = S.1 := by rw [eS9]; exact nS7
        refine g_aload_n X 4 rfl dX0_pays_62 ?_
        refine g_aload_n X 3 rfl dX0_pays_63 ?_
        refine g_iload X 0 rfl dX0_pays_64 ?_
        refine g_iload_n X 1 rfl dX0_pays_66 ?_
        refine g_callV X hR (rest := []) mX3_take lX0_193 (k_take hI V8 b S9 e i (sDue S i) (sToll S (S.2.2.2.1 i 2) (S.2.2.2.1 i 3)) (by first | assumption | decide | omega | (rw [nS9]; first | assumption | omega)) hS9 (by first | assumption | decide | omega | (rw [nS9]; first | assumption | omega)) (by first | assumption | decide | omega | (rw [nS9]; first | assumption | omega)) (by first | assumption | decide | omega | (rw [nS9]; first | assumption | omega)) hle) rfl rfl (Nat.le_of_ble_eq_true rfl) (gP_12 (by first | assumption | decide | omega) (by first | assumption | decide | omega)) rfl rfl rfl ⟨Nat.le_of_ble_eq_true rfl, Nat.le_of_ble_eq_true rfl, Nat.le_of_ble_eq_true rfl, Nat.le_of_ble_eq_true rfl⟩ dX0_pays_67 (fun r10 V11 hz_12 => ?_)
        refine gG_rv hz_12.1 ?_
        obtain ⟨-, haV11, hbV11⟩ := hz_12
        obtain ⟨S13, eS13⟩ : ∃ y, y = sTake S9 e i (sDue S i) (sToll S (S.2.2.2.1 i 2) (S.2.2.2.1 i 3)) := ⟨_, rfl⟩
        have hS13 : AbsC V11 b S13 := by rw [eS13]; exact haV11
        have mS13 : brmod V V11 b := mS9.trans hbV11
        have nS13 : S13.1 = S.1 := by rw [eS13]; exact nS9
        refine gG_st [] rfl ?_
        refine g_iconst X 1 (by decide) dX0_pays_70 ?_
        refine g_zret X F rfl ?_ rfl dX0_pays_71
        subst eS13 eS9 eS7
        exact ⟨by rw [if_neg (by have := ixle c5 (by omega) (by omega); omega)], by rw [if_neg (by have := ixle c5 (by omega) (by omega); omega)]; exact hS13, mS13⟩
      · refine g_iconst X 0 (by decide) dX0_pays_44 ?_
        refine g_zret X F rfl ?_ rfl dX0_pays_45
        exact ⟨by rw [if_pos (by have := ixnle c5 (by omega) (by omega); omega)], by rw [if_pos (by have := ixnle c5 (by omega) (by omega); omega)]; exact hS, brmod.rf⟩
    · first | exact absurd (by rw [hz]; rfl) c4 | exact absurd c4 (by rw [hz]; rfl)
  · skip
    refine g_if_eq X 32 (by decide) dX0_pays_17 (fun c14 => ?_) (fun c14 => ?_)
    · first | exact absurd (nI_ne0 (by omega) (by have := hc.2.2.2.2.2.1; omega)) c14 | exact absurd c14 (nI_ne0 (by omega) (by have := hc.2.2.2.2.2.1; omega))
    · refine g_aload_n X 1 rfl dX0_pays_20 ?_
      refine g_iconst X 1 (by decide) dX0_pays_21 ?_
      refine g_aload_n X 2 rfl dX0_pays_22 ?_
      refine gg_X1_weight X (gP_15 (by first | assumption | decide | omega) (by first | assumption | decide | omega)) fX0_87 dX0_pays_23 ?_
      refine gG_top (nI (S.2.2.2.1 i 3)) (hS.2.2.2.1 i (by first | assumption | omega) 3 (by decide) (by decide)) ?_
      refine g_callV X hR (rest := []) mX0_tollFor lX0_107 (k_tollFor hI V b S 1 (S.2.2.2.1 i 3) (by first | assumption | decide | omega) hS (by omega)) rfl rfl (Nat.le_of_ble_eq_true rfl) (gP_10 (by first | assumption | decide | omega)) rfl rfl rfl ⟨Nat.le_of_ble_eq_true rfl, Nat.le_of_ble_eq_true rfl, Nat.le_of_ble_eq_true rfl, Nat.le_of_ble_eq_true rfl⟩ dX0_pays_26 (fun r15 V16 hz_17 => ?_)
      refine gG_ret hz_17.1 hz_17.2 ?_
      refine gG_st [.int (nI (sToll S 1 (S.2.2.2.1 i 3)))] rfl ?_
      refine g_goto X 33 (by decide) dX0_pays_29 ?_
      refine gG_top (nI (sDue S i)) (by rw [show sDue S i = sToll S 1 (S.2.2.2.1 i 3) from if_neg hz]) ?_
      refine g_istore X dX0_pays_33 [(4, .int (nI (sDue S i))), (3, .int (nI (sToll S (S.2.2.2.1 i 2) (S.2.2.2.1 i 3)))), (0, .ref (B.2.1 10 b 0)), (1, .ref (B.2.1 15 b i)), (2, .ref (B.2.1 12 b e))] rfl (gnl_lt hnL (by decide)) ?_
      refine g_aload_n X 3 rfl dX0_pays_35 ?_
      refine gg_X1_coins X (gP_15 (by first | assumption | decide | omega) (by first | assumption | decide | omega)) fX0_99 dX0_pays_36 ?_
      refine gG_top (nI (S.2.2.2.1 i 5)) (hS.2.2.2.1 i (by first | assumption | omega) 5 (by decide) (by decide)) ?_
      refine g_iload X 0 rfl dX0_pays_39 ?_
      refine g_icmp_ge X 46 (by decide) dX0_pays_41 (fun c18 => ?_) (fun c18 => ?_)
      · refine g_aload_n X 3 rfl dX0_pays_46 ?_
        refine g_dup X rfl dX0_pays_47 ?_
        refine gg_X1_coins X (gP_15 (by first | assumption | decide | omega) (by first | assumption | decide | omega)) fX0_99 dX0_pays_48 ?_
        refine gG_top (nI (S.2.2.2.1 i 5)) (hS.2.2.2.1 i (by first | assumption | omega) 5 (by decide) (by decide)) ?_
        refine g_iload X 0 rfl dX0_pays_51 ?_
        refine g_isub X dX0_pays_53 ?_
        refine gG_top (nI (S.2.2.2.1 i 5 - sDue S i)) (pk_sub (by have := ixle c18 (by omega) (by omega); omega)) ?_
        refine gp_X1_coins X (gP_15 (by first | assumption | decide | omega) (by first | assumption | decide | omega)) fX0_99 dX0_pays_54 ?_
        refine gG_nm (fun V19 hV19 => ?_)
        obtain ⟨S20, eS20⟩ : ∃ y, y = sC S i 5 (S.2.2.2.1 i 5 - sDue S i) := ⟨_, rfl⟩
        have hS20 : AbsC V19 b S20 := by rw [eS20, hV19]; exact hS.setC i 5 (S.2.2.2.1 i 5 - sDue S i) (by decide)
        have mS20 : brmod V V19 b := by rw [hV19]; exact brmod.rf.up (by decide) (by decide)
        have nS20 : S20.1 = S.1 := by rw [eS20]; exact rfl
        refine g_aload_n X 3 rfl dX0_pays_57 ?_
        refine g_iconst X 1 (by decide) dX0_pays_58 ?_
        refine gp_X1_hasPaid X rfl rfl (gP_15 (by first | assumption | decide | omega) (by first | assumption | decide | omega)) fX0_173 dX0_pays_59 ?_
        refine gG_nm (fun V21 hV21 => ?_)
        obtain ⟨S22, eS22⟩ : ∃ y, y = sC S20 i 7 1 := ⟨_, rfl⟩
        have hS22 : AbsC V21 b S22 := by rw [eS22, hV21]; exact hS20.setC i 7 1 (by decide)
        have mS22 : brmod V V21 b := by rw [hV21]; exact mS20.up (by decide) (by decide)
        have nS22 : S22.1 = S.1 := by rw [eS22]; exact nS20
        refine g_aload_n X 4 rfl dX0_pays_62 ?_
        refine g_aload_n X 3 rfl dX0_pays_63 ?_
        refine g_iload X 0 rfl dX0_pays_64 ?_
        refine g_iload_n X 1 rfl dX0_pays_66 ?_
        refine g_callV X hR (rest := []) mX3_take lX0_193 (k_take hI V21 b S22 e i (sDue S i) (sToll S (S.2.2.2.1 i 2) (S.2.2.2.1 i 3)) (by first | assumption | decide | omega | (rw [nS22]; first | assumption | omega)) hS22 (by first | assumption | decide | omega | (rw [nS22]; first | assumption | omega)) (by first | assumption | decide | omega | (rw [nS22]; first | assumption | omega)) (by first | assumption | decide | omega | (rw [nS22]; first | assumption | omega)) hle) rfl rfl (Nat.le_of_ble_eq_true rfl) (gP_12 (by first | assumption | decide | omega) (by first | assumption | decide | omega)) rfl rfl rfl ⟨Nat.le_of_ble_eq_true rfl, Nat.le_of_ble_eq_true rfl, Nat.le_of_ble_eq_true rfl, Nat.le_of_ble_eq_true rfl⟩ dX0_pays_67 (fun r23 V24 hz_25 => ?_)
        refine gG_rv hz_25.1 ?_
        obtain ⟨-, haV24, hbV24⟩ := hz_25
        obtain ⟨S26, eS26⟩ : ∃ y, y = sTake S22 e i (sDue S i) (sToll S (S.2.2.2.1 i 2) (S.2.2.2.1 i 3)) := ⟨_, rfl⟩
        have hS26 : AbsC V24 b S26 := by rw [eS26]; exact haV24
        have mS26 : brmod V V24 b := mS22.trans hbV24
        have nS26 : S26.1 = S.1 := by rw [eS26]; exact nS22
        refine gG_st [] rfl ?_
        refine g_iconst X 1 (by decide) dX0_pays_70 ?_
        refine g_zret X F rfl ?_ rfl dX0_pays_71
        subst eS26 eS22 eS20
        exact ⟨by rw [if_neg (by have := ixle c18 (by omega) (by omega); omega)], by rw [if_neg (by have := ixle c18 (by omega) (by omega); omega)]; exact hS26, mS26⟩
      · refine g_iconst X 0 (by decide) dX0_pays_44 ?_
        refine g_zret X F rfl ?_ rfl dX0_pays_45
        exact ⟨by rw [if_pos (by have := ixnle c18 (by omega) (by omega); omega)], by rw [if_pos (by have := ixnle c18 (by omega) (by omega); omega)]; exact hS, brmod.rf⟩

def sW (S : gSt) : Nat := ((S.2.1 2).map (fun i => S.2.2.2.1 i 3)).sum
theorem lat_some {xs : List Nat} {j i : Nat} (h : xs[j]? = some i) : lat xs j = nI i := by simp [lat, h]
theorem get_some {xs : List Nat} {j : Nat} (h : j < xs.length) : ∃ i, xs[j]? = some i := ⟨xs[j], List.getElem?_eq_getElem h⟩
theorem take_sum {xs : List Nat} {j i : Nat} (f : Nat → Nat) (h : xs[j]? = some i) : ((xs.take (j + 1)).map f).sum = ((xs.take j).map f).sum + f i := by
  rw [List.take_add_one, h]
  simp
theorem len31 {xs : List Nat} (h : xs.length ≤ 16) : xs.length < 2 ^ 31 := by omega

abbrev rmX0_weightOnBridge : Room := { frames := 2, cells := 0, slots := 0, locals := 42 }
set_option maxRecDepth 20000 in
theorem k_wob {l : Launch} {B : gB} (hI : gI B) (V : gMem) (b : Nat) (S : gSt) (hb : b < 3) (hS : AbsC V b S) (hn : S.1 6 ≤ 16) (hmem : ∀ i ∈ S.2.1 2, i < S.1 6) : gM l B yX0_weightOnBridge cX0_weightOnBridge 4 (some .int) rmX0_weightOnBridge [.ref (B.2.1 10 b 0)] V (fun v V' => v = some (.int (nI (sW S))) ∧ V' = V) := by
  refine gM_of (own := RX0) (L := [(0, .ref (B.2.1 10 b 0))]) (by decide +kernel) rfl hI (Nat.le_of_ble_eq_true rfl) rfl ?_
  intro Z hnL hR X F
  have hlen : (S.2.1 2).length ≤ 16 := hS.bnd (by decide)
  refine g_iconst X 0 (by decide) dX0_weightOnBridge_0 ?_
  refine g_istore_n X rfl dX0_weightOnBridge_1 [(1, .int 0), (0, .ref (B.2.1 10 b 0))] rfl (gnl_lt hnL (by decide)) ?_
  refine g_iconst X 0 (by decide) dX0_weightOnBridge_2 ?_
  refine g_istore_n X rfl dX0_weightOnBridge_3 [(2, .int 0), (1, .int 0), (0, .ref (B.2.1 10 b 0))] rfl (gnl_lt hnL (by decide)) ?_
  refine gG_L [2, 1, 0] (L' := [(0, .ref (B.2.1 10 b 0)), (1, .int 0), (2, .int 0)]) rfl ?_
  have loop : ∀ (f : Nat) (j : Nat) , j + f = (S.2.1 2).length →  gG Z B (0, 0) V 4 [(0, .ref (B.2.1 10 b 0)), (1, .int (nI ((((S.2.1 2).take j).map (fun i => S.2.2.2.1 i 3)).sum))), (2, .int (nI j))] [] := by
    intro f
    induction f with
    | zero =>
      intro j  hf 
      refine g_iload_n X 2 rfl dX0_weightOnBridge_4 ?_
      refine g_aload_n X 0 rfl dX0_weightOnBridge_5 ?_
      refine gg_X0_crossing X (gP_10 (by first | assumption | decide | omega)) fX0_43 dX0_weightOnBridge_6 ?_
      refine gg_X5_size X (gP_13 (by first | assumption | decide | omega) (by first | assumption | decide | omega)) fX0_80 dX0_weightOnBridge_9 ?_
      refine gG_top (nI (S.2.1 2).length) ((hS.2.1 2 (by first | decide | omega)).1) ?_
      refine g_icmp_ge X 45 (by decide) dX0_weightOnBridge_12 (fun c1 => ?_) (fun c1 => ?_)
      · refine g_iload_n X 1 rfl dX0_weightOnBridge_45 ?_
        refine g_iret X F ?_ rfl dX0_weightOnBridge_46
        exact ⟨by rw [show sW S = (((S.2.1 2).take j).map (fun i => S.2.2.2.1 i 3)).sum by rw [List.take_of_length_le (by omega)]; rfl], rfl⟩
      · first | exact absurd (nI_le (by omega) (by omega)) c1 | exact absurd c1 (nI_le (by omega) (by omega))
    | succ f ih =>
      intro j  hf 
      refine g_iload_n X 2 rfl dX0_weightOnBridge_4 ?_
      refine g_aload_n X 0 rfl dX0_weightOnBridge_5 ?_
      refine gg_X0_crossing X (gP_10 (by first | assumption | decide | omega)) fX0_43 dX0_weightOnBridge_6 ?_
      refine gg_X5_size X (gP_13 (by first | assumption | decide | omega) (by first | assumption | decide | omega)) fX0_80 dX0_weightOnBridge_9 ?_
      refine gG_top (nI (S.2.1 2).length) ((hS.2.1 2 (by first | decide | omega)).1) ?_
      refine g_icmp_ge X 45 (by decide) dX0_weightOnBridge_12 (fun c2 => ?_) (fun c2 => ?_)
      · first | exact absurd (nI_ge (by omega) (by omega)) c2 | exact absurd c2 (nI_ge (by omega) (by omega))
      · refine g_aload_n X 0 rfl dX0_weightOnBridge_15 ?_
        refine g_aload_n X 0 rfl dX0_weightOnBridge_16 ?_
        refine gg_X0_crossing X (gP_10 (by first | assumption | decide | omega)) fX0_43 dX0_weightOnBridge_17 ?_
        refine g_iload_n X 2 rfl dX0_weightOnBridge_20 ?_
        refine g_callV X hR (rest := [.ref (B.2.1 10 b 0)]) mX5_at lX0_83 (k_at hI V b 2 (S.2.1 2) j (by first | assumption | decide | omega) (by first | assumption | decide | omega) (hS.2.1 2 (by decide)) (by omega)) rfl rfl (Nat.le_of_ble_eq_true rfl) (gP_13 (by first | assumption | decide | omega) (by first | assumption | decide | omega)) rfl rfl rfl ⟨Nat.le_of_ble_eq_true rfl, Nat.le_of_ble_eq_true rfl, Nat.le_of_ble_eq_true rfl, Nat.le_of_ble_eq_true rfl⟩ dX0_weightOnBridge_21 (fun r3 V4 hz_5 => ?_)
        refine gG_ret hz_5.1 hz_5.2 ?_
        refine gG_st [.int (lat (S.2.1 2) j), .ref (B.2.1 10 b 0)] rfl ?_
        obtain ⟨i, hgi⟩ := get_some (xs := S.2.1 2) (j := j) (by omega)
        have hmi : i ∈ S.2.1 2 := List.mem_of_getElem? hgi
        have hli := hmem i hmi
        refine gG_top (nI i) (lat_some hgi) ?_
        refine g_callV X hR (rest := []) mX0_cartAt lX0_57 (k_cartAt hI V b S i (by first | assumption | decide | omega) hS (by first | assumption | decide | omega) (by first | assumption | decide | omega)) rfl rfl (Nat.le_of_ble_eq_true rfl) (gP_10 (by first | assumption | decide | omega)) rfl rfl rfl ⟨Nat.le_of_ble_eq_true rfl, Nat.le_of_ble_eq_true rfl, Nat.le_of_ble_eq_true rfl, Nat.le_of_ble_eq_true rfl⟩ dX0_weightOnBridge_24 (fun r6 V7 hz_8 => ?_)
        refine gG_ret hz_8.1 hz_8.2 ?_
        refine gG_st [.ref (B.2.1 15 b i)] rfl ?_
        refine g_astore_n X rfl dX0_weightOnBridge_27 [(3, .ref (B.2.1 15 b i)), (0, .ref (B.2.1 10 b 0)), (1, .int (nI ((((S.2.1 2).take j).map (fun i => S.2.2.2.1 i 3)).sum))), (2, .int (nI j))] rfl (gnl_lt hnL (by decide)) ?_
        refine g_aload_n X 0 rfl dX0_weightOnBridge_28 ?_
        refine g_ifnull X dX0_weightOnBridge_29 ?_
        refine g_iload_n X 2 rfl dX0_weightOnBridge_32 ?_
        refine g_aload_n X 0 rfl dX0_weightOnBridge_33 ?_
        refine gg_X1_weight X (gP_15 (by first | assumption | decide | omega) (by first | assumption | decide | omega)) fX0_87 dX0_weightOnBridge_34 ?_
        refine gG_top (nI (S.2.2.2.1 i 3)) (hS.2.2.2.1 i (by first | assumption | omega) 3 (by decide) (by decide)) ?_
        refine g_iadd X dX0_weightOnBridge_37 ?_
        refine gG_top (nI (((((S.2.1 2).take j).map (fun i => S.2.2.2.1 i 3)).sum) + (S.2.2.2.1 i 3))) (nI_add ((((S.2.1 2).take j).map (fun i => S.2.2.2.1 i 3)).sum) (S.2.2.2.1 i 3)) ?_
        refine gG_top (nI ((((S.2.1 2).take (j + 1)).map (fun i => S.2.2.2.1 i 3)).sum)) (by rw [take_sum _ hgi]) ?_
        refine g_istore_n X rfl dX0_weightOnBridge_38 [(1, .int (nI ((((S.2.1 2).take (j + 1)).map (fun i => S.2.2.2.1 i 3)).sum))), (3, .ref (B.2.1 15 b i)), (0, .ref (B.2.1 10 b 0)), (2, .int (nI j))] rfl (gnl_lt hnL (by decide)) ?_
        refine g_iinc X 3 rfl (nI (j + 1)) (iinc_1 _) dX0_weightOnBridge_39 [(2, .int (nI (j + 1))), (1, .int (nI ((((S.2.1 2).take (j + 1)).map (fun i => S.2.2.2.1 i 3)).sum))), (3, .ref (B.2.1 15 b i)), (0, .ref (B.2.1 10 b 0))] rfl (gnl_lt hnL (by decide)) ?_
        refine g_goto X 4 (by decide) dX0_weightOnBridge_42 ?_
        refine gG_L [3, 1, 0] (L' := [(0, .ref (B.2.1 10 b 0)), (1, .int (nI ((((S.2.1 2).take (j + 1)).map (fun i => S.2.2.2.1 i 3)).sum))), (2, .int (nI (j + 1)))]) rfl ?_
        refine ih (j + 1) (by omega)
  exact loop (S.2.1 2).length 0 (by omega)

def sFree (S : gSt) : Bool := match (S.2.1 2).getLast? with
  | none => true
  | some l => decide (S.2.2.2.1 l 1 = S.1 1) && decide (0 < S.2.2.2.1 l 9)
def sRoom (S : gSt) (i : Nat) : Bool := sFree S && decide (sW S + S.2.2.2.1 i 3 ≤ S.1 3)
theorem llast_some {xs : List Nat} {l : Nat} (h : xs.getLast? = some l) : llast xs = nI l := by
  rw [List.getLast?_eq_getElem?] at h
  unfold llast
  rw [if_neg (by intro q; rw [List.length_eq_zero_iff.mp q] at h; cases h), lat_some h]
theorem llast_none {xs : List Nat} (h : xs.getLast? = none) : llast xs = -1 := by
  rw [List.getLast?_eq_none_iff] at h
  subst h
  rfl
theorem getLast_mem {xs : List Nat} {l : Nat} (h : xs.getLast? = some l) : l ∈ xs := List.mem_of_getLast? h
theorem sum_le {xs : List Nat} {f : Nat → Nat} {c : Nat} (h : ∀ i ∈ xs, f i ≤ c) : (xs.map f).sum ≤ xs.length * c := by
  induction xs with
  | nil => simp
  | cons a l ih =>
    have h1 := ih (fun i hi => h i (List.mem_cons_of_mem _ hi))
    have h2 := h a List.mem_cons_self
    simp only [List.map_cons, List.sum_cons, List.length_cons, Nat.succ_mul]
    omega

abbrev rmX0_hasRoomFor : Room := { frames := 3, cells := 0, slots := 0, locals := 65 }
set_option maxRecDepth 20000 in
theorem k_room {l : Launch} {B : gB} (hI : gI B) (V : gMem) (b : Nat) (S : gSt) (i : Nat) (hb : b < 3) (hS : AbsC V b S) (hn : sNumOk S) (hc : ∀ i, i < S.1 6 → sCartOk S i) (hmem : ∀ i ∈ S.2.1 2, i < S.1 6) (hway : ∀ i ∈ S.2.1 2, S.2.2.2.1 i 9 < S.1 2) (hi : i < S.1 6) : gM l B yX0_hasRoomFor cX0_hasRoomFor 4 (some .boolean) rmX0_hasRoomFor [.ref (B.2.1 10 b 0), .ref (B.2.1 15 b i)] V (fun v V' => v = some (.int (if sRoom S i = true then 1 else 0)) ∧ V' = V) := by
  refine gM_of (own := RX0) (L := [(0, .ref (B.2.1 10 b 0)), (1, .ref (B.2.1 15 b i))]) (by decide +kernel) rfl hI (Nat.le_of_ble_eq_true rfl) rfl ?_
  intro Z hnL hR X F
  have hN : S.1 6 ≤ 16 := hn.2.2.2.2.2
  have hlen : (S.2.1 2).length ≤ 16 := hS.bnd (by decide)
  have hW : sW S + S.2.2.2.1 i 3 ≤ 3400 := by
    have h1 := sum_le (f := fun i => S.2.2.2.1 i 3) (c := 200) (fun i hi => (hc i (hmem i hi)).2.2.1)
    have h2 := (hc i hi).2.2.1
    have h3 : (S.2.1 2).length * 200 ≤ 16 * 200 := Nat.mul_le_mul_right _ hlen
    unfold sW
    omega
  refine g_aload_n X 0 rfl dX0_hasRoomFor_0 ?_
  refine g_aload_n X 0 rfl dX0_hasRoomFor_1 ?_
  refine gg_X0_crossing X (gP_10 (by first | assumption | decide | omega)) fX0_43 dX0_hasRoomFor_2 ?_
  refine g_callV X hR (rest := [.ref (B.2.1 10 b 0)]) mX5_last lX0_184 (k_last hI V b 2 (S.2.1 2) (by first | assumption | decide | omega) (by first | assumption | decide | omega) (hS.2.1 2 (by decide))) rfl rfl (Nat.le_of_ble_eq_true rfl) (gP_13 (by first | assumption | decide | omega) (by first | assumption | decide | omega)) rfl rfl rfl ⟨Nat.le_of_ble_eq_true rfl, Nat.le_of_ble_eq_true rfl, Nat.le_of_ble_eq_true rfl, Nat.le_of_ble_eq_true rfl⟩ dX0_hasRoomFor_5 (fun r1 V2 hz_3 => ?_)
  refine gG_ret hz_3.1 hz_3.2 ?_
  refine gG_st [.int (llast (S.2.1 2)), .ref (B.2.1 10 b 0)] rfl ?_
  cases hlast : (S.2.1 2).getLast? with
  | none =>
    refine gG_top (-1) (llast_none hlast) ?_
    refine g_callV X hR (rest := []) mX0_cartAt lX0_57 (k_cartAtm hI V b S (by first | assumption | decide | omega) hS hN) rfl rfl (Nat.le_of_ble_eq_true rfl) (gP_10 (by first | assumption | decide | omega)) rfl rfl rfl ⟨Nat.le_of_ble_eq_true rfl, Nat.le_of_ble_eq_true rfl, Nat.le_of_ble_eq_true rfl, Nat.le_of_ble_eq_true rfl⟩ dX0_hasRoomFor_8 (fun r4 V5 hz_6 => ?_)
    refine gG_ret hz_6.1 hz_6.2 ?_
    refine gG_st [.null] rfl ?_
    refine g_astore_nN X rfl dX0_hasRoomFor_11 [(2, .null), (0, .ref (B.2.1 10 b 0)), (1, .ref (B.2.1 15 b i))] rfl (gnl_lt hnL (by decide)) ?_
    refine g_aload_nN X 0 rfl dX0_hasRoomFor_12 ?_
    refine g_ifnullN X 34 (by decide) dX0_hasRoomFor_13 ?_
    refine g_iconst X 1 (by decide) dX0_hasRoomFor_34 ?_
    refine g_goto X 39 (by decide) dX0_hasRoomFor_35 ?_
    have hfree : sFree S = true := by simp [sFree, hlast]
    have hz : True := trivial
    refine g_istore_n X rfl dX0_hasRoomFor_39 [(3, .int 1), (2, .null), (0, .ref (B.2.1 10 b 0)), (1, .ref (B.2.1 15 b i))] rfl (gnl_lt hnL (by decide)) ?_
    refine g_iload_n X 0 rfl dX0_hasRoomFor_40 ?_
    refine g_if_eq X 64 (by decide) dX0_hasRoomFor_41 (fun c7 => ?_) (fun c7 => ?_)
    ·  exact absurd c7 (by decide)
    · refine g_aload_n X 2 rfl dX0_hasRoomFor_44 ?_
      refine g_callV X hR (rest := []) mX0_weightOnBridge lX0_187 (k_wob hI V b S (by first | assumption | decide | omega) hS hN (by first | assumption | decide | omega)) rfl rfl (Nat.le_of_ble_eq_true rfl) (gP_10 (by first | assumption | decide | omega)) rfl rfl rfl ⟨Nat.le_of_ble_eq_true rfl, Nat.le_of_ble_eq_true rfl, Nat.le_of_ble_eq_true rfl, Nat.le_of_ble_eq_true rfl⟩ dX0_hasRoomFor_45 (fun r8 V9 hz_10 => ?_)
      refine gG_ret hz_10.1 hz_10.2 ?_
      refine gG_st [.int (nI (sW S))] rfl ?_
      refine g_aload_n X 3 rfl dX0_hasRoomFor_48 ?_
      refine gg_X1_weight X (gP_15 (by first | assumption | decide | omega) (by first | assumption | decide | omega)) fX0_87 dX0_hasRoomFor_49 ?_
      refine gG_top (nI (S.2.2.2.1 i 3)) (hS.2.2.2.1 i (by first | assumption | omega) 3 (by decide) (by decide)) ?_
      refine g_iadd X dX0_hasRoomFor_52 ?_
      refine gG_top (nI ((sW S) + (S.2.2.2.1 i 3))) (nI_add (sW S) (S.2.2.2.1 i 3)) ?_
      refine g_aload_n X 2 rfl dX0_hasRoomFor_53 ?_
      refine gg_X0_bears X (gP_10 (by first | assumption | decide | omega)) fX0_15 dX0_hasRoomFor_54 ?_
      refine gG_top (nI (S.1 3)) (hS.1 3 (by decide)) ?_
      refine g_icmp_gt X 64 (by decide) dX0_hasRoomFor_57 (fun c11 => ?_) (fun c11 => ?_)
      · refine g_iconst X 0 (by decide) dX0_hasRoomFor_64 ?_
        refine g_zret X F rfl ?_ rfl dX0_hasRoomFor_65
        have hq : S.1 3 < sW S + S.2.2.2.1 i 3 := ixlt c11 (by have := hn.2.2.1; omega) (by have := hW; omega)
        exact ⟨by simp [sRoom, hfree, hq], rfl⟩
      · refine g_iconst X 1 (by decide) dX0_hasRoomFor_60 ?_
        refine g_goto X 65 (by decide) dX0_hasRoomFor_61 ?_
        refine g_zret X F rfl ?_ rfl dX0_hasRoomFor_65
        have hq : sW S + S.2.2.2.1 i 3 ≤ S.1 3 := ixnlt c11 (by have := hn.2.2.1; omega) (by have := hW; omega)
        exact ⟨by simp [sRoom, hfree, hq], rfl⟩
  | some l =>
    have hml := getLast_mem hlast
    have hll := hmem l hml
    refine gG_top (nI l) (llast_some hlast) ?_
    refine g_callV X hR (rest := []) mX0_cartAt lX0_57 (k_cartAt hI V b S l (by first | assumption | decide | omega) hS hN hll) rfl rfl (Nat.le_of_ble_eq_true rfl) (gP_10 (by first | assumption | decide | omega)) rfl rfl rfl ⟨Nat.le_of_ble_eq_true rfl, Nat.le_of_ble_eq_true rfl, Nat.le_of_ble_eq_true rfl, Nat.le_of_ble_eq_true rfl⟩ dX0_hasRoomFor_8 (fun r12 V13 hz_14 => ?_)
    refine gG_ret hz_14.1 hz_14.2 ?_
    refine gG_st [.ref (B.2.1 15 b l)] rfl ?_
    refine g_astore_n X rfl dX0_hasRoomFor_11 [(2, .ref (B.2.1 15 b l)), (0, .ref (B.2.1 10 b 0)), (1, .ref (B.2.1 15 b i))] rfl (gnl_lt hnL (by decide)) ?_
    refine g_aload_n X 0 rfl dX0_hasRoomFor_12 ?_
    refine g_ifnull X dX0_hasRoomFor_13 ?_
    refine g_aload_n X 0 rfl dX0_hasRoomFor_16 ?_
    refine gg_X1_end X (gP_15 (by first | assumption | decide | omega) (by first | assumption | decide | omega)) fX0_100 dX0_hasRoomFor_17 ?_
    refine gG_top (nI (S.2.2.2.1 l 1)) (hS.2.2.2.1 l (by first | assumption | omega) 1 (by decide) (by decide)) ?_
    refine g_aload_n X 1 rfl dX0_hasRoomFor_20 ?_
    refine gg_X0_direction X (gP_10 (by first | assumption | decide | omega)) fX0_61 dX0_hasRoomFor_21 ?_
    refine gG_top (nI (S.1 1)) (hS.1 1 (by decide)) ?_
    refine g_icmp_ne X 38 (by decide) dX0_hasRoomFor_24 (fun c15 => ?_) (fun c15 => ?_)
    · refine g_iconst X 0 (by decide) dX0_hasRoomFor_38 ?_
      have hfree : sFree S = false := by
        have h1 : ¬ S.2.2.2.1 l 1 = S.1 1 := fun q => c15 (by rw [q])
        simp [sFree, hlast, h1]
      have hz : True := trivial
      refine g_istore_n X rfl dX0_hasRoomFor_39 [(3, .int 0), (2, .ref (B.2.1 15 b l)), (0, .ref (B.2.1 10 b 0)), (1, .ref (B.2.1 15 b i))] rfl (gnl_lt hnL (by decide)) ?_
      refine g_iload_n X 0 rfl dX0_hasRoomFor_40 ?_
      refine g_if_eq X 64 (by decide) dX0_hasRoomFor_41 (fun c16 => ?_) (fun c16 => ?_)
      · refine g_iconst X 0 (by decide) dX0_hasRoomFor_64 ?_
        refine g_zret X F rfl ?_ rfl dX0_hasRoomFor_65
        exact ⟨by simp [sRoom, hfree], rfl⟩
      ·  exact absurd c16 (by decide)
    · refine g_aload_n X 0 rfl dX0_hasRoomFor_27 ?_
      refine gg_X1_way X (gP_15 (by first | assumption | decide | omega) (by first | assumption | decide | omega)) fX0_133 dX0_hasRoomFor_28 ?_
      refine gG_top (nI (S.2.2.2.1 l 9)) (hS.2.2.2.1 l (by first | assumption | omega) 9 (by decide) (by decide)) ?_
      refine g_if_le X 38 (by decide) dX0_hasRoomFor_31 (fun c17 => ?_) (fun c17 => ?_)
      · refine g_iconst X 0 (by decide) dX0_hasRoomFor_38 ?_
        have hfree : sFree S = false := by
          have h2 : S.2.2.2.1 l 9 = 0 := ixle0 c17 (by have := hway l hml; have := hn.2.1; omega)
          simp [sFree, hlast, h2]
        have hz : True := trivial
        refine g_istore_n X rfl dX0_hasRoomFor_39 [(3, .int 0), (2, .ref (B.2.1 15 b l)), (0, .ref (B.2.1 10 b 0)), (1, .ref (B.2.1 15 b i))] rfl (gnl_lt hnL (by decide)) ?_
        refine g_iload_n X 0 rfl dX0_hasRoomFor_40 ?_
        refine g_if_eq X 64 (by decide) dX0_hasRoomFor_41 (fun c18 => ?_) (fun c18 => ?_)
        · refine g_iconst X 0 (by decide) dX0_hasRoomFor_64 ?_
          refine g_zret X F rfl ?_ rfl dX0_hasRoomFor_65
          exact ⟨by simp [sRoom, hfree], rfl⟩
        ·  exact absurd c18 (by decide)
      · refine g_iconst X 1 (by decide) dX0_hasRoomFor_34 ?_
        refine g_goto X 39 (by decide) dX0_hasRoomFor_35 ?_
        have hfree : sFree S = true := by
          have h1 : S.2.2.2.1 l 1 = S.1 1 := (nI_eq (by have := (hc l hll).1; omega) (by have := hn.1; omega)).mp c15
          have h2 : 0 < S.2.2.2.1 l 9 := ixnle0 c17 (by have := hway l hml; have := hn.2.1; omega)
          simp [sFree, hlast, h1, h2]
        have hz : True := trivial
        refine g_istore_n X rfl dX0_hasRoomFor_39 [(3, .int 1), (2, .ref (B.2.1 15 b l)), (0, .ref (B.2.1 10 b 0)), (1, .ref (B.2.1 15 b i))] rfl (gnl_lt hnL (by decide)) ?_
        refine g_iload_n X 0 rfl dX0_hasRoomFor_40 ?_
        refine g_if_eq X 64 (by decide) dX0_hasRoomFor_41 (fun c19 => ?_) (fun c19 => ?_)
        ·  exact absurd c19 (by decide)
        · refine g_aload_n X 2 rfl dX0_hasRoomFor_44 ?_
          refine g_callV X hR (rest := []) mX0_weightOnBridge lX0_187 (k_wob hI V b S (by first | assumption | decide | omega) hS hN (by first | assumption | decide | omega)) rfl rfl (Nat.le_of_ble_eq_true rfl) (gP_10 (by first | assumption | decide | omega)) rfl rfl rfl ⟨Nat.le_of_ble_eq_true rfl, Nat.le_of_ble_eq_true rfl, Nat.le_of_ble_eq_true rfl, Nat.le_of_ble_eq_true rfl⟩ dX0_hasRoomFor_45 (fun r20 V21 hz_22 => ?_)
          refine gG_ret hz_22.1 hz_22.2 ?_
          refine gG_st [.int (nI (sW S))] rfl ?_
          refine g_aload_n X 3 rfl dX0_hasRoomFor_48 ?_
          refine gg_X1_weight X (gP_15 (by first | assumption | decide | omega) (by first | assumption | decide | omega)) fX0_87 dX0_hasRoomFor_49 ?_
          refine gG_top (nI (S.2.2.2.1 i 3)) (hS.2.2.2.1 i (by first | assumption | omega) 3 (by decide) (by decide)) ?_
          refine g_iadd X dX0_hasRoomFor_52 ?_
          refine gG_top (nI ((sW S) + (S.2.2.2.1 i 3))) (nI_add (sW S) (S.2.2.2.1 i 3)) ?_
          refine g_aload_n X 2 rfl dX0_hasRoomFor_53 ?_
          refine gg_X0_bears X (gP_10 (by first | assumption | decide | omega)) fX0_15 dX0_hasRoomFor_54 ?_
          refine gG_top (nI (S.1 3)) (hS.1 3 (by decide)) ?_
          refine g_icmp_gt X 64 (by decide) dX0_hasRoomFor_57 (fun c23 => ?_) (fun c23 => ?_)
          · refine g_iconst X 0 (by decide) dX0_hasRoomFor_64 ?_
            refine g_zret X F rfl ?_ rfl dX0_hasRoomFor_65
            have hq : S.1 3 < sW S + S.2.2.2.1 i 3 := ixlt c23 (by have := hn.2.2.1; omega) (by have := hW; omega)
            exact ⟨by simp [sRoom, hfree, hq], rfl⟩
          · refine g_iconst X 1 (by decide) dX0_hasRoomFor_60 ?_
            refine g_goto X 65 (by decide) dX0_hasRoomFor_61 ?_
            refine g_zret X F rfl ?_ rfl dX0_hasRoomFor_65
            have hq : sW S + S.2.2.2.1 i 3 ≤ S.1 3 := ixnlt c23 (by have := hn.2.2.1; omega) (by have := hW; omega)
            exact ⟨by simp [sRoom, hfree, hq], rfl⟩

def sCome (S : gSt) : gSt := match S.2.1 (S.1 1) with
  | [] => S
  | i :: ys => if sRoom S i = true then
      (let S1 := sQ S (S.1 1) ys
       if S1.2.2.2.1 i 7 = 0 ∧ S1.2.2.2.1 i 5 < sDue S1 i then sC S1 i 8 3
       else
        let S2 := if S1.2.2.2.1 i 7 = 0 then sPay S1 (S.1 1) i else S1
        let S3 := sC S2 i 8 1
        let S4 := sC S3 i 9 0
        sQ S4 2 (S4.2.1 2 ++ [i]))
    else S
/-- all that a run keeps -/
def WF (S : gSt) : Prop := sNumOk S ∧ (∀ i, i < S.1 6 → sCartOk S i) ∧
  (∀ e, e < 2 → (S.2.1 e).Nodup ∧ ∀ i, i ∈ S.2.1 e ↔ (i < S.1 6 ∧ S.2.2.2.1 i 8 = 0 ∧ S.2.2.2.1 i 1 = e)) ∧
  (S.2.1 2).Pairwise (fun i j => S.2.2.2.1 j 9 < S.2.2.2.1 i 9) ∧ (∀ i, i ∈ S.2.1 2 ↔ (i < S.1 6 ∧ S.2.2.2.1 i 8 = 1)) ∧ (∀ i ∈ S.2.1 2, S.2.2.2.1 i 9 < S.1 2) ∧
  (∀ i ∈ S.2.1 2, ∀ j ∈ S.2.1 2, S.2.2.2.1 i 1 = S.2.2.2.1 j 1) ∧ (∀ i, i < S.1 6 → S.2.2.2.1 i 8 = 2 → ∃ t : Nat, t ≤ S.1 0 ∧ S.2.2.2.2 i = nI t)
theorem nodup_le : ∀ (n : Nat) (l : List Nat), l.Nodup → (∀ x ∈ l, x < n) → l.length ≤ n := by
  intro n
  induction n with
  | zero =>
    intro l _ h
    cases l with
    | nil => exact Nat.le_refl _
    | cons a l => exact absurd (h a List.mem_cons_self) (Nat.not_lt_zero _)
  | succ n ih =>
    intro l hn h
    have h1 := ih (l.erase n) (hn.erase n) (fun x hx => by
      have h2 := h x (List.mem_of_mem_erase hx)
      have h3 : x ≠ n := fun q => by subst q; exact (List.Nodup.mem_erase_iff hn).mp hx |>.1 rfl
      omega)
    have h4 := List.length_erase (a := n) (l := l)
    split at h4 <;> omega
theorem WF.ne {S : gSt} (h : WF S) : (S.2.1 2).Nodup := h.2.2.2.1.imp (fun q e => by subst e; exact Nat.lt_irrefl _ q)
theorem WF.mem {S : gSt} (h : WF S) {i : Nat} (hi : i ∈ S.2.1 2) : i < S.1 6 := ((h.2.2.2.2.1 i).mp hi).1
theorem WF.qmem {S : gSt} (h : WF S) {e i : Nat} (he : e < 2) (hi : i ∈ S.2.1 e) : i < S.1 6 ∧ S.2.2.2.1 i 8 = 0 ∧ S.2.2.2.1 i 1 = e := ((h.2.2.1 e he).2 i).mp hi
/-- a cart that waits: there is room for it in the row on the bridge -/
theorem WF.lt16 {S : gSt} (h : WF S) {i : Nat} (hi : i < S.1 6) (hs : S.2.2.2.1 i 8 ≠ 1) : (S.2.1 2).length < 16 := by
  have h1 : i ∉ S.2.1 2 := fun q => hs ((h.2.2.2.2.1 i).mp q).2
  have h2 := nodup_le (S.1 6) (i :: S.2.1 2) (List.nodup_cons.mpr ⟨h1, h.ne⟩) (fun x hx => by
    rcases List.mem_cons.mp hx with q | q
    · rw [q]; exact hi
    · exact h.mem q)
  have h3 := h.1.2.2.2.2.2
  simp only [List.length_cons] at h2
  omega
theorem WF.qlt16 {S : gSt} (h : WF S) {e i : Nat} (he : e < 2) (hi : i < S.1 6) (hs : ¬ i ∈ S.2.1 e) : (S.2.1 e).length < 16 := by
  have h2 := nodup_le (S.1 6) (i :: S.2.1 e) (List.nodup_cons.mpr ⟨hs, (h.2.2.1 e he).1⟩) (fun x hx => by
    rcases List.mem_cons.mp hx with q | q
    · rw [q]; exact hi
    · exact (h.qmem he q).1)
  have h3 := h.1.2.2.2.2.2
  simp only [List.length_cons] at h2
  omega
theorem lat_nil {xs : List Nat} (h : xs = []) : lat xs 0 = -1 := by subst h; rfl
theorem lat_cons {xs ys : List Nat} {i : Nat} (h : xs = i :: ys) : lat xs 0 = nI i := by subst h; rfl

abbrev rmX0_comeOn : Room := { frames := 4, cells := 0, slots := 0, locals := 88 }
set_option maxRecDepth 20000 in
theorem k_comeOn {l : Launch} {B : gB} (hI : gI B) (V : gMem) (b : Nat) (S : gSt) (hb : b < 3) (hS : AbsC V b S) (hw : WF S) : gM l B yX0_comeOn cX0_comeOn 3 none rmX0_comeOn [.ref (B.2.1 10 b 0)] V (fun v V' => v = none ∧ AbsC V' b (sCome S) ∧ brmod V V' b) := by
  refine gM_of (own := RX0) (L := [(0, .ref (B.2.1 10 b 0))]) (by decide +kernel) rfl hI (Nat.le_of_ble_eq_true rfl) rfl ?_
  intro Z hnL hR X F
  have hN : S.1 6 ≤ 16 := hw.1.2.2.2.2.2
  have hd : S.1 1 < 2 := by have := hw.1.1; omega
  refine g_aload_n X 0 rfl dX0_comeOn_0 ?_
  refine g_aload_n X 0 rfl dX0_comeOn_1 ?_
  refine gg_X0_direction X (gP_10 (by first | assumption | decide | omega)) fX0_61 dX0_comeOn_2 ?_
  refine gG_top (nI (S.1 1)) (hS.1 1 (by decide)) ?_
  refine g_callV X hR (rest := []) mX0_gateAt lX0_153 (k_gateAt hI V b (S.1 1) (by first | assumption | decide | omega) hd) rfl rfl (Nat.le_of_ble_eq_true rfl) (gP_10 (by first | assumption | decide | omega)) rfl rfl rfl ⟨Nat.le_of_ble_eq_true rfl, Nat.le_of_ble_eq_true rfl, Nat.le_of_ble_eq_true rfl, Nat.le_of_ble_eq_true rfl⟩ dX0_comeOn_5 (fun r1 V2 hz_3 => ?_)
  refine gG_ret hz_3.1 hz_3.2 ?_
  refine gG_st [.ref (B.2.1 12 b (S.1 1))] rfl ?_
  refine g_astore_n X rfl dX0_comeOn_8 [(1, .ref (B.2.1 12 b (S.1 1))), (0, .ref (B.2.1 10 b 0))] rfl (gnl_lt hnL (by decide)) ?_
  refine g_aload_n X 1 rfl dX0_comeOn_9 ?_
  refine g_aload_n X 0 rfl dX0_comeOn_10 ?_
  refine gg_X3_waiting X (gP_12 (by first | assumption | decide | omega) (by first | assumption | decide | omega)) fX0_157 dX0_comeOn_11 ?_
  refine g_iconst X 0 (by decide) dX0_comeOn_14 ?_
  refine g_callV X hR (rest := [.ref (B.2.1 10 b 0)]) mX5_at lX0_83 (k_at hI V b (S.1 1) (S.2.1 (S.1 1)) 0 (by first | assumption | decide | omega) (by omega) (hS.2.1 (S.1 1) (by omega)) (by first | assumption | decide | omega)) rfl rfl (Nat.le_of_ble_eq_true rfl) (gP_13 (by first | assumption | decide | omega) (by first | assumption | decide | omega)) rfl rfl rfl ⟨Nat.le_of_ble_eq_true rfl, Nat.le_of_ble_eq_true rfl, Nat.le_of_ble_eq_true rfl, Nat.le_of_ble_eq_true rfl⟩ dX0_comeOn_15 (fun r4 V5 hz_6 => ?_)
  refine gG_ret hz_6.1 hz_6.2 ?_
  refine gG_st [.int (lat (S.2.1 (S.1 1)) 0), .ref (B.2.1 10 b 0)] rfl ?_
  cases hq : S.2.1 (S.1 1) with
  | nil =>
    refine gG_top (-1) (lat_nil rfl) ?_
    refine g_callV X hR (rest := []) mX0_cartAt lX0_57 (k_cartAtm hI V b S (by first | assumption | decide | omega) hS (by first | assumption | decide | omega)) rfl rfl (Nat.le_of_ble_eq_true rfl) (gP_10 (by first | assumption | decide | omega)) rfl rfl rfl ⟨Nat.le_of_ble_eq_true rfl, Nat.le_of_ble_eq_true rfl, Nat.le_of_ble_eq_true rfl, Nat.le_of_ble_eq_true rfl⟩ dX0_comeOn_18 (fun r7 V8 hz_9 => ?_)
    refine gG_ret hz_9.1 hz_9.2 ?_
    refine gG_st [.null] rfl ?_
    refine g_astore_nN X rfl dX0_comeOn_21 [(2, .null), (1, .ref (B.2.1 12 b (S.1 1))), (0, .ref (B.2.1 10 b 0))] rfl (gnl_lt hnL (by decide)) ?_
    refine g_aload_nN X 0 rfl dX0_comeOn_22 ?_
    refine g_ifnullN X 34 (by decide) dX0_comeOn_23 ?_
    refine g_vret X F ?_ rfl dX0_comeOn_34
    rw [show sCome S = S by unfold sCome; rw [hq]]
    exact ⟨rfl, hS, brmod.rf⟩
  | cons i ys =>
    have hiq : i ∈ S.2.1 (S.1 1) := by rw [hq]; exact List.mem_cons_self
    obtain ⟨hi, hst, hend⟩ := hw.qmem hd hiq
    have hci := hw.2.1 i hi
    refine gG_top (nI i) (lat_cons rfl) ?_
    refine g_callV X hR (rest := []) mX0_cartAt lX0_57 (k_cartAt hI V b S i (by first | assumption | decide | omega) hS (by first | assumption | decide | omega) (by first | assumption | decide | omega)) rfl rfl (Nat.le_of_ble_eq_true rfl) (gP_10 (by first | assumption | decide | omega)) rfl rfl rfl ⟨Nat.le_of_ble_eq_true rfl, Nat.le_of_ble_eq_true rfl, Nat.le_of_ble_eq_true rfl, Nat.le_of_ble_eq_true rfl⟩ dX0_comeOn_18 (fun r10 V11 hz_12 => ?_)
    refine gG_ret hz_12.1 hz_12.2 ?_
    refine gG_st [.ref (B.2.1 15 b i)] rfl ?_
    refine g_astore_n X rfl dX0_comeOn_21 [(2, .ref (B.2.1 15 b i)), (1, .ref (B.2.1 12 b (S.1 1))), (0, .ref (B.2.1 10 b 0))] rfl (gnl_lt hnL (by decide)) ?_
    refine g_aload_n X 0 rfl dX0_comeOn_22 ?_
    refine g_ifnull X dX0_comeOn_23 ?_
    refine g_aload_n X 2 rfl dX0_comeOn_26 ?_
    refine g_aload_n X 0 rfl dX0_comeOn_27 ?_
    refine g_callV X hR (rest := []) mX0_hasRoomFor lX0_169 (k_room hI V b S i (by first | assumption | decide | omega) hS hw.1 hw.2.1 (fun _ q => hw.mem q) hw.2.2.2.2.2.1 hi) rfl rfl (Nat.le_of_ble_eq_true rfl) (gP_10 (by first | assumption | decide | omega)) rfl rfl rfl ⟨Nat.le_of_ble_eq_true rfl, Nat.le_of_ble_eq_true rfl, Nat.le_of_ble_eq_true rfl, Nat.le_of_ble_eq_true rfl⟩ dX0_comeOn_28 (fun r13 V14 hz_15 => ?_)
    refine gG_ret hz_15.1 hz_15.2 ?_
    refine gG_st [.int (if sRoom S i = true then 1 else 0)] rfl ?_
    by_cases hroom : sRoom S i = true
    · refine gG_top 1 (if_pos hroom) ?_
      refine g_if_ne X 35 (by decide) dX0_comeOn_31 (fun c16 => ?_) (fun c16 => ?_)
      · refine g_aload_n X 1 rfl dX0_comeOn_35 ?_
        refine gg_X3_waiting X (gP_12 (by first | assumption | decide | omega) (by first | assumption | decide | omega)) fX0_157 dX0_comeOn_36 ?_
        refine g_callV X hR (rest := []) mX5_removeFirst lX0_147 (k_removeFirst hI V b (S.1 1) i ys (by first | assumption | decide | omega) (by omega) (by have := hS.2.1 (S.1 1) (by omega); rw [hq] at this; exact this)) rfl rfl (Nat.le_of_ble_eq_true rfl) (gP_13 (by first | assumption | decide | omega) (by first | assumption | decide | omega)) rfl rfl rfl ⟨Nat.le_of_ble_eq_true rfl, Nat.le_of_ble_eq_true rfl, Nat.le_of_ble_eq_true rfl, Nat.le_of_ble_eq_true rfl⟩ dX0_comeOn_39 (fun r17 V18 hz_19 => ?_)
        refine gG_rv hz_19.1 ?_
        obtain ⟨-, hrowV18, hmodV18⟩ := hz_19
        obtain ⟨S20, eS20⟩ : ∃ y, y = sQ S (S.1 1) ys := ⟨_, rfl⟩
        have hS20 : AbsC V18 b S20 := by rw [eS20]; exact hS.setQ hrowV18 hmodV18
        have mS20 : brmod V V18 b := brmod.rf.trans hmodV18.br
        have nS20 : S20.1 = S.1 := by rw [eS20]; exact rfl
        refine gG_st [] rfl ?_
        have hc1 : sCartOk S20 i := by rw [eS20]; exact hci
        have hn1 : sNumOk S20 := by rw [eS20]; exact hw.1
        have hi1 : i < S20.1 6 := by rw [nS20]; exact hi
        have hst1 : S20.2.2.2.1 i 8 = 0 := by rw [eS20]; exact hst
        have hl1 : (S20.2.1 2).length < 16 := by rw [eS20]; show (if 2 = S.1 1 then ys else S.2.1 2).length < 16; rw [if_neg (by omega)]; exact hw.lt16 hi (by omega)
        refine g_aload_n X 0 rfl dX0_comeOn_42 ?_
        refine gg_X1_hasPaid X (gP_15 (by first | assumption | decide | omega) (by first | assumption | decide | omega)) fX0_173 dX0_comeOn_43 ?_
        refine gG_top (nI (S20.2.2.2.1 i 7)) (hS20.2.2.2.1 i (by rw [nS20]; first | assumption | omega) 7 (by decide) (by decide)) ?_
        by_cases hp : S20.2.2.2.1 i 7 = 0
        · refine gG_top 0 (by rw [hp]; rfl) ?_
          refine g_if_ne X 58 (by decide) dX0_comeOn_46 (fun c21 => ?_) (fun c21 => ?_)
          ·  exact absurd c21 (by decide)
          · refine g_aload_n X 2 rfl dX0_comeOn_49 ?_
            refine g_aload_n X 0 rfl dX0_comeOn_50 ?_
            refine g_aload_n X 1 rfl dX0_comeOn_51 ?_
            refine g_callV X hR (rest := []) mX0_pays lX0_177 (k_pays hI V18 b S20 (S.1 1) i (by first | assumption | decide | omega | (rw [nS20]; first | assumption | omega)) hS20 hd hi1 hn1 hc1) rfl rfl (Nat.le_of_ble_eq_true rfl) (gP_10 (by first | assumption | decide | omega)) rfl rfl rfl ⟨Nat.le_of_ble_eq_true rfl, Nat.le_of_ble_eq_true rfl, Nat.le_of_ble_eq_true rfl, Nat.le_of_ble_eq_true rfl⟩ dX0_comeOn_52 (fun r22 V23 hz_24 => ?_)
            refine gG_rv hz_24.1 ?_
            obtain ⟨-, haV23, hbV23⟩ := hz_24
            obtain ⟨S25, eS25⟩ : ∃ y, y = if S20.2.2.2.1 i 5 < sDue S20 i then S20 else sPay S20 (S.1 1) i := ⟨_, rfl⟩
            have hS25 : AbsC V23 b S25 := by rw [eS25]; exact haV23
            have mS25 : brmod V V23 b := mS20.trans hbV23
            refine gG_st [.int (if S20.2.2.2.1 i 5 < sDue S20 i then 0 else 1)] rfl ?_
            by_cases hd2 : S20.2.2.2.1 i 5 < sDue S20 i
            · refine gG_top 0 (if_pos hd2) ?_
              refine g_if_eq X 82 (by decide) dX0_comeOn_55 (fun c26 => ?_) (fun c26 => ?_)
              · have eP : S25 = S20 := by rw [eS25]; exact if_pos hd2
                refine g_aload_n X 0 rfl dX0_comeOn_82 ?_
                refine g_iconst X 3 (by decide) dX0_comeOn_83 ?_
                refine gp_X1_state X (gP_15 (by first | assumption | decide | omega) (by first | assumption | decide | omega)) fX0_74 dX0_comeOn_84 ?_
                refine gG_nm (fun V27 hV27 => ?_)
                obtain ⟨S28, eS28⟩ : ∃ y, y = sC S25 i 8 3 := ⟨_, rfl⟩
                have hS28 : AbsC V27 b S28 := by rw [eS28, hV27]; exact hS25.setC i 8 3 (by decide)
                have mS28 : brmod V V27 b := by rw [hV27]; exact mS25.up (by decide) (by decide)
                have nS28 : S28.1 = S25.1 := by rw [eS28]; exact rfl
                refine g_vret X F ?_ rfl dX0_comeOn_87
                have hfin : S28 = sCome S := by
                  rw [eS28, eP]
                  unfold sCome
                  rw [hq]
                  simp only []
                  rw [if_pos hroom]
                  rw [eS20] at hp hd2 ⊢
                  rw [if_pos ⟨hp, hd2⟩]
                exact ⟨rfl, hfin ▸ hS28, mS28⟩
              ·  exact absurd c26 (by decide)
            · refine gG_top 1 (if_neg hd2) ?_
              refine g_if_eq X 82 (by decide) dX0_comeOn_55 (fun c29 => ?_) (fun c29 => ?_)
              ·  exact absurd c29 (by decide)
              · have eP : S25 = sPay S20 (S.1 1) i := by rw [eS25]; exact if_neg hd2
                have hl2 : (S25.2.1 2).length < 16 := by rw [eP]; exact hl1
                have hi2 : i < S25.1 6 := by rw [eP]; exact hi1
                refine g_aload_n X 0 rfl dX0_comeOn_58 ?_
                refine g_iconst X 1 (by decide) dX0_comeOn_59 ?_
                refine gp_X1_state X (gP_15 (by first | assumption | decide | omega) (by first | assumption | decide | omega)) fX0_74 dX0_comeOn_60 ?_
                refine gG_nm (fun V30 hV30 => ?_)
                obtain ⟨S31, eS31⟩ : ∃ y, y = sC S25 i 8 1 := ⟨_, rfl⟩
                have hS31 : AbsC V30 b S31 := by rw [eS31, hV30]; exact hS25.setC i 8 1 (by decide)
                have mS31 : brmod V V30 b := by rw [hV30]; exact mS25.up (by decide) (by decide)
                have nS31 : S31.1 = S25.1 := by rw [eS31]; exact rfl
                refine g_aload_n X 0 rfl dX0_comeOn_63 ?_
                refine g_iconst X 0 (by decide) dX0_comeOn_64 ?_
                refine gp_X1_way X (gP_15 (by first | assumption | decide | omega) (by first | assumption | decide | omega)) fX0_133 dX0_comeOn_65 ?_
                refine gG_nm (fun V32 hV32 => ?_)
                obtain ⟨S33, eS33⟩ : ∃ y, y = sC S31 i 9 0 := ⟨_, rfl⟩
                have hS33 : AbsC V32 b S33 := by rw [eS33, hV32]; exact hS31.setC i 9 0 (by decide)
                have mS33 : brmod V V32 b := by rw [hV32]; exact mS31.up (by decide) (by decide)
                have nS33 : S33.1 = S25.1 := by rw [eS33]; exact nS31
                refine g_aload_n X 2 rfl dX0_comeOn_68 ?_
                refine gg_X0_crossing X (gP_10 (by first | assumption | decide | omega)) fX0_43 dX0_comeOn_69 ?_
                refine g_aload_n X 0 rfl dX0_comeOn_72 ?_
                refine gg_X1_number X (gP_15 (by first | assumption | decide | omega) (by first | assumption | decide | omega)) fX0_160 dX0_comeOn_73 ?_
                refine gG_top (nI i) (hS33.2.2.2.2.2.1 i (by first | assumption | omega)) ?_
                refine g_callV X hR (rest := []) mX5_addLast lX0_181 (k_addLast hI V32 b 2 (S33.2.1 2) i (by first | assumption | decide | omega | (rw [nS33]; first | assumption | omega)) (by first | assumption | decide | omega | (rw [nS33]; first | assumption | omega)) (hS33.2.1 2 (by decide)) (by rw [eS33, eS31]; exact hl2)) rfl rfl (Nat.le_of_ble_eq_true rfl) (gP_13 (by first | assumption | decide | omega) (by first | assumption | decide | omega)) rfl rfl rfl ⟨Nat.le_of_ble_eq_true rfl, Nat.le_of_ble_eq_true rfl, Nat.le_of_ble_eq_true rfl, Nat.le_of_ble_eq_true rfl⟩ dX0_comeOn_76 (fun r34 V35 hz_36 => ?_)
                refine gG_rv hz_36.1 ?_
                obtain ⟨-, hrowV35, hmodV35⟩ := hz_36
                obtain ⟨S37, eS37⟩ : ∃ y, y = sQ S33 2 ((S33.2.1 2) ++ [i]) := ⟨_, rfl⟩
                have hS37 : AbsC V35 b S37 := by rw [eS37]; exact hS33.setQ hrowV35 hmodV35
                have mS37 : brmod V V35 b := mS33.trans hmodV35.br
                have nS37 : S37.1 = S25.1 := by rw [eS37]; exact nS33
                refine gG_st [] rfl ?_
                refine g_goto X 87 (by decide) dX0_comeOn_79 ?_
                refine g_vret X F ?_ rfl dX0_comeOn_87
                have hfin : S37 = sCome S := by
                  rw [eS37, eS33, eS31, eP]
                  unfold sCome
                  rw [hq]
                  simp only []
                  rw [if_pos hroom]
                  rw [eS20] at hp hd2 ⊢
                  rw [if_neg (fun q => hd2 q.2), if_pos hp]
                exact ⟨rfl, hfin ▸ hS37, mS37⟩
        · skip
          refine g_if_ne X 58 (by decide) dX0_comeOn_46 (fun c38 => ?_) (fun c38 => ?_)
          · refine g_aload_n X 0 rfl dX0_comeOn_58 ?_
            refine g_iconst X 1 (by decide) dX0_comeOn_59 ?_
            refine gp_X1_state X (gP_15 (by first | assumption | decide | omega) (by first | assumption | decide | omega)) fX0_74 dX0_comeOn_60 ?_
            refine gG_nm (fun V39 hV39 => ?_)
            obtain ⟨S40, eS40⟩ : ∃ y, y = sC S20 i 8 1 := ⟨_, rfl⟩
            have hS40 : AbsC V39 b S40 := by rw [eS40, hV39]; exact hS20.setC i 8 1 (by decide)
            have mS40 : brmod V V39 b := by rw [hV39]; exact mS20.up (by decide) (by decide)
            have nS40 : S40.1 = S.1 := by rw [eS40]; exact nS20
            refine g_aload_n X 0 rfl dX0_comeOn_63 ?_
            refine g_iconst X 0 (by decide) dX0_comeOn_64 ?_
            refine gp_X1_way X (gP_15 (by first | assumption | decide | omega) (by first | assumption | decide | omega)) fX0_133 dX0_comeOn_65 ?_
            refine gG_nm (fun V41 hV41 => ?_)
            obtain ⟨S42, eS42⟩ : ∃ y, y = sC S40 i 9 0 := ⟨_, rfl⟩
            have hS42 : AbsC V41 b S42 := by rw [eS42, hV41]; exact hS40.setC i 9 0 (by decide)
            have mS42 : brmod V V41 b := by rw [hV41]; exact mS40.up (by decide) (by decide)
            have nS42 : S42.1 = S.1 := by rw [eS42]; exact nS40
            refine g_aload_n X 2 rfl dX0_comeOn_68 ?_
            refine gg_X0_crossing X (gP_10 (by first | assumption | decide | omega)) fX0_43 dX0_comeOn_69 ?_
            refine g_aload_n X 0 rfl dX0_comeOn_72 ?_
            refine gg_X1_number X (gP_15 (by first | assumption | decide | omega) (by first | assumption | decide | omega)) fX0_160 dX0_comeOn_73 ?_
            refine gG_top (nI i) (hS42.2.2.2.2.2.1 i (by first | assumption | omega)) ?_
            refine g_callV X hR (rest := []) mX5_addLast lX0_181 (k_addLast hI V41 b 2 (S42.2.1 2) i (by first | assumption | decide | omega | (rw [nS42]; first | assumption | omega)) (by first | assumption | decide | omega | (rw [nS42]; first | assumption | omega)) (hS42.2.1 2 (by decide)) (by rw [eS42, eS40]; exact hl1)) rfl rfl (Nat.le_of_ble_eq_true rfl) (gP_13 (by first | assumption | decide | omega) (by first | assumption | decide | omega)) rfl rfl rfl ⟨Nat.le_of_ble_eq_true rfl, Nat.le_of_ble_eq_true rfl, Nat.le_of_ble_eq_true rfl, Nat.le_of_ble_eq_true rfl⟩ dX0_comeOn_76 (fun r43 V44 hz_45 => ?_)
            refine gG_rv hz_45.1 ?_
            obtain ⟨-, hrowV44, hmodV44⟩ := hz_45
            obtain ⟨S46, eS46⟩ : ∃ y, y = sQ S42 2 ((S42.2.1 2) ++ [i]) := ⟨_, rfl⟩
            have hS46 : AbsC V44 b S46 := by rw [eS46]; exact hS42.setQ hrowV44 hmodV44
            have mS46 : brmod V V44 b := mS42.trans hmodV44.br
            have nS46 : S46.1 = S.1 := by rw [eS46]; exact nS42
            refine gG_st [] rfl ?_
            refine g_goto X 87 (by decide) dX0_comeOn_79 ?_
            refine g_vret X F ?_ rfl dX0_comeOn_87
            have hfin : S46 = sCome S := by
              rw [eS46, eS42, eS40]
              unfold sCome
              rw [hq]
              simp only []
              rw [if_pos hroom]
              rw [eS20] at hp ⊢
              rw [if_neg (fun q => hp q.1), if_neg hp]
            exact ⟨rfl, hfin ▸ hS46, mS46⟩
          · first | exact absurd (nI_ne0 (by omega) (by have := hc1.2.2.2.2.2.2.1; omega)) c38 | exact absurd c38 (nI_ne0 (by omega) (by have := hc1.2.2.2.2.2.2.1; omega))
      ·  exact absurd c16 (by decide)
    · refine gG_top 0 (if_neg hroom) ?_
      refine g_if_ne X 35 (by decide) dX0_comeOn_31 (fun c47 => ?_) (fun c47 => ?_)
      ·  exact absurd c47 (by decide)
      · refine g_vret X F ?_ rfl dX0_comeOn_34
        rw [show sCome S = S by unfold sCome; rw [hq]; simp [hroom]]
        exact ⟨rfl, hS, brmod.rf⟩
end
section
/-! a tick on the bridge -/
def goOnL (pl tk : Nat) : List Nat → Nat → gSt → gSt × Nat
  | [], _, S => (S, 0)
  | i :: is, lim, S =>
    if min (S.2.2.2.1 i 9 + S.2.2.2.1 i 4) (lim - 1) < pl then goOnL pl tk is (min (S.2.2.2.1 i 9 + S.2.2.2.1 i 4) (lim - 1)) (sC S i 9 (min (S.2.2.2.1 i 9 + S.2.2.2.1 i 4) (lim - 1)))
    else ((goOnL pl tk is lim (sO (sC S i 8 2) i (nI tk))).1, (goOnL pl tk is lim (sO (sC S i 8 2) i (nI tk))).2 + 1)
def sGoOn (S : gSt) : gSt × Nat :=
  (sQ (goOnL (S.1 2) (S.1 0) (S.2.1 2) (S.1 2 + 4) S).1 2 ((S.2.1 2).drop (goOnL (S.1 2) (S.1 0) (S.2.1 2) (S.1 2 + 4) S).2), (goOnL (S.1 2) (S.1 0) (S.2.1 2) (S.1 2 + 4) S).2)
theorem goOnL_le (pl tk : Nat) : ∀ (is : List Nat) (lim : Nat) (S : gSt), (goOnL pl tk is lim S).2 ≤ is.length := by
  intro is
  induction is with
  | nil => intro lim S; exact Nat.le_refl _
  | cons i is ih =>
    intro lim S
    unfold goOnL
    split
    · exact Nat.le_succ_of_le (ih _ _)
    · exact Nat.succ_le_succ (ih _ _)
theorem sQ_sQ (S : gSt) (r : Nat) (a c : List Nat) : sQ (sQ S r a) r c = sQ S r c := by
  unfold sQ
  congr 1
  congr 1
  funext r'
  by_cases h : r' = r <;> simp [h]
theorem drop_cons {xs is : List Nat} {j i : Nat} (h : xs.drop j = i :: is) : xs[j]? = some i ∧ xs.drop (j + 1) = is ∧ j < xs.length := by
  have h1 : xs[j]? = some i := by
    have := congrArg (fun l => l[0]?) h
    simpa using this
  refine ⟨h1, ?_, (List.getElem?_eq_some_iff.mp h1).1⟩
  rw [← List.drop_drop, h]
  rfl
theorem drop_ex {xs : List Nat} {j : Nat} (h : j < xs.length) : ∃ c ys, xs.drop j = c :: ys := by
  cases hd : xs.drop j with
  | nil => have := congrArg List.length hd; simp at this; omega
  | cons c ys => exact ⟨c, ys, rfl⟩
theorem AbsC.sameQ {V : gMem} {b : Nat} {S : gSt} (h : AbsC V b S) {r : Nat} (hr : r < 3) {xs : List Nat} (e : S.2.1 r = xs) : AbsC V b (sQ S r xs) := h.setQ (e ▸ h.2.1 r hr) rowmod.rf
theorem nI_min {a c : Nat} (h : a ≤ c) : nI a = nI (min a c) := by rw [Nat.min_eq_left h]
theorem nI_min' {a c : Nat} (h : c ≤ a) : nI c = nI (min a c) := by rw [Nat.min_eq_right h]

theorem minI {a c : Nat} (ha : a < 2 ^ 31) (hc : c < 2 ^ 31) : (if nI c < nI a then nI c else nI a) = nI (min a c) := by
  by_cases h : c < a
  · rw [if_pos (nI_lt h ha), Nat.min_eq_right (Nat.le_of_lt h)]
  · rw [if_neg (nI_nlt (Nat.le_of_not_lt h) hc), Nat.min_eq_left (Nat.le_of_not_lt h)]

abbrev rmX0_goOn : Room := { frames := 2, cells := 0, slots := 0, locals := 42 }
set_option maxRecDepth 20000 in
theorem k_goOn {l : Launch} {B : gB} (hI : gI B) (V : gMem) (b : Nat) (S : gSt) (hb : b < 3) (hS : AbsC V b S) (hw : WF S) : gM l B yX0_goOn cX0_goOn 6 (some .int) rmX0_goOn [.ref (B.2.1 10 b 0)] V (fun v V' => v = some (.int (nI (sGoOn S).2)) ∧ AbsC V' b (sGoOn S).1 ∧ brmod V V' b) := by
  refine gM_of (own := RX0) (L := [(0, .ref (B.2.1 10 b 0))]) (by decide +kernel) rfl hI (Nat.le_of_ble_eq_true rfl) rfl ?_
  intro Z hnL hR X F
  refine g_iconst X 0 (by decide) dX0_goOn_0 ?_
  refine g_istore_n X rfl dX0_goOn_1 [(1, .int 0), (0, .ref (B.2.1 10 b 0))] rfl (gnl_lt hnL (by decide)) ?_
  refine g_aload_n X 1 rfl dX0_goOn_2 ?_
  refine gg_X0_places X (gP_10 (by first | assumption | decide | omega)) fX0_9 dX0_goOn_3 ?_
  refine gG_top (nI (S.1 2)) (hS.1 2 (by decide)) ?_
  refine g_iconst X 3 (by decide) dX0_goOn_6 ?_
  refine g_iadd X dX0_goOn_7 ?_
  refine gG_top (nI ((S.1 2) + 3)) (nI_add (S.1 2) 3) ?_
  refine g_istore_n X rfl dX0_goOn_8 [(2, .int (nI ((S.1 2) + 3))), (1, .int 0), (0, .ref (B.2.1 10 b 0))] rfl (gnl_lt hnL (by decide)) ?_
  refine gG_L [2, 1, 0] (L' := [(0, .ref (B.2.1 10 b 0)), (1, .int 0), (2, .int (nI ((S.1 2) + 3)))]) rfl ?_
  refine gG_Le [(0, .ref (B.2.1 10 b 0)), (1, .int (nI 0)), (2, .int (nI (S.1 2 + 4) - 1))] (by rw [show nI (S.1 2 + 4) - 1 = nI (S.1 2 + 3) from nI_pred _]; rfl) ?_
  refine g_iconst X 0 (by decide) dX0_goOn_9 ?_
  refine g_istore_n X rfl dX0_goOn_10 [(3, .int 0), (0, .ref (B.2.1 10 b 0)), (1, .int (nI 0)), (2, .int (nI (S.1 2 + 4) - 1))] rfl (gnl_lt hnL (by decide)) ?_
  refine gG_Le [(3, .int (nI 0)), (0, .ref (B.2.1 10 b 0)), (1, .int (nI 0)), (2, .int (nI (S.1 2 + 4) - 1))] rfl ?_
  refine gG_L [1, 2, 3, 0] (L' := [(0, .ref (B.2.1 10 b 0)), (1, .int (nI 0)), (2, .int (nI (S.1 2 + 4) - 1)), (3, .int (nI 0))]) rfl ?_
  have loop : ∀ (is : List Nat) (j m lim : Nat) (V1 : gMem) (S1 : gSt), j ≤ (S.2.1 2).length → (S.2.1 2).drop j = is → AbsC V1 b S1 → brmod V V1 b → S1.1 = S.1 ∧ S1.2.1 = S.2.1 → (∀ i ∈ is, S1.2.2.2.1 i 9 = S.2.2.2.1 i 9 ∧ S1.2.2.2.1 i 4 = S.2.2.2.1 i 4) → is.Pairwise (fun i j => S.2.2.2.1 j 9 < S.2.2.2.1 i 9) → (∀ i ∈ is, S.2.2.2.1 i 9 < lim) → lim ≤ 34 → goOnL (S.1 2) (S.1 0) (S.2.1 2) (S.1 2 + 4) S = ((goOnL (S.1 2) (S.1 0) is lim S1).1, (goOnL (S.1 2) (S.1 0) is lim S1).2 + m) → gG Z B (0, 0) V1 11 [(0, .ref (B.2.1 10 b 0)), (1, .int (nI m)), (2, .int (nI lim - 1)), (3, .int (nI j))] [] := by
    intro is
    induction is with
    | nil =>
      intro j m lim V1 S1 hjb hd hA hm hq1 hun hpw hlim hl34 hF
      have hX : (S1.2.1 2).length = (S.2.1 2).length := by rw [hq1.2]
      have hXl : (S.2.1 2).length ≤ 16 := hS.bnd (by decide)
      have hjl : (S.2.1 2).length ≤ j := by
        have := congrArg List.length hd; simp at this; omega
      have hmeq : (goOnL (S.1 2) (S.1 0) (S.2.1 2) (S.1 2 + 4) S) = (S1, m) := by rw [hF]; show (S1, 0 + m) = (S1, m); rw [Nat.zero_add]
      have hml : m ≤ (S.2.1 2).length := by
        have := goOnL_le (S.1 2) (S.1 0) (S.2.1 2) (S.1 2 + 4) S; rw [hmeq] at this; exact this
      refine g_iload_n X 3 rfl dX0_goOn_11 ?_
      refine g_aload_n X 0 rfl dX0_goOn_12 ?_
      refine gg_X0_crossing X (gP_10 (by first | assumption | decide | omega)) fX0_43 dX0_goOn_13 ?_
      refine gg_X5_size X (gP_13 (by first | assumption | decide | omega) (by first | assumption | decide | omega)) fX0_80 dX0_goOn_16 ?_
      refine gG_top (nI (S1.2.1 2).length) ((hA.2.1 2 (by first | decide | omega)).1) ?_
      refine g_icmp_ge X 109 (by decide) dX0_goOn_19 (fun c1 => ?_) (fun c1 => ?_)
      · refine g_iconst X 0 (by decide) dX0_goOn_109 ?_
        refine g_istore_n X rfl dX0_goOn_110 [(3, .int 0), (0, .ref (B.2.1 10 b 0)), (1, .int (nI m)), (2, .int (nI lim - 1))] rfl (gnl_lt hnL (by decide)) ?_
        refine gG_L [1, 2, 0] (L' := [(0, .ref (B.2.1 10 b 0)), (1, .int (nI m)), (3, .int 0)]) rfl ?_
        have hS2 : sGoOn S = (sQ S1 2 ((S.2.1 2).drop m), m) := by simp only [sGoOn, hmeq]
        have loop2 : ∀ (f : Nat) (k : Nat) (V2 : gMem), k + f = m → AbsC V2 b (sQ S1 2 ((S.2.1 2).drop k)) → brmod V V2 b → gG Z B (0, 0) V2 111 [(0, .ref (B.2.1 10 b 0)), (1, .int (nI m)), (3, .int (nI k))] [] := by
          intro f
          induction f with
          | zero =>
            intro k V2 hf h2 m2
            refine g_iload_n X 2 rfl dX0_goOn_111 ?_
            refine g_iload_n X 1 rfl dX0_goOn_112 ?_
            refine g_icmp_ge X 129 (by decide) dX0_goOn_113 (fun c2 => ?_) (fun c2 => ?_)
            · refine g_iload_n X 1 rfl dX0_goOn_129 ?_
              refine g_iret X F ?_ rfl dX0_goOn_130
              have hkm : k = m := by omega
              subst hkm
              rw [hS2]
              exact ⟨rfl, h2, m2⟩
            · first | exact absurd (nI_le (by omega) (by omega)) c2 | exact absurd c2 (nI_le (by omega) (by omega))
          | succ f ih =>
            intro k V2 hf h2 m2
            obtain ⟨c, ys, hdr⟩ := drop_ex (xs := S.2.1 2) (j := k) (by omega)
            have hdc := drop_cons hdr
            have hrc : RowIs V2 b 2 (c :: ys) := by
              have h3 := h2.2.1 2 (by decide)
              simp only [sQ, if_true] at h3
              rw [hdr] at h3; exact h3
            refine g_iload_n X 2 rfl dX0_goOn_111 ?_
            refine g_iload_n X 1 rfl dX0_goOn_112 ?_
            refine g_icmp_ge X 129 (by decide) dX0_goOn_113 (fun c3 => ?_) (fun c3 => ?_)
            · first | exact absurd (nI_ge (by omega) (by omega)) c3 | exact absurd c3 (nI_ge (by omega) (by omega))
            · refine g_aload_n X 0 rfl dX0_goOn_116 ?_
              refine gg_X0_crossing X (gP_10 (by first | assumption | decide | omega)) fX0_43 dX0_goOn_117 ?_
              refine g_callV X hR (rest := []) mX5_removeFirst lX0_147 (k_removeFirst hI V2 b 2 c ys (by first | assumption | decide | omega) (by first | assumption | decide | omega) hrc) rfl rfl (Nat.le_of_ble_eq_true rfl) (gP_13 (by first | assumption | decide | omega) (by first | assumption | decide | omega)) rfl rfl rfl ⟨Nat.le_of_ble_eq_true rfl, Nat.le_of_ble_eq_true rfl, Nat.le_of_ble_eq_true rfl, Nat.le_of_ble_eq_true rfl⟩ dX0_goOn_120 (fun r4 V5 hz_6 => ?_)
              refine gG_rv hz_6.1 ?_
              obtain ⟨-, hrowV5, hmodV5⟩ := hz_6
              refine gG_st [] rfl ?_
              refine g_iinc X 2 rfl (nI (k + 1)) (iinc_1 _) dX0_goOn_123 [(3, .int (nI (k + 1))), (0, .ref (B.2.1 10 b 0)), (1, .int (nI m))] rfl (gnl_lt hnL (by decide)) ?_
              refine g_goto X 111 (by decide) dX0_goOn_126 ?_
              refine gG_L [1, 2, 0] (L' := [(0, .ref (B.2.1 10 b 0)), (1, .int (nI m)), (3, .int (nI (k + 1)))]) rfl ?_
              refine ih (k + 1) V5 (by omega) (by have := h2.setQ hrowV5 hmodV5; rw [sQ_sQ, ← hdc.2.1] at this; exact this) (m2.trans hmodV5.br)
        exact loop2 m 0 V1 (by omega) (hA.sameQ (by decide) (by rw [hq1.2]; simp)) hm
      · first | exact absurd (nI_le (by omega) (by omega)) c1 | exact absurd c1 (nI_le (by omega) (by omega))
    | cons i is ih =>
      intro j m lim V1 S1 hjb hd hA hm hq1 hun hpw hlim hl34 hF
      have hX : (S1.2.1 2).length = (S.2.1 2).length := by rw [hq1.2]
      have hXl : (S.2.1 2).length ≤ 16 := hS.bnd (by decide)
      obtain ⟨hg, hd2, hjl⟩ := drop_cons hd
      have him : i ∈ S.2.1 2 := List.mem_of_getElem? hg
      have hin : i < S.1 6 := hw.mem him
      have hin1 : i < S1.1 6 := by rw [hq1.1]; exact hin
      have hN : S.1 6 ≤ 16 := hw.1.2.2.2.2.2
      have hN1 : S1.1 6 ≤ 16 := by rw [hq1.1]; exact hN
      have hl0 := hlim i List.mem_cons_self
      have hpace := (hw.2.1 i hin).2.2.2.1
      have hpl := hw.1.2.1
      obtain ⟨hu9, hu4⟩ := hun i List.mem_cons_self
      rw [List.pairwise_cons] at hpw
      refine g_iload_n X 3 rfl dX0_goOn_11 ?_
      refine g_aload_n X 0 rfl dX0_goOn_12 ?_
      refine gg_X0_crossing X (gP_10 (by first | assumption | decide | omega)) fX0_43 dX0_goOn_13 ?_
      refine gg_X5_size X (gP_13 (by first | assumption | decide | omega) (by first | assumption | decide | omega)) fX0_80 dX0_goOn_16 ?_
      refine gG_top (nI (S1.2.1 2).length) ((hA.2.1 2 (by first | decide | omega)).1) ?_
      refine g_icmp_ge X 109 (by decide) dX0_goOn_19 (fun c7 => ?_) (fun c7 => ?_)
      · first | exact absurd (nI_ge (by omega) (by omega)) c7 | exact absurd c7 (nI_ge (by omega) (by omega))
      · refine g_aload_n X 0 rfl dX0_goOn_22 ?_
        refine g_aload_n X 0 rfl dX0_goOn_23 ?_
        refine gg_X0_crossing X (gP_10 (by first | assumption | decide | omega)) fX0_43 dX0_goOn_24 ?_
        refine g_iload_n X 3 rfl dX0_goOn_27 ?_
        refine g_callV X hR (rest := [.ref (B.2.1 10 b 0)]) mX5_at lX0_83 (k_at hI V1 b 2 (S1.2.1 2) j (by first | assumption | decide | omega) (by first | assumption | decide | omega) (hA.2.1 2 (by decide)) (by omega)) rfl rfl (Nat.le_of_ble_eq_true rfl) (gP_13 (by first | assumption | decide | omega) (by first | assumption | decide | omega)) rfl rfl rfl ⟨Nat.le_of_ble_eq_true rfl, Nat.le_of_ble_eq_true rfl, Nat.le_of_ble_eq_true rfl, Nat.le_of_ble_eq_true rfl⟩ dX0_goOn_28 (fun r8 V9 hz_10 => ?_)
        refine gG_ret hz_10.1 hz_10.2 ?_
        refine gG_st [.int (lat (S1.2.1 2) j), .ref (B.2.1 10 b 0)] rfl ?_
        refine gG_top (nI i) (lat_some (by rw [hq1.2]; exact hg)) ?_
        refine g_callV X hR (rest := []) mX0_cartAt lX0_57 (k_cartAt hI V1 b S1 i (by first | assumption | decide | omega) hA hN1 hin1) rfl rfl (Nat.le_of_ble_eq_true rfl) (gP_10 (by first | assumption | decide | omega)) rfl rfl rfl ⟨Nat.le_of_ble_eq_true rfl, Nat.le_of_ble_eq_true rfl, Nat.le_of_ble_eq_true rfl, Nat.le_of_ble_eq_true rfl⟩ dX0_goOn_31 (fun r11 V12 hz_13 => ?_)
        refine gG_ret hz_13.1 hz_13.2 ?_
        refine gG_st [.ref (B.2.1 15 b i)] rfl ?_
        refine g_astore X dX0_goOn_34 [(4, .ref (B.2.1 15 b i)), (0, .ref (B.2.1 10 b 0)), (1, .int (nI m)), (2, .int (nI lim - 1)), (3, .int (nI j))] rfl (gnl_lt hnL (by decide)) ?_
        refine g_aload X 0 rfl dX0_goOn_36 ?_
        refine g_ifnonnull X 44 (by decide) dX0_goOn_38 ?_
        refine g_aload X 0 rfl dX0_goOn_44 ?_
        refine gg_X1_way X (gP_15 (by first | assumption | decide | omega) (by first | assumption | decide | omega)) fX0_133 dX0_goOn_46 ?_
        refine gG_top (nI (S1.2.2.2.1 i 9)) (hA.2.2.2.1 i (by first | assumption | omega) 9 (by decide) (by decide)) ?_
        refine g_aload X 0 rfl dX0_goOn_49 ?_
        refine gg_X1_pace X (gP_15 (by first | assumption | decide | omega) (by first | assumption | decide | omega)) fX0_96 dX0_goOn_51 ?_
        refine gG_top (nI (S1.2.2.2.1 i 4)) (hA.2.2.2.1 i (by first | assumption | omega) 4 (by decide) (by decide)) ?_
        refine g_iadd X dX0_goOn_54 ?_
        refine gG_top (nI ((S1.2.2.2.1 i 9) + (S1.2.2.2.1 i 4))) (nI_add (S1.2.2.2.1 i 9) (S1.2.2.2.1 i 4)) ?_
        refine g_iload_n X 3 rfl dX0_goOn_55 ?_
        refine gG_top (nI (lim - 1)) (nI_dec (by omega)) ?_
        refine g_min X hR qL_X0_142 ⟨Nat.le_of_ble_eq_true rfl, Nat.le_of_ble_eq_true rfl, Nat.le_of_ble_eq_true rfl, Nat.le_of_ble_eq_true rfl⟩ (Nat.le_of_ble_eq_true rfl) dX0_goOn_56 ?_
        refine gG_top (nI (min (S1.2.2.2.1 i 9 + S1.2.2.2.1 i 4) (lim - 1))) (minI (by rw [hu9, hu4]; omega) (by omega)) ?_
        refine g_istore X dX0_goOn_59 [(5, .int (nI (min (S1.2.2.2.1 i 9 + S1.2.2.2.1 i 4) (lim - 1)))), (4, .ref (B.2.1 15 b i)), (0, .ref (B.2.1 10 b 0)), (1, .int (nI m)), (2, .int (nI lim - 1)), (3, .int (nI j))] rfl (gnl_lt hnL (by decide)) ?_
        refine g_iload X 0 rfl dX0_goOn_61 ?_
        refine g_aload_n X 2 rfl dX0_goOn_63 ?_
        refine gg_X0_places X (gP_10 (by first | assumption | decide | omega)) fX0_9 dX0_goOn_64 ?_
        refine gG_top (nI (S1.1 2)) (hA.1 2 (by decide)) ?_
        by_cases hlt : min (S1.2.2.2.1 i 9 + S1.2.2.2.1 i 4) (lim - 1) < S.1 2
        · skip
          refine g_icmp_ge X 85 (by decide) dX0_goOn_67 (fun c14 => ?_) (fun c14 => ?_)
          · first | exact absurd (nI_ge (by rw [hq1.1]; exact hlt) (by rw [hq1.1]; omega)) c14 | exact absurd c14 (nI_ge (by rw [hq1.1]; exact hlt) (by rw [hq1.1]; omega))
          · refine g_aload X 1 rfl dX0_goOn_70 ?_
            refine g_iload X 0 rfl dX0_goOn_72 ?_
            refine gp_X1_way X (gP_15 (by first | assumption | decide | omega) (by first | assumption | decide | omega)) fX0_133 dX0_goOn_74 ?_
            refine gG_nm (fun V15 hV15 => ?_)
            obtain ⟨S16, eS16⟩ : ∃ y, y = sC S1 i 9 (min (S1.2.2.2.1 i 9 + S1.2.2.2.1 i 4) (lim - 1)) := ⟨_, rfl⟩
            have hS16 : AbsC V15 b S16 := by rw [eS16, hV15]; exact hA.setC i 9 (min (S1.2.2.2.1 i 9 + S1.2.2.2.1 i 4) (lim - 1)) (by decide)
            have mS16 : brmod V V15 b := by rw [hV15]; exact hm.up (by decide) (by decide)
            have nS16 : S16.1 = S1.1 := by rw [eS16]; exact rfl
            refine g_iload X 0 rfl dX0_goOn_77 ?_
            refine g_iconst X 1 (by decide) dX0_goOn_79 ?_
            refine g_isub X dX0_goOn_80 ?_
            refine g_istore_n X rfl dX0_goOn_81 [(2, .int ((nI (min (S1.2.2.2.1 i 9 + S1.2.2.2.1 i 4) (lim - 1))) - 1)), (5, .int (nI (min (S1.2.2.2.1 i 9 + S1.2.2.2.1 i 4) (lim - 1)))), (4, .ref (B.2.1 15 b i)), (0, .ref (B.2.1 10 b 0)), (1, .int (nI m)), (3, .int (nI j))] rfl (gnl_lt hnL (by decide)) ?_
            refine g_goto X 103 (by decide) dX0_goOn_82 ?_
            refine g_iinc X 5 rfl (nI (j + 1)) (iinc_1 _) dX0_goOn_103 [(3, .int (nI (j + 1))), (2, .int ((nI (min (S1.2.2.2.1 i 9 + S1.2.2.2.1 i 4) (lim - 1))) - 1)), (5, .int (nI (min (S1.2.2.2.1 i 9 + S1.2.2.2.1 i 4) (lim - 1)))), (4, .ref (B.2.1 15 b i)), (0, .ref (B.2.1 10 b 0)), (1, .int (nI m))] rfl (gnl_lt hnL (by decide)) ?_
            refine g_goto X 11 (by decide) dX0_goOn_106 ?_
            refine gG_L [4, 5, 1, 0] (L' := [(0, .ref (B.2.1 10 b 0)), (1, .int (nI m)), (2, .int ((nI (min (S1.2.2.2.1 i 9 + S1.2.2.2.1 i 4) (lim - 1))) - 1)), (3, .int (nI (j + 1)))]) rfl ?_
            rw [goOnL] at hF
            rw [if_pos hlt] at hF
            refine ih (j + 1) m (min (S1.2.2.2.1 i 9 + S1.2.2.2.1 i 4) (lim - 1)) V15 S16 (by omega) hd2 hS16 mS16 ?_ (fun k hk => ?_) hpw.2 (fun k hk => ?_) (by omega) ?_
            · rw [eS16]; exact hq1
            · have hne : k ≠ i := fun h => by subst h; exact Nat.lt_irrefl _ (hpw.1 k hk)
              rw [eS16]
              simp only [sC]
              rw [if_neg (fun h => hne h.1), if_neg (fun h => hne h.1)]
              exact hun k (List.mem_cons_of_mem _ hk)
            · have := hpw.1 k hk; rw [hu9, hu4]; omega
            · rw [eS16]; exact hF
        · skip
          refine g_icmp_ge X 85 (by decide) dX0_goOn_67 (fun c17 => ?_) (fun c17 => ?_)
          · refine g_aload X 1 rfl dX0_goOn_85 ?_
            refine g_iconst X 2 (by decide) dX0_goOn_87 ?_
            refine gp_X1_state X (gP_15 (by first | assumption | decide | omega) (by first | assumption | decide | omega)) fX0_74 dX0_goOn_88 ?_
            refine gG_nm (fun V18 hV18 => ?_)
            obtain ⟨S19, eS19⟩ : ∃ y, y = sC S1 i 8 2 := ⟨_, rfl⟩
            have hS19 : AbsC V18 b S19 := by rw [eS19, hV18]; exact hA.setC i 8 2 (by decide)
            have mS19 : brmod V V18 b := by rw [hV18]; exact hm.up (by decide) (by decide)
            have nS19 : S19.1 = S1.1 := by rw [eS19]; exact rfl
            refine g_aload X 1 rfl dX0_goOn_91 ?_
            refine g_aload_n X 2 rfl dX0_goOn_93 ?_
            refine gg_X0_tick X (gP_10 (by first | assumption | decide | omega)) fX0_71 dX0_goOn_94 ?_
            refine gG_top (nI (S1.1 0)) ((hS19.1 0 (by decide)).trans (by rw [nS19])) ?_
            refine gp_X1_overTick X (gP_15 (by first | assumption | decide | omega) (by first | assumption | decide | omega)) fX0_90 dX0_goOn_97 ?_
            refine gG_nm (fun V20 hV20 => ?_)
            obtain ⟨S21, eS21⟩ : ∃ y, y = sO S19 i (nI (S1.1 0)) := ⟨_, rfl⟩
            have hS21 : AbsC V20 b S21 := by rw [eS21, hV20]; exact hS19.setO i (nI (S1.1 0))
            have mS21 : brmod V V20 b := by rw [hV20]; exact mS19.up (by decide) (by decide)
            have nS21 : S21.1 = S1.1 := by rw [eS21]; exact nS19
            refine g_iinc X 3 rfl (nI (m + 1)) (iinc_1 _) dX0_goOn_100 [(1, .int (nI (m + 1))), (5, .int (nI (min (S1.2.2.2.1 i 9 + S1.2.2.2.1 i 4) (lim - 1)))), (4, .ref (B.2.1 15 b i)), (0, .ref (B.2.1 10 b 0)), (2, .int (nI lim - 1)), (3, .int (nI j))] rfl (gnl_lt hnL (by decide)) ?_
            refine g_iinc X 5 rfl (nI (j + 1)) (iinc_1 _) dX0_goOn_103 [(3, .int (nI (j + 1))), (1, .int (nI (m + 1))), (5, .int (nI (min (S1.2.2.2.1 i 9 + S1.2.2.2.1 i 4) (lim - 1)))), (4, .ref (B.2.1 15 b i)), (0, .ref (B.2.1 10 b 0)), (2, .int (nI lim - 1))] rfl (gnl_lt hnL (by decide)) ?_
            refine g_goto X 11 (by decide) dX0_goOn_106 ?_
            refine gG_L [4, 1, 5, 0] (L' := [(0, .ref (B.2.1 10 b 0)), (1, .int (nI (m + 1))), (2, .int (nI lim - 1)), (3, .int (nI (j + 1)))]) rfl ?_
            rw [goOnL] at hF
            rw [if_neg hlt] at hF
            refine ih (j + 1) (m + 1) lim V20 S21 (by omega) hd2 hS21 mS21 ?_ (fun k hk => ?_) hpw.2 (fun k hk => hlim k (List.mem_cons_of_mem _ hk)) hl34 ?_
            · rw [eS21, eS19]; exact hq1
            · have hne : k ≠ i := fun h => by subst h; exact Nat.lt_irrefl _ (hpw.1 k hk)
              rw [eS21, eS19]
              simp only [sO, sC]
              rw [if_neg (fun h => hne h.1), if_neg (fun h => hne h.1)]
              exact hun k (List.mem_cons_of_mem _ hk)
            · rw [eS21, eS19, hF]; rw [hq1.1]; simp only [Nat.add_assoc, Nat.add_comm 1 m]
          · first | exact absurd (nI_le (by rw [hq1.1]; omega) (by omega)) c17 | exact absurd c17 (nI_le (by rw [hq1.1]; omega) (by omega))
  have hpl := hw.1.2.1
  exact loop (S.2.1 2) 0 0 (S.1 2 + 4) V S (Nat.zero_le _) (by simp) hS brmod.rf ⟨rfl, rfl⟩ (fun _ _ => ⟨rfl, rfl⟩) hw.2.2.2.1 (fun i hi => by have := hw.2.2.2.2.2.1 i hi; omega) (by omega) (by simp)
end
section
/-! going back -/
def backL : List Nat → gSt → gSt
  | [], S => S
  | i :: is, S => backL is (sC S i 9 (S.2.2.2.1 i 9 - 1))
def sLeave (S : gSt) (l : Nat) (ys : List Nat) : gSt :=
  let S1 := sC S l 8 0
  let S2 := sQ S1 (S1.2.2.2.1 l 1) (l :: S1.2.1 (S1.2.2.2.1 l 1))
  sQ S2 2 ys
def sGoBack (S : gSt) : gSt := match (S.2.1 2).reverse with
  | [] => S
  | l :: rs => if S.2.2.2.1 l 9 = 0 then backL rs (sLeave S l rs.reverse) else backL (l :: rs) S
theorem iinc_dec (x : Int32) : x + Int32.ofInt (-1) = x - 1 := by
  have h : Int32.ofInt (-1) = -1 := by decide
  rw [h, Int32.sub_eq_add_neg]
theorem maxI {w : Nat} {nr : Int32} (hw : w < 2 ^ 31) (h : nr = -1 ∨ ∃ v : Nat, nr = nI v ∧ v ≤ w) : (if nI w < nr then nr else nI w) = nI w := by
  rcases h with rfl | ⟨v, rfl, hv⟩
  · rw [if_neg]
    intro q
    exact absurd (Int32.lt_of_lt_of_le q (by decide : (-1 : Int32) ≤ 0)) (nI_pos hw)
  · rw [if_neg (nI_nlt hv hw)]

abbrev rmX0_goBack : Room := { frames := 2, cells := 0, slots := 0, locals := 43 }
set_option maxRecDepth 20000 in
theorem k_goBack {l : Launch} {B : gB} (hI : gI B) (V : gMem) (b : Nat) (S : gSt) (hb : b < 3) (hS : AbsC V b S) (hw : WF S) : gM l B yX0_goBack cX0_goBack 5 none rmX0_goBack [.ref (B.2.1 10 b 0)] V (fun v V' => v = none ∧ AbsC V' b (sGoBack S) ∧ brmod V V' b) := by
  refine gM_of (own := RX0) (L := [(0, .ref (B.2.1 10 b 0))]) (by decide +kernel) rfl hI (Nat.le_of_ble_eq_true rfl) rfl ?_
  intro Z hnL hR X F
  refine g_iconst X (-1) (by decide) dX0_goBack_0 ?_
  refine g_istore_n X rfl dX0_goBack_1 [(1, .int ((-1))), (0, .ref (B.2.1 10 b 0))] rfl (gnl_lt hnL (by decide)) ?_
  refine g_aload_n X 1 rfl dX0_goBack_2 ?_
  refine gg_X0_crossing X (gP_10 (by first | assumption | decide | omega)) fX0_43 dX0_goBack_3 ?_
  refine gg_X5_size X (gP_13 (by first | assumption | decide | omega) (by first | assumption | decide | omega)) fX0_80 dX0_goBack_6 ?_
  refine gG_top (nI (S.2.1 2).length) ((hS.2.1 2 (by first | decide | omega)).1) ?_
  refine g_iconst X 1 (by decide) dX0_goBack_9 ?_
  refine g_isub X dX0_goBack_10 ?_
  refine g_istore_n X rfl dX0_goBack_11 [(2, .int ((nI (S.2.1 2).length) - 1)), (1, .int ((-1))), (0, .ref (B.2.1 10 b 0))] rfl (gnl_lt hnL (by decide)) ?_
  refine gG_L [2, 1, 0] (L' := [(0, .ref (B.2.1 10 b 0)), (1, .int ((-1))), (2, .int ((nI (S.2.1 2).length) - 1))]) rfl ?_
  have hXl : (S.2.1 2).length ≤ 16 := hS.bnd (by decide)
  have loop : ∀ (k : Nat) (V1 : gMem) (S1 : gSt) (nr : Int32), k ≤ (S.2.1 2).length → AbsC V1 b S1 → brmod V V1 b → S1.1 = S.1 → (∀ j, j < k → (S1.2.1 2)[j]? = (S.2.1 2)[j]?) → (∀ i ∈ (S.2.1 2).take k, S1.2.2.2.1 i 9 = S.2.2.2.1 i 9 ∧ 0 < S.2.2.2.1 i 9) → (nr = -1 ∨ ∃ v : Nat, nr = nI v ∧ ∀ i ∈ (S.2.1 2).take k, v < S.2.2.2.1 i 9) → sGoBack S = backL ((S.2.1 2).take k).reverse S1 → gG Z B (0, 0) V1 12 [(0, .ref (B.2.1 10 b 0)), (1, .int nr), (2, .int (nI k - 1))] [] := by
    intro k
    induction k with
    | zero =>
      intro V1 S1 nr hk hA hm hq1 hr1 hun hnr hF
      refine g_iload_n X 2 rfl dX0_goBack_12 ?_
      refine gG_top ((-1)) (by decide) ?_
      refine g_if_lt X 103 (by decide) dX0_goBack_13 (fun c1 => ?_) (fun c1 => ?_)
      · refine g_vret X F ?_ rfl dX0_goBack_103
        rw [hF]
        exact ⟨rfl, hA, hm⟩
      ·  exact absurd c1 (by decide)
    | succ k ih =>
      intro V1 S1 nr hk hA hm hq1 hr1 hun hnr hF
      obtain ⟨i, hg⟩ := get_some (xs := S.2.1 2) (j := k) (by omega)
      have him : i ∈ S.2.1 2 := List.mem_of_getElem? hg
      have hin : i < S.1 6 := hw.mem him
      have hin1 : i < S1.1 6 := by rw [hq1]; exact hin
      have hN : S.1 6 ≤ 16 := hw.1.2.2.2.2.2
      have hN1 : S1.1 6 ≤ 16 := by rw [hq1]; exact hN
      have htk : (S.2.1 2).take (k + 1) = (S.2.1 2).take k ++ [i] := by rw [List.take_add_one, hg]; rfl
      have hit : i ∈ (S.2.1 2).take (k + 1) := by rw [htk]; simp
      obtain ⟨hu, hpos⟩ := hun i hit
      have hw30 : S.2.2.2.1 i 9 < 30 := by have := hw.2.2.2.2.2.1 i him; have := hw.1.2.1; omega
      have hpw : ∀ a ∈ (S.2.1 2).take k, S.2.2.2.1 i 9 < S.2.2.2.1 a 9 := by
        have h9 := hw.2.2.2.1.sublist (List.take_sublist (k + 1) (S.2.1 2))
        rw [htk, List.pairwise_append] at h9
        exact fun a ha => h9.2.2 a ha i (List.mem_singleton.mpr rfl)
      have hX : k < (S1.2.1 2).length := by
        have h9 := hr1 k (Nat.lt_succ_self k)
        rw [hg] at h9
        exact (List.getElem?_eq_some_iff.mp h9).1
      have hX16 : (S1.2.1 2).length ≤ 16 := hA.bnd (by decide)
      refine g_iload_n X 2 rfl dX0_goBack_12 ?_
      refine gG_top (nI k) (nI_pred k) ?_
      refine g_if_lt X 103 (by decide) dX0_goBack_13 (fun c2 => ?_) (fun c2 => ?_)
      · first | exact absurd (nI_pos (by omega)) c2 | exact absurd c2 (nI_pos (by omega))
      · refine g_aload_n X 0 rfl dX0_goBack_16 ?_
        refine g_aload_n X 0 rfl dX0_goBack_17 ?_
        refine gg_X0_crossing X (gP_10 (by first | assumption | decide | omega)) fX0_43 dX0_goBack_18 ?_
        refine g_iload_n X 2 rfl dX0_goBack_21 ?_
        refine gG_top (nI k) (nI_pred k) ?_
        refine g_callV X hR (rest := [.ref (B.2.1 10 b 0)]) mX5_at lX0_83 (k_at hI V1 b 2 (S1.2.1 2) k (by first | assumption | decide | omega) (by first | assumption | decide | omega) (hA.2.1 2 (by decide)) (by omega)) rfl rfl (Nat.le_of_ble_eq_true rfl) (gP_13 (by first | assumption | decide | omega) (by first | assumption | decide | omega)) rfl rfl rfl ⟨Nat.le_of_ble_eq_true rfl, Nat.le_of_ble_eq_true rfl, Nat.le_of_ble_eq_true rfl, Nat.le_of_ble_eq_true rfl⟩ dX0_goBack_22 (fun r3 V4 hz_5 => ?_)
        refine gG_ret hz_5.1 hz_5.2 ?_
        refine gG_st [.int (lat (S1.2.1 2) k), .ref (B.2.1 10 b 0)] rfl ?_
        refine gG_top (nI i) (lat_some (by rw [hr1 k (Nat.lt_succ_self k)]; exact hg)) ?_
        refine g_callV X hR (rest := []) mX0_cartAt lX0_57 (k_cartAt hI V1 b S1 i (by first | assumption | decide | omega) hA hN1 hin1) rfl rfl (Nat.le_of_ble_eq_true rfl) (gP_10 (by first | assumption | decide | omega)) rfl rfl rfl ⟨Nat.le_of_ble_eq_true rfl, Nat.le_of_ble_eq_true rfl, Nat.le_of_ble_eq_true rfl, Nat.le_of_ble_eq_true rfl⟩ dX0_goBack_25 (fun r6 V7 hz_8 => ?_)
        refine gG_ret hz_8.1 hz_8.2 ?_
        refine gG_st [.ref (B.2.1 15 b i)] rfl ?_
        refine g_astore_n X rfl dX0_goBack_28 [(3, .ref (B.2.1 15 b i)), (0, .ref (B.2.1 10 b 0)), (1, .int nr), (2, .int (nI (k + 1) - 1))] rfl (gnl_lt hnL (by decide)) ?_
        refine g_aload_n X 0 rfl dX0_goBack_29 ?_
        refine g_ifnonnull X 36 (by decide) dX0_goBack_30 ?_
        refine g_aload_n X 0 rfl dX0_goBack_36 ?_
        refine gg_X1_way X (gP_15 (by first | assumption | decide | omega) (by first | assumption | decide | omega)) fX0_133 dX0_goBack_37 ?_
        refine gG_top (nI (S1.2.2.2.1 i 9)) (hA.2.2.2.1 i (by first | assumption | omega) 9 (by decide) (by decide)) ?_
        refine g_iconst X 1 (by decide) dX0_goBack_40 ?_
        refine g_isub X dX0_goBack_41 ?_
        refine gG_top (nI (S.2.2.2.1 i 9 - 1)) (by rw [hu]; exact nI_dec hpos) ?_
        refine g_iload_n X 2 rfl dX0_goBack_42 ?_
        refine g_max X hR qL_X0_150 ⟨Nat.le_of_ble_eq_true rfl, Nat.le_of_ble_eq_true rfl, Nat.le_of_ble_eq_true rfl, Nat.le_of_ble_eq_true rfl⟩ (Nat.le_of_ble_eq_true rfl) dX0_goBack_43 ?_
        refine gG_top (nI (S.2.2.2.1 i 9 - 1)) (maxI (by omega) (hnr.imp id (fun h => h.elim fun v h => ⟨v, h.1, by have := h.2 i hit; omega⟩))) ?_
        refine g_istore X dX0_goBack_46 [(4, .int (nI (S.2.2.2.1 i 9 - 1))), (3, .ref (B.2.1 15 b i)), (0, .ref (B.2.1 10 b 0)), (1, .int nr), (2, .int (nI (k + 1) - 1))] rfl (gnl_lt hnL (by decide)) ?_
        refine g_iload X 0 rfl dX0_goBack_48 ?_
        refine g_if_lt X 67 (by decide) dX0_goBack_50 (fun c9 => ?_) (fun c9 => ?_)
        · first | exact absurd (nI_pos (by omega)) c9 | exact absurd c9 (nI_pos (by omega))
        · refine g_aload_n X 1 rfl dX0_goBack_53 ?_
          refine g_iload X 0 rfl dX0_goBack_54 ?_
          refine gp_X1_way X (gP_15 (by first | assumption | decide | omega) (by first | assumption | decide | omega)) fX0_133 dX0_goBack_56 ?_
          refine gG_nm (fun V10 hV10 => ?_)
          obtain ⟨S11, eS11⟩ : ∃ y, y = sC S1 i 9 (S.2.2.2.1 i 9 - 1) := ⟨_, rfl⟩
          have hS11 : AbsC V10 b S11 := by rw [eS11, hV10]; exact hA.setC i 9 (S.2.2.2.1 i 9 - 1) (by decide)
          have mS11 : brmod V V10 b := by rw [hV10]; exact hm.up (by decide) (by decide)
          have nS11 : S11.1 = S1.1 := by rw [eS11]; exact rfl
          refine g_iload X 0 rfl dX0_goBack_59 ?_
          refine g_iconst X 1 (by decide) dX0_goBack_61 ?_
          refine g_iadd X dX0_goBack_62 ?_
          refine gG_top (nI ((S.2.2.2.1 i 9 - 1) + 1)) (nI_1 _) ?_
          refine gG_top (nI (S.2.2.2.1 i 9)) (by rw [Nat.sub_add_cancel hpos]) ?_
          refine g_istore_n X rfl dX0_goBack_63 [(1, .int (nI (S.2.2.2.1 i 9))), (4, .int (nI (S.2.2.2.1 i 9 - 1))), (3, .ref (B.2.1 15 b i)), (0, .ref (B.2.1 10 b 0)), (2, .int (nI (k + 1) - 1))] rfl (gnl_lt hnL (by decide)) ?_
          refine g_goto X 97 (by decide) dX0_goBack_64 ?_
          refine g_iinc X 4 rfl (nI k - 1) (by rw [nI_pred]; exact iinc_dec _) dX0_goBack_97 [(2, .int (nI k - 1)), (1, .int (nI (S.2.2.2.1 i 9))), (4, .int (nI (S.2.2.2.1 i 9 - 1))), (3, .ref (B.2.1 15 b i)), (0, .ref (B.2.1 10 b 0))] rfl (gnl_lt hnL (by decide)) ?_
          refine g_goto X 12 (by decide) dX0_goBack_100 ?_
          refine gG_L [4, 1, 0] (L' := [(0, .ref (B.2.1 10 b 0)), (1, .int (nI (S.2.2.2.1 i 9))), (2, .int (nI k - 1))]) rfl ?_
          refine ih V10 S11 (nI (S.2.2.2.1 i 9)) (by omega) hS11 mS11 (by rw [eS11]; exact hq1) (fun j hj => by rw [eS11]; exact hr1 j (by omega)) (fun a ha => ?_) (Or.inr ⟨_, rfl, hpw⟩) ?_
          · have h9 := hun a (by rw [htk]; exact List.mem_append_left _ ha)
            have hne : a ≠ i := fun h => by subst h; exact Nat.lt_irrefl _ (hpw a ha)
            rw [eS11]
            simp only [sC]
            rw [if_neg (fun h => hne h.1)]
            exact h9
          · rw [hF, htk, List.reverse_append, List.reverse_singleton, List.singleton_append, eS11, backL, hu]
  have hN : S.1 6 ≤ 16 := hw.1.2.2.2.2.2
  rcases List.eq_nil_or_concat (S.2.1 2) with hq | ⟨ys, l, hq⟩
  · exact loop (S.2.1 2).length V S (-1) (Nat.le_refl _) hS brmod.rf rfl (fun _ _ => rfl) (fun i hi => by rw [hq] at hi; simp at hi) (Or.inl rfl) (by unfold sGoBack; rw [hq]; rfl)
  · have hq : S.2.1 2 = ys ++ [l] := hq.trans (List.concat_eq_append ..)
    have hlm : l ∈ S.2.1 2 := by rw [hq]; simp
    have hrev : (S.2.1 2).reverse = l :: ys.reverse := by rw [hq]; simp
    have hpwl : ∀ a ∈ ys, S.2.2.2.1 l 9 < S.2.2.2.1 a 9 := by
      have h9 := hw.2.2.2.1
      rw [hq, List.pairwise_append] at h9
      exact fun a ha => h9.2.2 a ha l (List.mem_singleton.mpr rfl)
    by_cases hz : S.2.2.2.1 l 9 = 0
    · have hl : l < S.1 6 := hw.mem hlm
      have hcl := hw.2.1 l hl
      have hlen : (S.2.1 2).length = ys.length + 1 := by rw [hq]; simp
      have hst : S.2.2.2.1 l 8 = 1 := ((hw.2.2.2.2.1 l).mp hlm).2
      have hq16 : (S.2.1 (S.2.2.2.1 l 1)).length < 16 := hw.qlt16 (by have := hcl.1; omega) hl (fun h => by have := (hw.qmem (by have := hcl.1; omega) h).2.1; omega)
      refine g_iload_n X 2 rfl dX0_goBack_12 ?_
      refine gG_top (nI ys.length) (by rw [hlen]; exact nI_pred _) ?_
      refine g_if_lt X 103 (by decide) dX0_goBack_13 (fun c12 => ?_) (fun c12 => ?_)
      · first | exact absurd (nI_pos (by omega)) c12 | exact absurd c12 (nI_pos (by omega))
      · refine g_aload_n X 0 rfl dX0_goBack_16 ?_
        refine g_aload_n X 0 rfl dX0_goBack_17 ?_
        refine gg_X0_crossing X (gP_10 (by first | assumption | decide | omega)) fX0_43 dX0_goBack_18 ?_
        refine g_iload_n X 2 rfl dX0_goBack_21 ?_
        refine gG_top (nI ys.length) (by rw [hlen]; exact nI_pred _) ?_
        refine g_callV X hR (rest := [.ref (B.2.1 10 b 0)]) mX5_at lX0_83 (k_at hI V b 2 (S.2.1 2) ys.length (by first | assumption | decide | omega) (by first | assumption | decide | omega) (hS.2.1 2 (by decide)) (by omega)) rfl rfl (Nat.le_of_ble_eq_true rfl) (gP_13 (by first | assumption | decide | omega) (by first | assumption | decide | omega)) rfl rfl rfl ⟨Nat.le_of_ble_eq_true rfl, Nat.le_of_ble_eq_true rfl, Nat.le_of_ble_eq_true rfl, Nat.le_of_ble_eq_true rfl⟩ dX0_goBack_22 (fun r13 V14 hz_15 => ?_)
        refine gG_ret hz_15.1 hz_15.2 ?_
        refine gG_st [.int (lat (S.2.1 2) ys.length), .ref (B.2.1 10 b 0)] rfl ?_
        refine gG_top (nI l) (lat_some (by rw [hq]; simp)) ?_
        refine g_callV X hR (rest := []) mX0_cartAt lX0_57 (k_cartAt hI V b S l (by first | assumption | decide | omega) hS hN hl) rfl rfl (Nat.le_of_ble_eq_true rfl) (gP_10 (by first | assumption | decide | omega)) rfl rfl rfl ⟨Nat.le_of_ble_eq_true rfl, Nat.le_of_ble_eq_true rfl, Nat.le_of_ble_eq_true rfl, Nat.le_of_ble_eq_true rfl⟩ dX0_goBack_25 (fun r16 V17 hz_18 => ?_)
        refine gG_ret hz_18.1 hz_18.2 ?_
        refine gG_st [.ref (B.2.1 15 b l)] rfl ?_
        refine g_astore_n X rfl dX0_goBack_28 [(3, .ref (B.2.1 15 b l)), (0, .ref (B.2.1 10 b 0)), (1, .int ((-1))), (2, .int (nI (S.2.1 2).length - 1))] rfl (gnl_lt hnL (by decide)) ?_
        refine g_aload_n X 0 rfl dX0_goBack_29 ?_
        refine g_ifnonnull X 36 (by decide) dX0_goBack_30 ?_
        refine g_aload_n X 0 rfl dX0_goBack_36 ?_
        refine gg_X1_way X (gP_15 (by first | assumption | decide | omega) (by first | assumption | decide | omega)) fX0_133 dX0_goBack_37 ?_
        refine gG_top (nI (S.2.2.2.1 l 9)) (hS.2.2.2.1 l (by first | assumption | omega) 9 (by decide) (by decide)) ?_
        refine g_iconst X 1 (by decide) dX0_goBack_40 ?_
        refine g_isub X dX0_goBack_41 ?_
        refine gG_top ((-1)) (by rw [hz]; decide) ?_
        refine g_iload_n X 2 rfl dX0_goBack_42 ?_
        refine g_max X hR qL_X0_150 ⟨Nat.le_of_ble_eq_true rfl, Nat.le_of_ble_eq_true rfl, Nat.le_of_ble_eq_true rfl, Nat.le_of_ble_eq_true rfl⟩ (Nat.le_of_ble_eq_true rfl) dX0_goBack_43 ?_
        refine gG_top ((-1)) (by decide) ?_
        refine g_istore X dX0_goBack_46 [(4, .int ((-1))), (3, .ref (B.2.1 15 b l)), (0, .ref (B.2.1 10 b 0)), (1, .int ((-1))), (2, .int (nI (S.2.1 2).length - 1))] rfl (gnl_lt hnL (by decide)) ?_
        refine g_iload X 0 rfl dX0_goBack_48 ?_
        refine g_if_lt X 67 (by decide) dX0_goBack_50 (fun c19 => ?_) (fun c19 => ?_)
        · refine g_aload_n X 1 rfl dX0_goBack_67 ?_
          refine g_iconst X 0 (by decide) dX0_goBack_68 ?_
          refine gp_X1_state X (gP_15 (by first | assumption | decide | omega) (by first | assumption | decide | omega)) fX0_74 dX0_goBack_69 ?_
          refine gG_nm (fun V20 hV20 => ?_)
          obtain ⟨S21, eS21⟩ : ∃ y, y = sC S l 8 0 := ⟨_, rfl⟩
          have hS21 : AbsC V20 b S21 := by rw [eS21, hV20]; exact hS.setC l 8 0 (by decide)
          have mS21 : brmod V V20 b := by rw [hV20]; exact brmod.rf.up (by decide) (by decide)
          have nS21 : S21.1 = S.1 := by rw [eS21]; exact rfl
          have hE : S21.2.2.2.1 l 1 = S.2.2.2.1 l 1 := by rw [eS21]; simp [sC]
          have hE2 : S21.2.2.2.1 l 1 < 2 := by rw [hE]; have := hcl.1; omega
          refine g_aload_n X 2 rfl dX0_goBack_72 ?_
          refine g_aload_n X 1 rfl dX0_goBack_73 ?_
          refine gg_X1_end X (gP_15 (by first | assumption | decide | omega) (by first | assumption | decide | omega)) fX0_100 dX0_goBack_74 ?_
          refine gG_top (nI (S21.2.2.2.1 l 1)) (hS21.2.2.2.1 l (by rw [nS21]; first | assumption | omega) 1 (by decide) (by decide)) ?_
          refine g_callV X hR (rest := []) mX0_gateAt lX0_153 (k_gateAt hI V20 b (S21.2.2.2.1 l 1) (by first | assumption | decide | omega | (rw [nS21]; first | assumption | omega)) (by first | assumption | decide | omega | (rw [nS21]; first | assumption | omega))) rfl rfl (Nat.le_of_ble_eq_true rfl) (gP_10 (by first | assumption | decide | omega)) rfl rfl rfl ⟨Nat.le_of_ble_eq_true rfl, Nat.le_of_ble_eq_true rfl, Nat.le_of_ble_eq_true rfl, Nat.le_of_ble_eq_true rfl⟩ dX0_goBack_77 (fun r22 V23 hz_24 => ?_)
          refine gG_ret hz_24.1 hz_24.2 ?_
          refine gG_st [.ref (B.2.1 12 b (S21.2.2.2.1 l 1))] rfl ?_
          refine gg_X3_waiting X (gP_12 (by first | assumption | decide | omega) (by first | assumption | decide | omega)) fX0_157 dX0_goBack_80 ?_
          refine g_aload_n X 1 rfl dX0_goBack_83 ?_
          refine gg_X1_number X (gP_15 (by first | assumption | decide | omega) (by first | assumption | decide | omega)) fX0_160 dX0_goBack_84 ?_
          refine gG_top (nI l) (hS21.2.2.2.2.2.1 l (by first | assumption | omega)) ?_
          refine g_callV X hR (rest := []) mX5_addFirst lX0_163 (k_addFirst hI V20 b (S21.2.2.2.1 l 1) (S21.2.1 (S21.2.2.2.1 l 1)) l (by first | assumption | decide | omega | (rw [nS21]; first | assumption | omega)) (by first | assumption | decide | omega | (rw [nS21]; first | assumption | omega)) (hS21.2.1 _ (by omega)) (by rw [hE, eS21]; exact hq16)) rfl rfl (Nat.le_of_ble_eq_true rfl) (gP_13 (by first | assumption | decide | omega) (by first | assumption | decide | omega)) rfl rfl rfl ⟨Nat.le_of_ble_eq_true rfl, Nat.le_of_ble_eq_true rfl, Nat.le_of_ble_eq_true rfl, Nat.le_of_ble_eq_true rfl⟩ dX0_goBack_87 (fun r25 V26 hz_27 => ?_)
          refine gG_rv hz_27.1 ?_
          obtain ⟨-, hrowV26, hmodV26⟩ := hz_27
          obtain ⟨S28, eS28⟩ : ∃ y, y = sQ S21 (S21.2.2.2.1 l 1) (l :: (S21.2.1 (S21.2.2.2.1 l 1))) := ⟨_, rfl⟩
          have hS28 : AbsC V26 b S28 := by rw [eS28]; exact hS21.setQ hrowV26 hmodV26
          have mS28 : brmod V V26 b := mS21.trans hmodV26.br
          have nS28 : S28.1 = S.1 := by rw [eS28]; exact nS21
          refine gG_st [] rfl ?_
          refine g_aload_n X 2 rfl dX0_goBack_90 ?_
          refine gg_X0_crossing X (gP_10 (by first | assumption | decide | omega)) fX0_43 dX0_goBack_91 ?_
          refine g_callV X hR (rest := []) mX5_removeLast lX0_166 (k_removeLast hI V26 b 2 ys l (by first | assumption | decide | omega | (rw [nS28]; first | assumption | omega)) (by first | assumption | decide | omega | (rw [nS28]; first | assumption | omega)) (by
                  have h9 := hS28.2.1 2 (by decide)
                  rw [show S28.2.1 2 = ys ++ [l] by rw [eS28]; simp only [sQ]; rw [if_neg (by omega), eS21]; exact hq] at h9
                  exact h9)) rfl rfl (Nat.le_of_ble_eq_true rfl) (gP_13 (by first | assumption | decide | omega) (by first | assumption | decide | omega)) rfl rfl rfl ⟨Nat.le_of_ble_eq_true rfl, Nat.le_of_ble_eq_true rfl, Nat.le_of_ble_eq_true rfl, Nat.le_of_ble_eq_true rfl⟩ dX0_goBack_94 (fun r29 V30 hz_31 => ?_)
          refine gG_rv hz_31.1 ?_
          obtain ⟨-, hrowV30, hmodV30⟩ := hz_31
          obtain ⟨S32, eS32⟩ : ∃ y, y = sQ S28 2 ys := ⟨_, rfl⟩
          have hS32 : AbsC V30 b S32 := by rw [eS32]; exact hS28.setQ hrowV30 hmodV30
          have mS32 : brmod V V30 b := mS28.trans hmodV30.br
          have nS32 : S32.1 = S.1 := by rw [eS32]; exact nS28
          refine gG_st [] rfl ?_
          refine g_iinc X 4 rfl (nI ys.length - 1) (by rw [hlen, nI_pred]; exact iinc_dec _) dX0_goBack_97 [(2, .int (nI ys.length - 1)), (4, .int ((-1))), (3, .ref (B.2.1 15 b l)), (0, .ref (B.2.1 10 b 0)), (1, .int ((-1)))] rfl (gnl_lt hnL (by decide)) ?_
          refine g_goto X 12 (by decide) dX0_goBack_100 ?_
          refine gG_L [3, 4, 0] (L' := [(0, .ref (B.2.1 10 b 0)), (1, .int ((-1))), (2, .int (nI ys.length - 1))]) rfl ?_
          have hL : S32 = sLeave S l ys := by rw [eS32, eS28, eS21]; rfl
          refine loop ys.length V30 S32 (-1) (by omega) hS32 mS32 (by rw [hL]; rfl) (fun j hj => ?_) (fun i hi => ?_) (Or.inl rfl) ?_
          · rw [hL, hq]
            show ys[j]? = (ys ++ [l])[j]?
            rw [List.getElem?_append_left hj]
          · rw [hq, List.take_left'] at hi
            · have h9 := hpwl i hi
              have hne : i ≠ l := fun h => by subst h; exact Nat.lt_irrefl _ h9
              rw [hL]
              refine ⟨?_, by omega⟩
              simp only [sLeave, sQ, sC]
              rw [if_neg (fun h => hne h.1)]
            · rfl
          · unfold sGoBack
            rw [hrev]
            simp only []
            rw [if_pos hz, hL, hq, List.take_left' rfl, List.reverse_reverse]
        ·  exact absurd c19 (by decide)
    · exact loop (S.2.1 2).length V S (-1) (Nat.le_refl _) hS brmod.rf rfl (fun _ _ => rfl) (fun i hi => ⟨rfl, by
        rw [List.take_length, hq] at hi
        rcases List.mem_append.mp hi with h | h
        · have := hpwl i h; omega
        · rw [List.mem_singleton.mp h]; omega⟩) (Or.inl rfl) (by
        unfold sGoBack
        rw [hrev]
        simp only []
        rw [if_neg hz, List.take_length, hrev])
end
section
/-! what a tick keeps: pure facts of S -/
theorem dec_ne {S : gSt} {i : Nat} {is : List Nat} (h : ∀ k ∈ is, S.2.2.2.1 k 9 < S.2.2.2.1 i 9) : i ∉ is := fun q => Nat.lt_irrefl _ (h i q)
/-- what goOnL leaves as it is -/
theorem goOnL_same (pl tk : Nat) : ∀ (is : List Nat) (lim : Nat) (S : gSt), (goOnL pl tk is lim S).1.1 = S.1 ∧ (goOnL pl tk is lim S).1.2.1 = S.2.1 ∧ (goOnL pl tk is lim S).1.2.2.1 = S.2.2.1 ∧ (∀ i k, k ≠ 8 → k ≠ 9 → (goOnL pl tk is lim S).1.2.2.2.1 i k = S.2.2.2.1 i k) ∧ (∀ i, i ∉ is → (∀ k, (goOnL pl tk is lim S).1.2.2.2.1 i k = S.2.2.2.1 i k) ∧ (goOnL pl tk is lim S).1.2.2.2.2 i = S.2.2.2.2 i) := by
  intro is
  induction is with
  | nil => intro lim S; exact ⟨rfl, rfl, rfl, fun _ _ _ _ => rfl, fun _ _ => ⟨fun _ => rfl, rfl⟩⟩
  | cons i is ih =>
    intro lim S
    unfold goOnL
    split
    · obtain ⟨a1, a2, a3, a4, a5⟩ := ih (min (S.2.2.2.1 i 9 + S.2.2.2.1 i 4) (lim - 1)) (sC S i 9 (min (S.2.2.2.1 i 9 + S.2.2.2.1 i 4) (lim - 1)))
      refine ⟨a1, a2, a3, fun j k h8 h9 => ?_, fun j hj => ?_⟩
      · rw [a4 j k h8 h9]; simp [sC, h9]
      · have h1 : j ≠ i := fun q => hj (by rw [q]; exact List.mem_cons_self)
        obtain ⟨b1, b2⟩ := a5 j (fun q => hj (List.mem_cons_of_mem _ q))
        exact ⟨fun k => by rw [b1 k]; simp [sC, h1], b2⟩
    · obtain ⟨a1, a2, a3, a4, a5⟩ := ih lim (sO (sC S i 8 2) i (nI tk))
      refine ⟨a1, a2, a3, fun j k h8 h9 => ?_, fun j hj => ?_⟩
      · rw [a4 j k h8 h9]; simp [sO, sC, h8]
      · have h1 : j ≠ i := fun q => hj (by rw [q]; exact List.mem_cons_self)
        obtain ⟨b1, b2⟩ := a5 j (fun q => hj (List.mem_cons_of_mem _ q))
        exact ⟨fun k => by rw [b1 k]; simp [sO, sC, h1], by rw [b2]; simp [sO, sC, h1]⟩
/-- what goOnL does: the first ones are over, the others go on -/
theorem goOnL_spec (pl tk : Nat) : ∀ (is : List Nat) (lim : Nat) (S : gSt), is.Pairwise (fun i j => S.2.2.2.1 j 9 < S.2.2.2.1 i 9) → (∀ i ∈ is, S.2.2.2.1 i 9 < lim) → (lim ≤ pl → (goOnL pl tk is lim S).2 = 0) ∧
    (∀ i ∈ is.take (goOnL pl tk is lim S).2, (goOnL pl tk is lim S).1.2.2.2.1 i 8 = 2 ∧ (goOnL pl tk is lim S).1.2.2.2.2 i = nI tk) ∧
    (∀ i ∈ is.drop (goOnL pl tk is lim S).2, (goOnL pl tk is lim S).1.2.2.2.1 i 8 = S.2.2.2.1 i 8 ∧ (goOnL pl tk is lim S).1.2.2.2.2 i = S.2.2.2.2 i ∧ (goOnL pl tk is lim S).1.2.2.2.1 i 9 < pl ∧ (goOnL pl tk is lim S).1.2.2.2.1 i 9 < lim) ∧
    (is.drop (goOnL pl tk is lim S).2).Pairwise (fun i j => (goOnL pl tk is lim S).1.2.2.2.1 j 9 < (goOnL pl tk is lim S).1.2.2.2.1 i 9) := by
  intro is
  induction is with
  | nil => intro lim S _ _; exact ⟨fun _ => rfl, fun i h => by simp at h, fun i h => by simp at h, by simp⟩
  | cons i is ih =>
    intro lim S hp hl
    rw [List.pairwise_cons] at hp
    have hi := hl i List.mem_cons_self
    have hni := dec_ne hp.1
    unfold goOnL
    split
    · rename_i hlt
      have hw : S.2.2.2.1 i 9 ≤ min (S.2.2.2.1 i 9 + S.2.2.2.1 i 4) (lim - 1) := by omega
      have hwl : min (S.2.2.2.1 i 9 + S.2.2.2.1 i 4) (lim - 1) < lim := by omega
      generalize min (S.2.2.2.1 i 9 + S.2.2.2.1 i 4) (lim - 1) = w at hlt hw hwl ⊢
      have e : ∀ k ∈ is, (sC S i 9 w).2.2.2.1 k 9 = S.2.2.2.1 k 9 := fun k hk => by
        have : k ≠ i := fun q => hni (q ▸ hk)
        simp [sC, this]
      have hp2 : is.Pairwise (fun a c => (sC S i 9 w).2.2.2.1 c 9 < (sC S i 9 w).2.2.2.1 a 9) := hp.2.imp_of_mem (fun ha hc q => by rw [e _ ha, e _ hc]; exact q)
      obtain ⟨b0, b1, b2, b3⟩ := ih w (sC S i 9 w) hp2 (fun k hk => by rw [e k hk]; have := hp.1 k hk; omega)
      have h0 := b0 (Nat.le_of_lt hlt)
      rw [h0] at b1 b2 b3 ⊢
      obtain ⟨-, -, -, -, s5⟩ := goOnL_same pl tk is w (sC S i 9 w)
      obtain ⟨s6, s7⟩ := s5 i hni
      have hwi : (goOnL pl tk is w (sC S i 9 w)).1.2.2.2.1 i 9 = w := by rw [s6]; simp [sC]
      rw [List.drop_zero] at b2 b3 ⊢
      refine ⟨fun _ => rfl, fun k h => by simp at h, fun k hk => ?_, ?_⟩
      · rcases List.mem_cons.mp hk with q | q
        · subst q
          exact ⟨by rw [s6]; simp [sC], by rw [s7]; rfl, by rw [hwi]; exact hlt, by rw [hwi]; exact hwl⟩
        · obtain ⟨c1, c2, c3, c4⟩ := b2 k q
          have : k ≠ i := fun z => hni (z ▸ q)
          exact ⟨by rw [c1]; simp [sC, this], by rw [c2]; rfl, c3, Nat.lt_trans c4 hwl⟩
      · rw [List.pairwise_cons]
        exact ⟨fun k hk => by rw [hwi]; exact (b2 k hk).2.2.2, b3⟩
    · rename_i hge
      have e : ∀ k ∈ is, (sO (sC S i 8 2) i (nI tk)).2.2.2.1 k 9 = S.2.2.2.1 k 9 := fun k hk => by simp [sO, sC]
      have hp2 : is.Pairwise (fun a c => (sO (sC S i 8 2) i (nI tk)).2.2.2.1 c 9 < (sO (sC S i 8 2) i (nI tk)).2.2.2.1 a 9) := hp.2.imp_of_mem (fun ha hc q => by rw [e _ ha, e _ hc]; exact q)
      obtain ⟨b0, b1, b2, b3⟩ := ih lim (sO (sC S i 8 2) i (nI tk)) hp2 (fun k hk => by rw [e k hk]; exact hl k (List.mem_cons_of_mem _ hk))
      obtain ⟨-, -, -, -, s5⟩ := goOnL_same pl tk is lim (sO (sC S i 8 2) i (nI tk))
      obtain ⟨s6, s7⟩ := s5 i hni
      refine ⟨fun q => absurd hge (by omega), fun k hk => ?_, fun k hk => ?_, ?_⟩
      · rw [List.take_succ_cons] at hk
        rcases List.mem_cons.mp hk with q | q
        · subst q
          exact ⟨by rw [s6]; simp [sO, sC], by rw [s7]; simp [sO]⟩
        · exact b1 k q
      · rw [List.drop_succ_cons] at hk
        obtain ⟨c1, c2, c3, c4⟩ := b2 k hk
        have : k ≠ i := fun z => hni (z ▸ List.mem_of_mem_drop hk)
        exact ⟨by rw [c1]; simp [sO, sC, this], by rw [c2]; simp [sO, sC, this], c3, c4⟩
      · rw [List.drop_succ_cons]
        exact b3
theorem sGoOn_num (S : gSt) : (sGoOn S).1.1 = S.1 := (goOnL_same _ _ _ _ S).1
theorem WF.goOn {S : gSt} (h : WF S) : WF (sGoOn S).1 := by
  obtain ⟨a1, a2, a3, a4, a5⟩ := goOnL_same (S.1 2) (S.1 0) (S.2.1 2) (S.1 2 + 4) S
  obtain ⟨b0, b1, b2, b3⟩ := goOnL_spec (S.1 2) (S.1 0) (S.2.1 2) (S.1 2 + 4) S h.2.2.2.1 (fun i hi => by have := h.2.2.2.2.2.1 i hi; omega)
  unfold sGoOn
  generalize goOnL (S.1 2) (S.1 0) (S.2.1 2) (S.1 2 + 4) S = r at *
  have hn : (sQ r.1 2 ((S.2.1 2).drop r.2)).1 = S.1 := a1
  have hmem : ∀ i, i ∈ S.2.1 2 → i ∈ (S.2.1 2).take r.2 ∨ i ∈ (S.2.1 2).drop r.2 := fun i hi => by
    rw [← List.take_append_drop r.2 (S.2.1 2)] at hi
    exact List.mem_append.mp hi
  have hst : ∀ i, r.1.2.2.2.1 i 8 = S.2.2.2.1 i 8 ∨ (r.1.2.2.2.1 i 8 = 2 ∧ S.2.2.2.1 i 8 = 1 ∧ i ∈ (S.2.1 2).take r.2) := fun i => by
    by_cases hi : i ∈ S.2.1 2
    · rcases hmem i hi with q | q
      · exact Or.inr ⟨(b1 i q).1, ((h.2.2.2.2.1 i).mp hi).2, q⟩
      · exact Or.inl (b2 i q).1
    · exact Or.inl ((a5 i hi).1 8)
  refine ⟨?_, fun i hi => ?_, fun e he => ?_, ?_, fun i => ?_, fun i hi => ?_, fun i hi j hj => ?_, fun i hi h8 => ?_⟩
  · show sNumOk (r.1.1, _)
    rw [a1]
    exact h.1
  · have hi' : i < S.1 6 := by rw [← a1]; exact hi
    obtain ⟨c1, c2, c3, c4, c5, c6, c7, c8⟩ := h.2.1 i hi'
    have e := fun k (h1 : k ≠ 8) (h2 : k ≠ 9) => a4 i k h1 h2
    refine ⟨?_, ?_, ?_, ?_, ?_, ?_, ?_, ?_⟩
    · show r.1.2.2.2.1 i 1 ≤ 1; rw [e 1 (by decide) (by decide)]; exact c1
    · show 1 ≤ r.1.2.2.2.1 i 2 ∧ r.1.2.2.2.1 i 2 ≤ 4; rw [e 2 (by decide) (by decide)]; exact c2
    · show r.1.2.2.2.1 i 3 ≤ 200; rw [e 3 (by decide) (by decide)]; exact c3
    · show 1 ≤ r.1.2.2.2.1 i 4 ∧ r.1.2.2.2.1 i 4 ≤ 3; rw [e 4 (by decide) (by decide)]; exact c4
    · show r.1.2.2.2.1 i 5 ≤ 100; rw [e 5 (by decide) (by decide)]; exact c5
    · show r.1.2.2.2.1 i 6 ≤ 1; rw [e 6 (by decide) (by decide)]; exact c6
    · show r.1.2.2.2.1 i 7 ≤ 1; rw [e 7 (by decide) (by decide)]; exact c7
    · show r.1.2.2.2.1 i 8 ≤ 3
      rcases hst i with q | q
      · rw [q]; exact c8
      · rw [q.1]; decide
  · have hq : (sQ r.1 2 ((S.2.1 2).drop r.2)).2.1 e = S.2.1 e := by
      simp only [sQ]; rw [if_neg (by omega), a2]
    rw [hq, hn]
    refine ⟨(h.2.2.1 e he).1, fun i => ((h.2.2.1 e he).2 i).trans ?_⟩
    show _ ↔ i < S.1 6 ∧ r.1.2.2.2.1 i 8 = 0 ∧ r.1.2.2.2.1 i 1 = e
    rw [a4 i 1 (by decide) (by decide)]
    rcases hst i with q | q
    · rw [q]
    · rw [q.1, q.2.1]; simp
  · exact b3
  · show i ∈ (S.2.1 2).drop r.2 ↔ i < r.1.1 6 ∧ r.1.2.2.2.1 i 8 = 1
    rw [a1]
    constructor
    · intro q
      have h1 := (h.2.2.2.2.1 i).mp (List.mem_of_mem_drop q)
      exact ⟨h1.1, by rw [(b2 i q).1]; exact h1.2⟩
    · rintro ⟨q1, q2⟩
      rcases hst i with q | q
      · have h1 : i ∈ S.2.1 2 := (h.2.2.2.2.1 i).mpr ⟨q1, by rw [← q]; exact q2⟩
        rcases hmem i h1 with z | z
        · have := (b1 i z).1; omega
        · exact z
      · omega
  · show r.1.2.2.2.1 i 9 < r.1.1 2
    rw [a1]
    exact (b2 i hi).2.2.1
  · show r.1.2.2.2.1 i 1 = r.1.2.2.2.1 j 1
    rw [a4 i 1 (by decide) (by decide), a4 j 1 (by decide) (by decide)]
    exact h.2.2.2.2.2.2.1 i (List.mem_of_mem_drop hi) j (List.mem_of_mem_drop hj)
  · show ∃ t : Nat, t ≤ r.1.1 0 ∧ r.1.2.2.2.2 i = nI t
    rw [a1]
    have hi' : i < S.1 6 := by rw [← a1]; exact hi
    by_cases hx : i ∈ S.2.1 2
    · rcases hmem i hx with q | q
      · exact ⟨S.1 0, Nat.le_refl _, (b1 i q).2⟩
      · have h9 : r.1.2.2.2.1 i 8 = 2 := h8
        rw [(b2 i q).1, ((h.2.2.2.2.1 i).mp hx).2] at h9
        cases h9
    · have h9 : r.1.2.2.2.1 i 8 = 2 := h8
      rw [(a5 i hx).1 8] at h9
      rw [(a5 i hx).2]
      exact h.2.2.2.2.2.2.2 i hi' h9
theorem nodup_rev {l : List Nat} (h : l.Nodup) : l.reverse.Nodup := List.pairwise_reverse.mpr (h.imp (fun q e => q e.symm))
theorem backL_spec : ∀ (is : List Nat) (S : gSt), is.Nodup → (backL is S).1 = S.1 ∧ (backL is S).2.1 = S.2.1 ∧ (backL is S).2.2.1 = S.2.2.1 ∧ (backL is S).2.2.2.2 = S.2.2.2.2 ∧ (∀ i k, k ≠ 9 → (backL is S).2.2.2.1 i k = S.2.2.2.1 i k) ∧ (∀ i, i ∉ is → (backL is S).2.2.2.1 i 9 = S.2.2.2.1 i 9) ∧ (∀ i ∈ is, (backL is S).2.2.2.1 i 9 = S.2.2.2.1 i 9 - 1) := by
  intro is
  induction is with
  | nil => intro S _; exact ⟨rfl, rfl, rfl, rfl, fun _ _ _ => rfl, fun _ _ => rfl, fun i h => by cases h⟩
  | cons i is ih =>
    intro S hn
    rw [List.nodup_cons] at hn
    unfold backL
    obtain ⟨a1, a2, a3, a4, a5, a6, a7⟩ := ih (sC S i 9 (S.2.2.2.1 i 9 - 1)) hn.2
    refine ⟨a1, a2, a3, a4, fun j k hk => ?_, fun j hj => ?_, fun j hj => ?_⟩
    · rw [a5 j k hk]; simp [sC, hk]
    · have h1 : j ≠ i := fun q => hj (by rw [q]; exact List.mem_cons_self)
      rw [a6 j (fun q => hj (List.mem_cons_of_mem _ q))]
      simp [sC, h1]
    · by_cases h1 : j = i
      · subst h1
        rw [a6 j hn.1]; simp [sC]
      · rcases List.mem_cons.mp hj with q | q
        · exact absurd q h1
        · rw [a7 j q]; simp [sC, h1]
theorem sCartOk.of {S S' : gSt} {i : Nat} (h : sCartOk S i) (e : ∀ k, 1 ≤ k → k ≤ 7 → S'.2.2.2.1 i k = S.2.2.2.1 i k) (h8 : S'.2.2.2.1 i 8 ≤ 3) : sCartOk S' i := by
  obtain ⟨c1, c2, c3, c4, c5, c6, c7, c8⟩ := h
  refine ⟨?_, ?_, ?_, ?_, ?_, ?_, ?_, h8⟩
  · rw [e 1 (by decide) (by decide)]; exact c1
  · rw [e 2 (by decide) (by decide)]; exact c2
  · rw [e 3 (by decide) (by decide)]; exact c3
  · rw [e 4 (by decide) (by decide)]; exact c4
  · rw [e 5 (by decide) (by decide)]; exact c5
  · rw [e 6 (by decide) (by decide)]; exact c6
  · rw [e 7 (by decide) (by decide)]; exact c7
theorem sNumOk.of {S S' : gSt} (h : sNumOk S) (e : S'.1 = S.1) : sNumOk S' := by
  unfold sNumOk
  rw [e]
  exact h
/-- all go back by one, none leaves -/
theorem WF.backAll {S : gSt} (h : WF S) (hpos : ∀ i ∈ S.2.1 2, 0 < S.2.2.2.1 i 9) : WF (backL (S.2.1 2).reverse S) := by
  obtain ⟨a1, a2, a3, a4, a5, a6, a7⟩ := backL_spec (S.2.1 2).reverse S (nodup_rev h.ne)
  generalize backL (S.2.1 2).reverse S = T at *
  have e8 : ∀ i, T.2.2.2.1 i 8 = S.2.2.2.1 i 8 := fun i => a5 i 8 (by decide)
  have e1 : ∀ i, T.2.2.2.1 i 1 = S.2.2.2.1 i 1 := fun i => a5 i 1 (by decide)
  have e9 : ∀ i ∈ S.2.1 2, T.2.2.2.1 i 9 = S.2.2.2.1 i 9 - 1 := fun i hi => a7 i (List.mem_reverse.mpr hi)
  refine ⟨h.1.of a1, fun i hi => ?_, fun e he => ?_, ?_, fun i => ?_, fun i hi => ?_, fun i hi j hj => ?_, fun i hi h8 => ?_⟩
  · rw [a1] at hi
    exact (h.2.1 i hi).of (fun k _ h2 => a5 i k (by omega)) (by rw [e8]; exact (h.2.1 i hi).2.2.2.2.2.2.2)
  · rw [a1, a2]
    refine ⟨(h.2.2.1 e he).1, fun i => ?_⟩
    rw [e8, e1]
    exact (h.2.2.1 e he).2 i
  · rw [a2]
    exact h.2.2.2.1.imp_of_mem (fun ha hc q => by
      rw [e9 _ ha, e9 _ hc]
      have := hpos _ hc
      omega)
  · rw [a2, a1, e8]
    exact h.2.2.2.2.1 i
  · rw [a2] at hi
    rw [a1, e9 i hi]
    have := h.2.2.2.2.2.1 i hi
    omega
  · rw [a2] at hi hj
    rw [e1, e1]
    exact h.2.2.2.2.2.2.1 i hi j hj
  · rw [a1] at hi ⊢
    rw [e8] at h8
    rw [a4]
    exact h.2.2.2.2.2.2.2 i hi h8
/-- the hindmost leaves -/
theorem WF.leave {S : gSt} (h : WF S) {ys : List Nat} {l : Nat} (hq : S.2.1 2 = ys ++ [l]) : WF (sLeave S l ys) := by
  have hlm : l ∈ S.2.1 2 := by rw [hq]; simp
  have hl := h.mem hlm
  have hst : S.2.2.2.1 l 8 = 1 := ((h.2.2.2.2.1 l).mp hlm).2
  have hcl := h.2.1 l hl
  have hnd := h.ne
  rw [hq] at hnd
  have hly : l ∉ ys := by
    rw [List.nodup_append] at hnd
    exact fun q => hnd.2.2 l q l (List.mem_singleton.mpr rfl) rfl
  have hE : (sC S l 8 0).2.2.2.1 l 1 = S.2.2.2.1 l 1 := by simp [sC]
  have c8 : ∀ i, (sLeave S l ys).2.2.2.1 i 8 = if i = l then 0 else S.2.2.2.1 i 8 := fun i => by simp [sLeave, sQ, sC]
  have ck : ∀ i k, k ≠ 8 → (sLeave S l ys).2.2.2.1 i k = S.2.2.2.1 i k := fun i k hk => by simp [sLeave, sQ, sC, hk]
  have q2 : (sLeave S l ys).2.1 2 = ys := by simp [sLeave, sQ]
  have qe : ∀ e, e < 2 → (sLeave S l ys).2.1 e = if e = S.2.2.2.1 l 1 then l :: S.2.1 e else S.2.1 e := fun e he => by
    simp only [sLeave, sQ, hE]
    rw [if_neg (by omega)]
    by_cases h1 : e = S.2.2.2.1 l 1
    · subst h1; simp [sC]
    · rw [if_neg h1, if_neg h1]; rfl
  have n1 : (sLeave S l ys).1 = S.1 := rfl
  have o1 : (sLeave S l ys).2.2.2.2 = S.2.2.2.2 := rfl
  refine ⟨h.1.of n1, fun i hi => ?_, fun e he => ?_, ?_, fun i => ?_, fun i hi => ?_, fun i hi j hj => ?_, fun i hi h8 => ?_⟩
  · refine (h.2.1 i hi).of (fun k _ h2 => ck i k (by omega)) ?_
    rw [c8]
    split
    · decide
    · exact (h.2.1 i hi).2.2.2.2.2.2.2
  · rw [qe e he, n1]
    have hnot : l ∉ S.2.1 e := fun q => by have := (h.qmem he q).2.1; omega
    constructor
    · split
      · exact List.nodup_cons.mpr ⟨hnot, (h.2.2.1 e he).1⟩
      · exact (h.2.2.1 e he).1
    · intro i
      rw [c8, ck i 1 (by decide)]
      by_cases hi : i = l
      · subst hi
        rw [if_pos rfl]
        by_cases h1 : e = S.2.2.2.1 i 1
        · rw [if_pos h1]; simp [hl, h1]
        · rw [if_neg h1]
          constructor
          · intro q; exact absurd q hnot
          · rintro ⟨-, -, q⟩; exact absurd q.symm h1
      · rw [if_neg hi, ← (h.2.2.1 e he).2 i]
        split
        · simp [hi]
        · rfl
  · rw [q2]
    have h9 := h.2.2.2.1
    rw [hq, List.pairwise_append] at h9
    exact h9.1.imp (fun q => by rw [ck _ 9 (by decide), ck _ 9 (by decide)]; exact q)
  · rw [q2, n1, c8]
    have h9 := h.2.2.2.2.1 i
    rw [hq, List.mem_append, List.mem_singleton] at h9
    by_cases hi : i = l
    · subst hi
      rw [if_pos rfl]
      constructor
      · intro q; exact absurd q hly
      · rintro ⟨-, q⟩; cases q
    · rw [if_neg hi, ← h9]
      simp [hi]
  · rw [q2] at hi
    rw [n1, ck _ 9 (by decide)]
    exact h.2.2.2.2.2.1 i (by rw [hq]; exact List.mem_append_left _ hi)
  · rw [q2] at hi hj
    rw [ck _ 1 (by decide), ck _ 1 (by decide)]
    exact h.2.2.2.2.2.2.1 i (by rw [hq]; exact List.mem_append_left _ hi) j (by rw [hq]; exact List.mem_append_left _ hj)
  · rw [o1, n1]
    rw [c8] at h8
    split at h8
    · cases h8
    · exact h.2.2.2.2.2.2.2 i hi h8
theorem last_min {S : gSt} (h : WF S) {ys : List Nat} {l : Nat} (hq : S.2.1 2 = ys ++ [l]) : ∀ a ∈ ys, S.2.2.2.1 l 9 < S.2.2.2.1 a 9 := by
  have h9 := h.2.2.2.1
  rw [hq, List.pairwise_append] at h9
  exact fun a ha => h9.2.2 a ha l (List.mem_singleton.mpr rfl)
theorem WF.goBack {S : gSt} (h : WF S) : WF (sGoBack S) := by
  rcases List.eq_nil_or_concat (S.2.1 2) with hq | ⟨ys, l, hq⟩
  · unfold sGoBack
    rw [hq]
    exact h
  · have hq : S.2.1 2 = ys ++ [l] := hq.trans (List.concat_eq_append ..)
    have hmin := last_min h hq
    have hrev : (S.2.1 2).reverse = l :: ys.reverse := by rw [hq]; simp
    by_cases hz : S.2.2.2.1 l 9 = 0
    · have hs : sGoBack S = backL ((sLeave S l ys).2.1 2).reverse (sLeave S l ys) := by
        unfold sGoBack
        rw [hrev]
        simp only []
        rw [if_pos hz, List.reverse_reverse]
        rfl
      rw [hs]
      have hl2 : (sLeave S l ys).2.1 2 = ys := by simp [sLeave, sQ]
      refine (h.leave hq).backAll (fun i hi => ?_)
      rw [hl2] at hi
      have := hmin i hi
      have e : (sLeave S l ys).2.2.2.1 i 9 = S.2.2.2.1 i 9 := by simp [sLeave, sQ, sC]
      omega
    · have hs : sGoBack S = backL (S.2.1 2).reverse S := by
        unfold sGoBack
        rw [hrev]
        simp only []
        rw [if_neg hz]
      rw [hs]
      refine h.backAll (fun i hi => ?_)
      rw [hq] at hi
      rcases List.mem_append.mp hi with q | q
      · have := hmin i q; omega
      · rw [List.mem_singleton.mp q]; omega
theorem sGoBack_num (S : gSt) (h : WF S) : (sGoBack S).1 = S.1 := by
  rcases List.eq_nil_or_concat (S.2.1 2) with hq | ⟨ys, l, hq⟩
  · unfold sGoBack
    rw [hq]
    rfl
  · have hq : S.2.1 2 = ys ++ [l] := hq.trans (List.concat_eq_append ..)
    have hrev : (S.2.1 2).reverse = l :: ys.reverse := by rw [hq]; simp
    have hn := nodup_rev h.ne
    rw [hrev, List.nodup_cons] at hn
    unfold sGoBack
    rw [hrev]
    simp only []
    split
    · rw [(backL_spec ys.reverse _ hn.2).1]; rfl
    · rw [(backL_spec (l :: ys.reverse) S (List.nodup_cons.mpr hn)).1]
/-- from the queue onto the bridge, or away -/
theorem sTake_c (S : gSt) (e i a c : Nat) : (sTake S e i a c).2.2.2 = S.2.2.2 ∧ (sTake S e i a c).1 = S.1 ∧ (sTake S e i a c).2.1 = S.2.1 := ⟨rfl, rfl, rfl⟩
theorem sPay_c (S : gSt) (e i : Nat) : (∀ j k, k ≠ 5 → k ≠ 7 → (sPay S e i).2.2.2.1 j k = S.2.2.2.1 j k) ∧ (∀ j, j ≠ i → ∀ k, (sPay S e i).2.2.2.1 j k = S.2.2.2.1 j k) ∧ (sPay S e i).2.2.2.1 i 5 = S.2.2.2.1 i 5 - sDue S i ∧ (sPay S e i).2.2.2.1 i 7 = 1 ∧ (sPay S e i).2.2.2.2 = S.2.2.2.2 ∧ (sPay S e i).1 = S.1 ∧ (sPay S e i).2.1 = S.2.1 := by
  unfold sPay
  obtain ⟨h1, h2, h3⟩ := sTake_c (sC (sC S i 5 (S.2.2.2.1 i 5 - sDue S i)) i 7 1) e i (sDue S i) (sToll S (S.2.2.2.1 i 2) (S.2.2.2.1 i 3))
  refine ⟨fun j k h5 h7 => ?_, fun j hj k => ?_, ?_, ?_, ?_, h2, h3⟩
  · rw [h1]; simp [sC, h5, h7]
  · rw [h1]; simp [sC, hj]
  · rw [h1]; simp [sC]
  · rw [h1]; simp [sC]
  · rw [h1]; rfl
theorem sCome_eq {S : gSt} {i : Nat} {ys : List Nat} (hq : S.2.1 (S.1 1) = i :: ys) (hroom : sRoom S i = true) : sCome S = (if (sQ S (S.1 1) ys).2.2.2.1 i 7 = 0 ∧ (sQ S (S.1 1) ys).2.2.2.1 i 5 < sDue (sQ S (S.1 1) ys) i then sC (sQ S (S.1 1) ys) i 8 3 else sQ (sC (sC (if (sQ S (S.1 1) ys).2.2.2.1 i 7 = 0 then sPay (sQ S (S.1 1) ys) (S.1 1) i else sQ S (S.1 1) ys) i 8 1) i 9 0) 2 ((sC (sC (if (sQ S (S.1 1) ys).2.2.2.1 i 7 = 0 then sPay (sQ S (S.1 1) ys) (S.1 1) i else sQ S (S.1 1) ys) i 8 1) i 9 0).2.1 2 ++ [i])) := by
  unfold sCome
  rw [hq]
  exact if_pos hroom
theorem WF.come {S : gSt} (h : WF S) : WF (sCome S) := by
  have hd : S.1 1 < 2 := by have := h.1.1; omega
  cases hq : S.2.1 (S.1 1) with
  | nil =>
    have : sCome S = S := by unfold sCome; rw [hq]
    rw [this]; exact h
  | cons i ys =>
    have hiq : i ∈ S.2.1 (S.1 1) := by rw [hq]; exact List.mem_cons_self
    obtain ⟨hi, hst, hend⟩ := h.qmem hd hiq
    have hci := h.2.1 i hi
    have hnd := (h.2.2.1 _ hd).1
    rw [hq, List.nodup_cons] at hnd
    have hncr : i ∉ S.2.1 2 := fun q => by have := ((h.2.2.2.2.1 i).mp q).2; omega
    -- a state that differs from S in i's state, way, coins, paid, the queue, the row and the boxes alone
    have go : ∀ (T : gSt) (st : Nat) (cr : List Nat), T.1 = S.1 → (∀ e, e < 2 → T.2.1 e = if e = S.1 1 then ys else S.2.1 e) → T.2.1 2 = cr → (∀ j, j ≠ i → ∀ k, T.2.2.2.1 j k = S.2.2.2.1 j k) → T.2.2.2.1 i 8 = st → (∀ k, 1 ≤ k → k ≤ 7 → k ≠ 5 → k ≠ 7 → T.2.2.2.1 i k = S.2.2.2.1 i k) → T.2.2.2.1 i 5 ≤ 100 → T.2.2.2.1 i 7 ≤ 1 → T.2.2.2.2 = S.2.2.2.2 →
        (st = 3 ∧ cr = S.2.1 2 ∨ st = 1 ∧ cr = S.2.1 2 ++ [i] ∧ T.2.2.2.1 i 9 = 0 ∧ sFree S = true) → WF T := by
      intro T st cr e1 eq ecr eo es ek e5 e7 eot hcase
      have hst3 : st = 3 ∨ st = 1 := by rcases hcase with q | q; exact Or.inl q.1; exact Or.inr q.1
      have hcrj : ∀ j, j ≠ i → (j ∈ cr ↔ j ∈ S.2.1 2) := fun j hj => by
        rcases hcase with q | q
        · rw [q.2]
        · rw [q.2.1]; simp [hj]
      refine ⟨h.1.of e1, fun j hj => ?_, fun e he => ?_, ?_, fun j => ?_, fun j hj => ?_, fun j hj k hk => ?_, fun j hj h8 => ?_⟩
      · rw [e1] at hj
        by_cases hji : j = i
        · subst hji
          obtain ⟨c1, c2, c3, c4, c5, c6, c7, c8⟩ := hci
          refine ⟨?_, ?_, ?_, ?_, e5, ?_, e7, by rw [es]; omega⟩
          · rw [ek 1 (by decide) (by decide) (by decide) (by decide)]; exact c1
          · rw [ek 2 (by decide) (by decide) (by decide) (by decide)]; exact c2
          · rw [ek 3 (by decide) (by decide) (by decide) (by decide)]; exact c3
          · rw [ek 4 (by decide) (by decide) (by decide) (by decide)]; exact c4
          · rw [ek 6 (by decide) (by decide) (by decide) (by decide)]; exact c6
        · exact (h.2.1 j hj).of (fun k _ _ => eo j hji k) (by rw [eo j hji]; exact (h.2.1 j hj).2.2.2.2.2.2.2)
      · rw [e1, eq e he]
        constructor
        · split
          · exact hnd.2
          · exact (h.2.2.1 e he).1
        · intro j
          by_cases hji : j = i
          · subst hji
            rw [es]
            constructor
            · intro q
              split at q
              · exact absurd q hnd.1
              · have := (h.qmem he q).2.2; omega
            · rintro ⟨-, q, -⟩; omega
          · rw [eo j hji, eo j hji, ← (h.2.2.1 e he).2 j]
            split
            · rename_i he2; subst he2; rw [hq]; simp [hji]
            · rfl
      · rw [ecr]
        rcases hcase with q | q
        · rw [q.2]
          exact h.2.2.2.1.imp_of_mem (fun {a c} ha hc z => by
            rw [eo c (fun y => hncr (y ▸ hc)), eo a (fun y => hncr (y ▸ ha))]; exact z)
        · rw [q.2.1, List.pairwise_append]
          refine ⟨h.2.2.2.1.imp_of_mem (fun {a c} ha hc z => by
            rw [eo c (fun y => hncr (y ▸ hc)), eo a (fun y => hncr (y ▸ ha))]; exact z), by simp, fun a ha c hc => ?_⟩
          rw [List.mem_singleton.mp hc, q.2.2.1, eo a (fun y => hncr (y ▸ ha))]
          have hf := q.2.2.2
          unfold sFree at hf
          rcases List.eq_nil_or_concat (S.2.1 2) with hz | ⟨zs, l, hz⟩
          · rw [hz] at ha; cases ha
          · have hz : S.2.1 2 = zs ++ [l] := hz.trans (List.concat_eq_append ..)
            have hl : (S.2.1 2).getLast? = some l := by rw [hz]; simp
            rw [hl] at hf
            simp only [Bool.and_eq_true, decide_eq_true_eq] at hf
            rw [hz] at ha
            rcases List.mem_append.mp ha with y | y
            · have := last_min h hz a y; omega
            · rw [List.mem_singleton.mp y]; exact hf.2
      · rw [ecr, e1]
        by_cases hji : j = i
        · subst hji
          rw [es]
          rcases hcase with q | q
          · rw [q.2, q.1]; simp [hncr]
          · rw [q.2.1, q.1]; simp [hi]
        · rw [hcrj j hji, eo j hji]
          exact h.2.2.2.2.1 j
      · rw [ecr] at hj
        rw [e1]
        by_cases hji : j = i
        · subst hji
          rcases hcase with q | q
          · rw [q.2] at hj; exact absurd hj hncr
          · rw [q.2.2.1]; have := h.1.2.1; omega
        · rw [eo j hji]
          exact h.2.2.2.2.2.1 j ((hcrj j hji).mp hj)
      · rw [ecr] at hj hk
        rcases hcase with q | q
        · rw [q.2] at hj hk
          rw [eo j (fun y => hncr (y ▸ hj)), eo k (fun y => hncr (y ▸ hk))]
          exact h.2.2.2.2.2.2.1 j hj k hk
        · have hd2 : ∀ a, a ∈ S.2.1 2 → S.2.2.2.1 a 1 = S.1 1 := fun a ha => by
            have hf := q.2.2.2
            unfold sFree at hf
            rcases List.eq_nil_or_concat (S.2.1 2) with hz | ⟨zs, l, hz⟩
            · rw [hz] at ha; cases ha
            · have hz : S.2.1 2 = zs ++ [l] := hz.trans (List.concat_eq_append ..)
              have hl : (S.2.1 2).getLast? = some l := by rw [hz]; simp
              rw [hl] at hf
              simp only [Bool.and_eq_true, decide_eq_true_eq] at hf
              rw [h.2.2.2.2.2.2.1 a ha l (getLast_mem hl)]
              exact hf.1
          have hall : ∀ a, a ∈ cr → T.2.2.2.1 a 1 = S.1 1 := fun a ha => by
            by_cases hai : a = i
            · subst hai
              rw [ek 1 (by decide) (by decide) (by decide) (by decide)]; exact hend
            · rw [eo a hai]; exact hd2 a ((hcrj a hai).mp ha)
          rw [hall j hj, hall k hk]
      · rw [e1] at hj ⊢
        rw [eot]
        by_cases hji : j = i
        · subst hji; rw [es] at h8; omega
        · rw [eo j hji] at h8
          exact h.2.2.2.2.2.2.2 j hj h8
    by_cases hroom : sRoom S i = true
    · have hfree : sFree S = true := by unfold sRoom at hroom; simp only [Bool.and_eq_true] at hroom; exact hroom.1
      have hS := sCome_eq hq hroom
      have hqe : ∀ e, e < 2 → (sQ S (S.1 1) ys).2.1 e = if e = S.1 1 then ys else S.2.1 e := fun e _ => rfl
      by_cases hp : (sQ S (S.1 1) ys).2.2.2.1 i 7 = 0
      · by_cases hd2 : (sQ S (S.1 1) ys).2.2.2.1 i 5 < sDue (sQ S (S.1 1) ys) i
        · rw [if_pos ⟨hp, hd2⟩] at hS
          rw [hS]
          refine go _ 3 (S.2.1 2) rfl hqe (if_neg (by omega)) (fun j hj k => by simp [sC, sQ, hj]) (by simp [sC]) (fun k _ _ _ _ => by rw [show k = k from rfl]; simp [sC, sQ]; omega) (by simp [sC, sQ]; exact hci.2.2.2.2.1) (by simp [sC, sQ]; exact hci.2.2.2.2.2.2.1) rfl (Or.inl ⟨rfl, rfl⟩)
        · rw [if_neg (fun q => hd2 q.2), if_pos hp] at hS
          rw [hS]
          obtain ⟨p1, p2, p3, p4, p5, p6, p7⟩ := sPay_c (sQ S (S.1 1) ys) (S.1 1) i
          refine go _ 1 (S.2.1 2 ++ [i]) (by show (sPay (sQ S (S.1 1) ys) (S.1 1) i).1 = S.1; rw [p6]; rfl) (fun e he => ?_) ?_ (fun j hj k => ?_) ?_ (fun k h1 h7 k5 k7 => ?_) ?_ ?_ ?_ (Or.inr ⟨rfl, rfl, ?_, hfree⟩)
          · simp only [sQ, sC]; rw [if_neg (by omega)]
            show (sPay (sQ S (S.1 1) ys) (S.1 1) i).2.1 e = _
            rw [p7]; rfl
          · show (sPay (sQ S (S.1 1) ys) (S.1 1) i).2.1 2 ++ [i] = _
            rw [p7]
            show (if 2 = S.1 1 then ys else S.2.1 2) ++ [i] = _
            rw [if_neg (by omega)]
          · show (if j = i ∧ k = 9 then 0 else if j = i ∧ k = 8 then 1 else (sPay (sQ S (S.1 1) ys) (S.1 1) i).2.2.2.1 j k) = _
            rw [if_neg (fun q => hj q.1), if_neg (fun q => hj q.1), p2 j hj k]; rfl
          · simp [sC, sQ]
          · show (if i = i ∧ k = 9 then 0 else if i = i ∧ k = 8 then 1 else (sPay (sQ S (S.1 1) ys) (S.1 1) i).2.2.2.1 i k) = _
            rw [if_neg (by omega), if_neg (by omega), p1 i k k5 k7]; rfl
          · show (if i = i ∧ 5 = 9 then 0 else if i = i ∧ 5 = 8 then 1 else (sPay (sQ S (S.1 1) ys) (S.1 1) i).2.2.2.1 i 5) ≤ 100
            rw [if_neg (by omega), if_neg (by omega), p3]
            have : (sQ S (S.1 1) ys).2.2.2.1 i 5 ≤ 100 := hci.2.2.2.2.1
            omega
          · show (if i = i ∧ 7 = 9 then 0 else if i = i ∧ 7 = 8 then 1 else (sPay (sQ S (S.1 1) ys) (S.1 1) i).2.2.2.1 i 7) ≤ 1
            rw [if_neg (by omega), if_neg (by omega), p4]
            exact Nat.le_refl _
          · exact p5
          · simp [sC, sQ]
      · rw [if_neg (fun q => hp q.1), if_neg hp] at hS
        rw [hS]
        refine go _ 1 (S.2.1 2 ++ [i]) rfl (fun e he => ?_) ?_ (fun j hj k => ?_) ?_ (fun k h1 h7 k5 k7 => ?_) ?_ ?_ rfl (Or.inr ⟨rfl, rfl, ?_, hfree⟩)
        · simp only [sQ, sC]; rw [if_neg (by omega)]
        · show (if 2 = S.1 1 then ys else S.2.1 2) ++ [i] = _
          rw [if_neg (by omega)]
        · simp [sC, sQ, hj]
        · simp [sC, sQ]
        · show (if i = i ∧ k = 9 then 0 else if i = i ∧ k = 8 then 1 else S.2.2.2.1 i k) = _
          rw [if_neg (by omega), if_neg (by omega)]
        · simp [sC, sQ]; exact hci.2.2.2.2.1
        · simp [sC, sQ]; exact hci.2.2.2.2.2.2.1
        · simp [sC, sQ]
    · have : sCome S = S := by unfold sCome; rw [hq]; simp [hroom]
      rw [this]; exact h
def sMove (S : gSt) : gSt × Nat := match S.2.1 2 with
  | [] => (S, 0)
  | i :: _ => if S.2.2.2.1 i 1 = S.1 1 then sGoOn S else (sGoBack S, 0)
def sTick (S : gSt) : gSt × Nat := (sN (sCome (sMove S).1) 0 ((sCome (sMove S).1).1 0 + 1), (sMove S).2)
def sRun : Nat → gSt → gSt × Nat
  | 0, S => (S, 0)
  | n + 1, S => ((sRun n (sTick S).1).1, (sTick S).2 + (sRun n (sTick S).1).2)
theorem WF.move {S : gSt} (h : WF S) : WF (sMove S).1 := by
  unfold sMove
  split
  · exact h
  · split
    · exact h.goOn
    · exact h.goBack
theorem sMove_num {S : gSt} (h : WF S) : (sMove S).1.1 = S.1 := by
  unfold sMove
  split
  · rfl
  · split
    · exact sGoOn_num S
    · exact sGoBack_num S h
theorem sCome_num (S : gSt) : (sCome S).1 = S.1 := by
  cases hq : S.2.1 (S.1 1) with
  | nil => unfold sCome; rw [hq]
  | cons i ys =>
    by_cases hroom : sRoom S i = true
    · rw [sCome_eq hq hroom]
      split
      · rfl
      · show (if (sQ S (S.1 1) ys).2.2.2.1 i 7 = 0 then sPay (sQ S (S.1 1) ys) (S.1 1) i else sQ S (S.1 1) ys).1 = S.1
        split
        · rfl
        · rfl
    · unfold sCome; rw [hq]; simp [hroom]
theorem WF.tick1 {S : gSt} (h : WF S) : WF (sN S 0 (S.1 0 + 1)) := by
  have e : ∀ k, k ≠ 0 → (sN S 0 (S.1 0 + 1)).1 k = S.1 k := fun k hk => by simp [sN, hk]
  refine ⟨?_, fun i hi => ?_, fun x he => ?_, h.2.2.2.1, fun i => ?_, fun i hi => ?_, h.2.2.2.2.2.2.1, fun i hi h8 => ?_⟩
  · unfold sNumOk
    rw [e 1 (by decide), e 2 (by decide), e 3 (by decide), e 4 (by decide), e 5 (by decide), e 6 (by decide)]
    exact h.1
  · rw [e 6 (by decide)] at hi
    exact (h.2.1 i hi).of (fun _ _ _ => rfl) (h.2.1 i hi).2.2.2.2.2.2.2
  · rw [e 6 (by decide)]
    exact h.2.2.1 x he
  · rw [e 6 (by decide)]
    exact h.2.2.2.2.1 i
  · rw [e 2 (by decide)]
    exact h.2.2.2.2.2.1 i hi
  · rw [e 6 (by decide)] at hi
    obtain ⟨t, h1, h2⟩ := h.2.2.2.2.2.2.2 i hi h8
    exact ⟨t, by simp [sN]; omega, h2⟩
theorem WF.tick {S : gSt} (h : WF S) : WF (sTick S).1 := h.move.come.tick1
theorem WF.run : ∀ (n : Nat) {S : gSt}, WF S → WF (sRun n S).1 := by
  intro n
  induction n with
  | zero => intro S h; exact h
  | succ n ih => intro S h; exact ih h.tick
end
section
abbrev rmX0_move : Room := { frames := 3, cells := 0, slots := 0, locals := 67 }
set_option maxRecDepth 20000 in
theorem k_move {l : Launch} {B : gB} (hI : gI B) (V : gMem) (b : Nat) (S : gSt) (hb : b < 3) (hS : AbsC V b S) (hw : WF S) : gM l B yX0_move cX0_move 2 (some .int) rmX0_move [.ref (B.2.1 10 b 0)] V (fun v V' => v = some (.int (nI (sMove S).2)) ∧ AbsC V' b (sMove S).1 ∧ brmod V V' b) := by
  refine gM_of (own := RX0) (L := [(0, .ref (B.2.1 10 b 0))]) (by decide +kernel) rfl hI (Nat.le_of_ble_eq_true rfl) rfl ?_
  intro Z hnL hR X F
  have hN : S.1 6 ≤ 16 := hw.1.2.2.2.2.2
  refine g_aload_n X 0 rfl dX0_move_0 ?_
  refine g_aload_n X 0 rfl dX0_move_1 ?_
  refine gg_X0_crossing X (gP_10 (by first | assumption | decide | omega)) fX0_43 dX0_move_2 ?_
  refine g_iconst X 0 (by decide) dX0_move_5 ?_
  refine g_callV X hR (rest := [.ref (B.2.1 10 b 0)]) mX5_at lX0_83 (k_at hI V b 2 (S.2.1 2) 0 (by first | assumption | decide | omega) (by first | assumption | decide | omega) (hS.2.1 2 (by decide)) (by first | assumption | decide | omega)) rfl rfl (Nat.le_of_ble_eq_true rfl) (gP_13 (by first | assumption | decide | omega) (by first | assumption | decide | omega)) rfl rfl rfl ⟨Nat.le_of_ble_eq_true rfl, Nat.le_of_ble_eq_true rfl, Nat.le_of_ble_eq_true rfl, Nat.le_of_ble_eq_true rfl⟩ dX0_move_6 (fun r1 V2 hz_3 => ?_)
  refine gG_ret hz_3.1 hz_3.2 ?_
  refine gG_st [.int (lat (S.2.1 2) 0), .ref (B.2.1 10 b 0)] rfl ?_
  cases hq : S.2.1 2 with
  | nil =>
    refine gG_top (-1) (lat_nil rfl) ?_
    refine g_callV X hR (rest := []) mX0_cartAt lX0_57 (k_cartAtm hI V b S (by first | assumption | decide | omega) hS (by first | assumption | decide | omega)) rfl rfl (Nat.le_of_ble_eq_true rfl) (gP_10 (by first | assumption | decide | omega)) rfl rfl rfl ⟨Nat.le_of_ble_eq_true rfl, Nat.le_of_ble_eq_true rfl, Nat.le_of_ble_eq_true rfl, Nat.le_of_ble_eq_true rfl⟩ dX0_move_9 (fun r4 V5 hz_6 => ?_)
    refine gG_ret hz_6.1 hz_6.2 ?_
    refine gG_st [.null] rfl ?_
    refine g_astore_nN X rfl dX0_move_12 [(1, .null), (0, .ref (B.2.1 10 b 0))] rfl (gnl_lt hnL (by decide)) ?_
    refine g_aload_nN X 0 rfl dX0_move_13 ?_
    refine g_ifnonnullN X dX0_move_14 ?_
    refine g_iconst X 0 (by decide) dX0_move_17 ?_
    refine g_iret X F ?_ rfl dX0_move_18
    rw [show sMove S = (S, 0) by unfold sMove; rw [hq]]
    exact ⟨rfl, hS, brmod.rf⟩
  | cons i ys =>
    have hiq : i ∈ S.2.1 2 := by rw [hq]; exact List.mem_cons_self
    have hi := hw.mem hiq
    have hci := hw.2.1 i hi
    refine gG_top (nI i) (lat_cons rfl) ?_
    refine g_callV X hR (rest := []) mX0_cartAt lX0_57 (k_cartAt hI V b S i (by first | assumption | decide | omega) hS (by first | assumption | decide | omega) (by first | assumption | decide | omega)) rfl rfl (Nat.le_of_ble_eq_true rfl) (gP_10 (by first | assumption | decide | omega)) rfl rfl rfl ⟨Nat.le_of_ble_eq_true rfl, Nat.le_of_ble_eq_true rfl, Nat.le_of_ble_eq_true rfl, Nat.le_of_ble_eq_true rfl⟩ dX0_move_9 (fun r7 V8 hz_9 => ?_)
    refine gG_ret hz_9.1 hz_9.2 ?_
    refine gG_st [.ref (B.2.1 15 b i)] rfl ?_
    refine g_astore_n X rfl dX0_move_12 [(1, .ref (B.2.1 15 b i)), (0, .ref (B.2.1 10 b 0))] rfl (gnl_lt hnL (by decide)) ?_
    refine g_aload_n X 0 rfl dX0_move_13 ?_
    refine g_ifnonnull X 19 (by decide) dX0_move_14 ?_
    refine g_aload_n X 0 rfl dX0_move_19 ?_
    refine gg_X1_end X (gP_15 (by first | assumption | decide | omega) (by first | assumption | decide | omega)) fX0_100 dX0_move_20 ?_
    refine gG_top (nI (S.2.2.2.1 i 1)) (hS.2.2.2.1 i (by first | assumption | omega) 1 (by decide) (by decide)) ?_
    refine g_aload_n X 1 rfl dX0_move_23 ?_
    refine gg_X0_direction X (gP_10 (by first | assumption | decide | omega)) fX0_61 dX0_move_24 ?_
    refine gG_top (nI (S.1 1)) (hS.1 1 (by decide)) ?_
    refine g_icmp_ne X 35 (by decide) dX0_move_27 (fun c10 => ?_) (fun c10 => ?_)
    · refine g_aload_n X 1 rfl dX0_move_35 ?_
      refine g_callV X hR (rest := []) mX0_goBack lX0_139 (k_goBack hI V b S (by first | assumption | decide | omega) hS hw) rfl rfl (Nat.le_of_ble_eq_true rfl) (gP_10 (by first | assumption | decide | omega)) rfl rfl rfl ⟨Nat.le_of_ble_eq_true rfl, Nat.le_of_ble_eq_true rfl, Nat.le_of_ble_eq_true rfl, Nat.le_of_ble_eq_true rfl⟩ dX0_move_36 (fun r11 V12 hz_13 => ?_)
      refine gG_rv hz_13.1 ?_
      obtain ⟨-, haV12, hbV12⟩ := hz_13
      obtain ⟨S14, eS14⟩ : ∃ y, y = sGoBack S := ⟨_, rfl⟩
      have hS14 : AbsC V12 b S14 := by rw [eS14]; exact haV12
      have mS14 : brmod V V12 b := hbV12
      refine gG_st [] rfl ?_
      refine g_iconst X 0 (by decide) dX0_move_39 ?_
      refine g_iret X F ?_ rfl dX0_move_40
      have hE : sMove S = (sGoBack S, 0) := by unfold sMove; rw [hq]; exact if_neg (fun q => c10 (by rw [q]))
      rw [hE]
      subst eS14
      exact ⟨rfl, hS14, mS14⟩
    · refine g_aload_n X 1 rfl dX0_move_30 ?_
      refine g_callV X hR (rest := []) mX0_goOn lX0_136 (k_goOn hI V b S (by first | assumption | decide | omega) hS hw) rfl rfl (Nat.le_of_ble_eq_true rfl) (gP_10 (by first | assumption | decide | omega)) rfl rfl rfl ⟨Nat.le_of_ble_eq_true rfl, Nat.le_of_ble_eq_true rfl, Nat.le_of_ble_eq_true rfl, Nat.le_of_ble_eq_true rfl⟩ dX0_move_31 (fun r15 V16 hz_17 => ?_)
      refine gG_rv hz_17.1 ?_
      obtain ⟨-, haV16, hbV16⟩ := hz_17
      obtain ⟨S18, eS18⟩ : ∃ y, y = (sGoOn S).1 := ⟨_, rfl⟩
      have hS18 : AbsC V16 b S18 := by rw [eS18]; exact haV16
      have mS18 : brmod V V16 b := hbV16
      refine gG_st [.int (nI (sGoOn S).2)] rfl ?_
      refine g_iret X F ?_ rfl dX0_move_34
      have hE : sMove S = sGoOn S := by unfold sMove; rw [hq]; exact if_pos ((nI_eq (by have := hci.1; omega) (by have := hw.1.1; omega)).mp c10)
      rw [hE]
      subst eS18
      exact ⟨rfl, hS18, mS18⟩

abbrev rmX0_turn : Room := { frames := 0, cells := 0, slots := 0, locals := 0 }
set_option maxRecDepth 20000 in
theorem k_turn {l : Launch} {B : gB} (hI : gI B) (V : gMem) (b : Nat) (S : gSt) (hb : b < 3) (hS : AbsC V b S) (h1 : S.1 1 ≤ 1) : gM l B yX0_turn cX0_turn 1 none rmX0_turn [.ref (B.2.1 10 b 0)] V (fun v V' => v = none ∧ AbsC V' b (sN S 1 (1 - S.1 1)) ∧ brmod V V' b) := by
  refine gM_of (own := RX0) (L := [(0, .ref (B.2.1 10 b 0))]) (by decide +kernel) rfl hI (Nat.le_of_ble_eq_true rfl) rfl ?_
  intro Z hnL hR X F
  refine g_aload_n X 0 rfl dX0_turn_0 ?_
  refine g_iconst X 1 (by decide) dX0_turn_1 ?_
  refine g_aload_n X 0 rfl dX0_turn_2 ?_
  refine gg_X0_direction X (gP_10 (by first | assumption | decide | omega)) fX0_61 dX0_turn_3 ?_
  refine gG_top (nI (S.1 1)) (hS.1 1 (by decide)) ?_
  refine g_isub X dX0_turn_6 ?_
  refine gG_top (nI (1 - S.1 1)) (pk_sub (a := 1) h1) ?_
  refine gp_X0_direction X (gP_10 (by first | assumption | decide | omega)) fX0_61 dX0_turn_7 ?_
  refine gG_nm (fun V1 hV1 => ?_)
  obtain ⟨S2, eS2⟩ : ∃ y, y = sN S 1 (1 - S.1 1) := ⟨_, rfl⟩
  have hS2 : AbsC V1 b S2 := by rw [eS2, hV1]; exact hS.setN 1 (1 - S.1 1) (by decide)
  have mS2 : brmod V V1 b := by rw [hV1]; exact brmod.rf.up (by decide) (by decide)
  refine g_vret X F ?_ rfl dX0_turn_10
  subst eS2
  exact ⟨rfl, hS2, mS2⟩

abbrev rmX0_run : Room := { frames := 5, cells := 0, slots := 0, locals := 110 }
set_option maxRecDepth 20000 in
theorem k_run {l : Launch} {B : gB} (hI : gI B) (V : gMem) (b : Nat) (S : gSt) (N : Nat) (hb : b < 3) (hS : AbsC V b S) (hw : WF S) (hNb : N < 2 ^ 31) : gM l B yX0_run cX0_run 4 (some .int) rmX0_run [.ref (B.2.1 10 b 0), .int (nI N)] V (fun v V' => v = some (.int (nI (sRun N S).2)) ∧ AbsC V' b (sRun N S).1 ∧ brmod V V' b) := by
  refine gM_of (own := RX0) (L := [(0, .ref (B.2.1 10 b 0)), (1, .int (nI N))]) (by decide +kernel) rfl hI (Nat.le_of_ble_eq_true rfl) rfl ?_
  intro Z hnL hR X F
  refine g_iconst X 0 (by decide) dX0_run_0 ?_
  refine g_istore_n X rfl dX0_run_1 [(2, .int 0), (0, .ref (B.2.1 10 b 0)), (1, .int (nI N))] rfl (gnl_lt hnL (by decide)) ?_
  refine g_iconst X 0 (by decide) dX0_run_2 ?_
  refine g_istore_n X rfl dX0_run_3 [(3, .int 0), (2, .int 0), (0, .ref (B.2.1 10 b 0)), (1, .int (nI N))] rfl (gnl_lt hnL (by decide)) ?_
  refine gG_L [2, 3, 1, 0] (L' := [(0, .ref (B.2.1 10 b 0)), (1, .int (nI N)), (2, .int 0), (3, .int 0)]) rfl ?_
  have loop : ∀ (f : Nat) (i : Nat) (m : Nat) (V1 : gMem) (S1 : gSt), i + f = N → AbsC V1 b S1 → WF S1 → brmod V V1 b → sRun N S = ((sRun f S1).1, m + (sRun f S1).2) → gG Z B (0, 0) V1 4 [(0, .ref (B.2.1 10 b 0)), (1, .int (nI N)), (2, .int (nI m)), (3, .int (nI i))] [] := by
    intro f
    induction f with
    | zero =>
      intro i m V1 S1 hf hA hw1 hm hF
      refine g_iload_n X 3 rfl dX0_run_4 ?_
      refine g_iload_n X 1 rfl dX0_run_5 ?_
      refine g_icmp_ge X 36 (by decide) dX0_run_6 (fun c1 => ?_) (fun c1 => ?_)
      · refine g_iload_n X 2 rfl dX0_run_36 ?_
        refine g_iret X F ?_ rfl dX0_run_37
        rw [hF]
        exact ⟨rfl, hA, hm⟩
      · first | exact absurd (nI_le (by omega) (by omega)) c1 | exact absurd c1 (nI_le (by omega) (by omega))
    | succ f ih =>
      intro i m V1 S1 hf hA hw1 hm hF
      refine g_iload_n X 3 rfl dX0_run_4 ?_
      refine g_iload_n X 1 rfl dX0_run_5 ?_
      refine g_icmp_ge X 36 (by decide) dX0_run_6 (fun c2 => ?_) (fun c2 => ?_)
      · first | exact absurd (nI_ge (by omega) (by omega)) c2 | exact absurd c2 (nI_ge (by omega) (by omega))
      · refine g_iload_n X 2 rfl dX0_run_9 ?_
        refine g_aload_n X 0 rfl dX0_run_10 ?_
        refine g_callV X hR (rest := [.int (nI m)]) mX0_move lX0_64 (k_move hI V1 b S1 (by first | assumption | decide | omega) hA hw1) rfl rfl (Nat.le_of_ble_eq_true rfl) (gP_10 (by first | assumption | decide | omega)) rfl rfl rfl ⟨Nat.le_of_ble_eq_true rfl, Nat.le_of_ble_eq_true rfl, Nat.le_of_ble_eq_true rfl, Nat.le_of_ble_eq_true rfl⟩ dX0_run_11 (fun r3 V4 hz_5 => ?_)
        refine gG_rv hz_5.1 ?_
        obtain ⟨-, haV4, hbV4⟩ := hz_5
        obtain ⟨S6, eS6⟩ : ∃ y, y = (sMove S1).1 := ⟨_, rfl⟩
        have hS6 : AbsC V4 b S6 := by rw [eS6]; exact haV4
        have mS6 : brmod V V4 b := hm.trans hbV4
        refine gG_st [.int (nI (sMove S1).2), .int (nI m)] rfl ?_
        refine g_iadd X dX0_run_14 ?_
        refine gG_top (nI (m + (sMove S1).2)) (nI_add m (sMove S1).2) ?_
        refine g_istore_n X rfl dX0_run_15 [(2, .int (nI (m + (sMove S1).2))), (0, .ref (B.2.1 10 b 0)), (1, .int (nI N)), (3, .int (nI i))] rfl (gnl_lt hnL (by decide)) ?_
        refine g_aload_n X 1 rfl dX0_run_16 ?_
        refine g_callV X hR (rest := []) mX0_comeOn lX0_68 (k_comeOn hI V4 b S6 (by first | assumption | decide | omega) hS6 (by rw [eS6]; exact hw1.move)) rfl rfl (Nat.le_of_ble_eq_true rfl) (gP_10 (by first | assumption | decide | omega)) rfl rfl rfl ⟨Nat.le_of_ble_eq_true rfl, Nat.le_of_ble_eq_true rfl, Nat.le_of_ble_eq_true rfl, Nat.le_of_ble_eq_true rfl⟩ dX0_run_17 (fun r7 V8 hz_9 => ?_)
        refine gG_rv hz_9.1 ?_
        obtain ⟨-, haV8, hbV8⟩ := hz_9
        obtain ⟨S10, eS10⟩ : ∃ y, y = sCome S6 := ⟨_, rfl⟩
        have hS10 : AbsC V8 b S10 := by rw [eS10]; exact haV8
        have mS10 : brmod V V8 b := mS6.trans hbV8
        refine gG_st [] rfl ?_
        refine g_aload_n X 1 rfl dX0_run_20 ?_
        refine g_dup X rfl dX0_run_21 ?_
        refine gg_X0_tick X (gP_10 (by first | assumption | decide | omega)) fX0_71 dX0_run_22 ?_
        refine gG_top (nI (S10.1 0)) (hS10.1 0 (by decide)) ?_
        refine g_iconst X 1 (by decide) dX0_run_25 ?_
        refine g_iadd X dX0_run_26 ?_
        refine gG_top (nI ((S10.1 0) + 1)) (nI_1 _) ?_
        refine gp_X0_tick X (gP_10 (by first | assumption | decide | omega)) fX0_71 dX0_run_27 ?_
        refine gG_nm (fun V11 hV11 => ?_)
        obtain ⟨S12, eS12⟩ : ∃ y, y = sN S10 0 ((S10.1 0) + 1) := ⟨_, rfl⟩
        have hS12 : AbsC V11 b S12 := by rw [eS12, hV11]; exact hS10.setN 0 ((S10.1 0) + 1) (by decide)
        have mS12 : brmod V V11 b := by rw [hV11]; exact mS10.up (by decide) (by decide)
        have hTT : S12 = (sTick S1).1 := by rw [eS12, eS10, eS6]; rfl
        refine g_iinc X 3 rfl (nI (i + 1)) (iinc_1 _) dX0_run_30 [(3, .int (nI (i + 1))), (2, .int (nI (m + (sMove S1).2))), (0, .ref (B.2.1 10 b 0)), (1, .int (nI N))] rfl (gnl_lt hnL (by decide)) ?_
        refine g_goto X 4 (by decide) dX0_run_33 ?_
        refine gG_L [2, 3, 1, 0] (L' := [(0, .ref (B.2.1 10 b 0)), (1, .int (nI N)), (2, .int (nI (m + (sMove S1).2))), (3, .int (nI (i + 1)))]) rfl ?_
        refine ih (i + 1) (m + (sMove S1).2) V11 S12 (by omega) hS12 (by rw [hTT]; exact hw1.tick) mS12 ?_
        rw [hF, hTT]
        show _ = ((sRun f (sTick S1).1).1, m + (sMove S1).2 + (sRun f (sTick S1).1).2)
        rw [Nat.add_assoc]
        rfl
  exact loop N 0 0 V S (by omega) hS hw brmod.rf (by rw [Nat.zero_add])
end
section
/-! what is told of a bridge, and copies of it -/
def cntF (f : Nat → Bool) : Nat → Nat
  | 0 => 0
  | n + 1 => cntF f n + if f n then 1 else 0
theorem cntF_le (f : Nat → Bool) : ∀ n, cntF f n ≤ n
  | 0 => Nat.le_refl _
  | n + 1 => by have := cntF_le f n; unfold cntF; split <;> omega
def sCnt (S : gSt) (st : Nat) : Nat := cntF (fun i => decide (S.2.2.2.1 i 8 = st)) (S.1 6)
def sPlc (S : gSt) (i : Nat) : Int32 := if S.2.2.2.1 i 8 = 1 then (if S.2.2.2.1 i 1 = 0 then nI (S.2.2.2.1 i 9) else nI (S.1 2 - 1 - S.2.2.2.1 i 9)) else -1
def sTell (S : gSt) (i k : Nat) : Int32 := match k with
  | 0 => nI (S.2.2.2.1 i 2)
  | 1 => nI (S.2.2.2.1 i 3)
  | 2 => nI (S.2.2.2.1 i 4)
  | 3 => nI (S.2.2.2.1 i 5)
  | 4 => nI (S.2.2.2.1 i 1)
  | 5 => nI (S.2.2.2.1 i 8)
  | 6 => sPlc S i
  | 7 => nI (sToll S (S.2.2.2.1 i 2) (S.2.2.2.1 i 3))
  | _ => S.2.2.2.2 i
theorem boolN {c : Nat} (h : c ≤ 1) : narrow .boolean (.int (nI c)) = .int (nI c) ∧ fits .boolean (.int (nI c)) = true := by
  rcases (show c = 0 ∨ c = 1 by omega) with rfl | rfl <;> exact ⟨rfl, rfl⟩

abbrev rmX0_isOver : Room := { frames := 2, cells := 0, slots := 0, locals := 42 }
set_option maxRecDepth 20000 in
theorem k_isOver {l : Launch} {B : gB} (hI : gI B) (V : gMem) (b : Nat) (S : gSt) (i : Nat) (hb : b < 3) (hS : AbsC V b S) (hn : S.1 6 ≤ 16) (hi : i < S.1 6) (h8 : S.2.2.2.1 i 8 ≤ 3) : gM l B yX0_isOver cX0_isOver 3 (some .boolean) rmX0_isOver [.ref (B.2.1 10 b 0), .int (nI i)] V (fun v V' => v = some (.int (if S.2.2.2.1 i 8 = 2 then 1 else 0)) ∧ V' = V) := by
  refine gM_of (own := RX0) (L := [(0, .ref (B.2.1 10 b 0)), (1, .int (nI i))]) (by decide +kernel) rfl hI (Nat.le_of_ble_eq_true rfl) rfl ?_
  intro Z hnL hR X F
  refine g_aload_n X 0 rfl dX0_isOver_0 ?_
  refine g_iload_n X 1 rfl dX0_isOver_1 ?_
  refine g_callV X hR (rest := []) mX0_cartAt lX0_57 (k_cartAt hI V b S i (by first | assumption | decide | omega) hS (by first | assumption | decide | omega) (by first | assumption | decide | omega)) rfl rfl (Nat.le_of_ble_eq_true rfl) (gP_10 (by first | assumption | decide | omega)) rfl rfl rfl ⟨Nat.le_of_ble_eq_true rfl, Nat.le_of_ble_eq_true rfl, Nat.le_of_ble_eq_true rfl, Nat.le_of_ble_eq_true rfl⟩ dX0_isOver_2 (fun r1 V2 hz_3 => ?_)
  refine gG_ret hz_3.1 hz_3.2 ?_
  refine gG_st [.ref (B.2.1 15 b i)] rfl ?_
  refine g_astore_n X rfl dX0_isOver_5 [(2, .ref (B.2.1 15 b i)), (0, .ref (B.2.1 10 b 0)), (1, .int (nI i))] rfl (gnl_lt hnL (by decide)) ?_
  refine g_aload_n X 0 rfl dX0_isOver_6 ?_
  refine g_ifnull X dX0_isOver_7 ?_
  refine g_aload_n X 0 rfl dX0_isOver_10 ?_
  refine gg_X1_state X (gP_15 (by first | assumption | decide | omega) (by first | assumption | decide | omega)) fX0_74 dX0_isOver_11 ?_
  refine gG_top (nI (S.2.2.2.1 i 8)) (hS.2.2.2.1 i (by first | assumption | omega) 8 (by decide) (by decide)) ?_
  refine g_iconst X 2 (by decide) dX0_isOver_14 ?_
  refine g_icmp_ne X 22 (by decide) dX0_isOver_15 (fun c4 => ?_) (fun c4 => ?_)
  · refine g_iconst X 0 (by decide) dX0_isOver_22 ?_
    refine g_zret X F rfl ?_ rfl dX0_isOver_23
    exact ⟨by rw [if_neg (fun q => c4 (by rw [q]; rfl))], rfl⟩
  · refine g_iconst X 1 (by decide) dX0_isOver_18 ?_
    refine g_goto X 23 (by decide) dX0_isOver_19 ?_
    refine g_zret X F rfl ?_ rfl dX0_isOver_23
    exact ⟨by rw [if_pos ((nI_eq (b := 2) (by omega) (by decide)).mp c4)], rfl⟩

abbrev rmX0_coinsInBoxes : Room := { frames := 0, cells := 0, slots := 0, locals := 0 }
set_option maxRecDepth 20000 in
theorem k_coins {l : Launch} {B : gB} (hI : gI B) (V : gMem) (b : Nat) (S : gSt) (hb : b < 3) (hS : AbsC V b S) : gM l B yX0_coinsInBoxes cX0_coinsInBoxes 1 (some .int) rmX0_coinsInBoxes [.ref (B.2.1 10 b 0)] V (fun v V' => v = some (.int (nI (S.2.2.1 0 1 + S.2.2.1 1 1))) ∧ V' = V) := by
  refine gM_of (own := RX0) (L := [(0, .ref (B.2.1 10 b 0))]) (by decide +kernel) rfl hI (Nat.le_of_ble_eq_true rfl) rfl ?_
  intro Z hnL hR X F
  refine g_aload_n X 0 rfl dX0_coinsInBoxes_0 ?_
  refine gg_X0_firstGate X (gP_10 (by first | assumption | decide | omega)) fX0_33 dX0_coinsInBoxes_1 ?_
  refine gg_X3_coins X (gP_12 (by first | assumption | decide | omega) (by first | assumption | decide | omega)) fX0_77 dX0_coinsInBoxes_4 ?_
  refine gG_top (nI (S.2.2.1 0 1)) (hS.2.2.1 0 (by first | assumption | decide | omega) 1 (by decide) (by decide)) ?_
  refine g_aload_n X 0 rfl dX0_coinsInBoxes_7 ?_
  refine gg_X0_secondGate X (gP_10 (by first | assumption | decide | omega)) fX0_37 dX0_coinsInBoxes_8 ?_
  refine gg_X3_coins X (gP_12 (by first | assumption | decide | omega) (by first | assumption | decide | omega)) fX0_77 dX0_coinsInBoxes_11 ?_
  refine gG_top (nI (S.2.2.1 1 1)) (hS.2.2.1 1 (by first | assumption | decide | omega) 1 (by decide) (by decide)) ?_
  refine g_iadd X dX0_coinsInBoxes_14 ?_
  refine gG_top (nI ((S.2.2.1 0 1) + (S.2.2.1 1 1))) (nI_add (S.2.2.1 0 1) (S.2.2.1 1 1)) ?_
  refine g_iret X F ?_ rfl dX0_coinsInBoxes_15
  exact ⟨rfl, rfl⟩

abbrev rmX0_cartsIn : Room := { frames := 2, cells := 0, slots := 0, locals := 42 }
set_option maxRecDepth 20000 in
theorem k_cartsIn {l : Launch} {B : gB} (hI : gI B) (V : gMem) (b : Nat) (S : gSt) (st : Nat) (hb : b < 3) (hS : AbsC V b S) (hn : S.1 6 ≤ 16) (h8 : ∀ i, i < S.1 6 → S.2.2.2.1 i 8 ≤ 3) (hst : st ≤ 3) : gM l B yX0_cartsIn cX0_cartsIn 5 (some .int) rmX0_cartsIn [.ref (B.2.1 10 b 0), .int (nI st)] V (fun v V' => v = some (.int (nI (sCnt S st))) ∧ V' = V) := by
  refine gM_of (own := RX0) (L := [(0, .ref (B.2.1 10 b 0)), (1, .int (nI st))]) (by decide +kernel) rfl hI (Nat.le_of_ble_eq_true rfl) rfl ?_
  intro Z hnL hR X F
  refine g_iconst X 0 (by decide) dX0_cartsIn_0 ?_
  refine g_istore_n X rfl dX0_cartsIn_1 [(2, .int 0), (0, .ref (B.2.1 10 b 0)), (1, .int (nI st))] rfl (gnl_lt hnL (by decide)) ?_
  refine g_iconst X 0 (by decide) dX0_cartsIn_2 ?_
  refine g_istore_n X rfl dX0_cartsIn_3 [(3, .int 0), (2, .int 0), (0, .ref (B.2.1 10 b 0)), (1, .int (nI st))] rfl (gnl_lt hnL (by decide)) ?_
  refine gG_L [2, 3, 1, 0] (L' := [(0, .ref (B.2.1 10 b 0)), (1, .int (nI st)), (2, .int 0), (3, .int 0)]) rfl ?_
  have loop : ∀ (f : Nat) (i : Nat) , i + f = S.1 6 →  gG Z B (0, 0) V 4 [(0, .ref (B.2.1 10 b 0)), (1, .int (nI st)), (2, .int (nI (cntF (fun i => decide (S.2.2.2.1 i 8 = st)) i))), (3, .int (nI i))] [] := by
    intro f
    induction f with
    | zero =>
      intro i  hf 
      refine g_iload_n X 3 rfl dX0_cartsIn_4 ?_
      refine g_aload_n X 0 rfl dX0_cartsIn_5 ?_
      refine gg_X0_cartCount X (gP_10 (by first | assumption | decide | omega)) fX0_50 dX0_cartsIn_6 ?_
      refine gG_top (nI (S.1 6)) (hS.1 6 (by decide)) ?_
      refine g_icmp_ge X 42 (by decide) dX0_cartsIn_9 (fun c1 => ?_) (fun c1 => ?_)
      · refine g_iload_n X 2 rfl dX0_cartsIn_42 ?_
        refine g_iret X F ?_ rfl dX0_cartsIn_43
        exact ⟨by rw [show i = S.1 6 by omega]; rfl, rfl⟩
      · first | exact absurd (nI_le (by omega) (by omega)) c1 | exact absurd c1 (nI_le (by omega) (by omega))
    | succ f ih =>
      intro i  hf 
      have hc3 := h8 i (by omega)
      have hiN : i < S.1 6 := by omega
      refine g_iload_n X 3 rfl dX0_cartsIn_4 ?_
      refine g_aload_n X 0 rfl dX0_cartsIn_5 ?_
      refine gg_X0_cartCount X (gP_10 (by first | assumption | decide | omega)) fX0_50 dX0_cartsIn_6 ?_
      refine gG_top (nI (S.1 6)) (hS.1 6 (by decide)) ?_
      refine g_icmp_ge X 42 (by decide) dX0_cartsIn_9 (fun c2 => ?_) (fun c2 => ?_)
      · first | exact absurd (nI_ge (by omega) (by omega)) c2 | exact absurd c2 (nI_ge (by omega) (by omega))
      · refine g_aload_n X 0 rfl dX0_cartsIn_12 ?_
        refine g_iload_n X 3 rfl dX0_cartsIn_13 ?_
        refine g_callV X hR (rest := []) mX0_cartAt lX0_57 (k_cartAt hI V b S i (by first | assumption | decide | omega) hS (by first | assumption | decide | omega) (by omega)) rfl rfl (Nat.le_of_ble_eq_true rfl) (gP_10 (by first | assumption | decide | omega)) rfl rfl rfl ⟨Nat.le_of_ble_eq_true rfl, Nat.le_of_ble_eq_true rfl, Nat.le_of_ble_eq_true rfl, Nat.le_of_ble_eq_true rfl⟩ dX0_cartsIn_14 (fun r3 V4 hz_5 => ?_)
        refine gG_ret hz_5.1 hz_5.2 ?_
        refine gG_st [.ref (B.2.1 15 b i)] rfl ?_
        refine g_astore X dX0_cartsIn_17 [(4, .ref (B.2.1 15 b i)), (0, .ref (B.2.1 10 b 0)), (1, .int (nI st)), (2, .int (nI (cntF (fun i => decide (S.2.2.2.1 i 8 = st)) i))), (3, .int (nI i))] rfl (gnl_lt hnL (by decide)) ?_
        refine g_aload X 0 rfl dX0_cartsIn_19 ?_
        refine g_ifnull X dX0_cartsIn_21 ?_
        refine g_aload X 0 rfl dX0_cartsIn_24 ?_
        refine gg_X1_state X (gP_15 (by first | assumption | decide | omega) (by first | assumption | decide | omega)) fX0_74 dX0_cartsIn_26 ?_
        refine gG_top (nI (S.2.2.2.1 i 8)) (hS.2.2.2.1 i (by first | assumption | omega) 8 (by decide) (by decide)) ?_
        refine g_iload_n X 2 rfl dX0_cartsIn_29 ?_
        by_cases hc : S.2.2.2.1 i 8 = st
        · skip
          refine g_icmp_ne X 36 (by decide) dX0_cartsIn_30 (fun c6 => ?_) (fun c6 => ?_)
          · first | exact absurd (fun z => z (by rw [hc])) c6 | exact absurd c6 (fun z => z (by rw [hc]))
          · refine g_iinc X 3 rfl (nI ((cntF (fun i => decide (S.2.2.2.1 i 8 = st)) i) + 1)) (iinc_1 _) dX0_cartsIn_33 [(2, .int (nI ((cntF (fun i => decide (S.2.2.2.1 i 8 = st)) i) + 1))), (4, .ref (B.2.1 15 b i)), (0, .ref (B.2.1 10 b 0)), (1, .int (nI st)), (3, .int (nI i))] rfl (gnl_lt hnL (by decide)) ?_
            refine gG_L [2, 3, 0, 4, 1] (L' := [(0, .ref (B.2.1 10 b 0)), (1, .int (nI st)), (2, .int (nI ((cntF (fun i => decide (S.2.2.2.1 i 8 = st)) i) + 1))), (3, .int (nI i)), (4, .ref (B.2.1 15 b i))]) rfl ?_
            refine gG_Le [(0, .ref (B.2.1 10 b 0)), (1, .int (nI st)), (2, .int (nI (cntF (fun i => decide (S.2.2.2.1 i 8 = st)) (i + 1)))), (3, .int (nI i)), (4, .ref (B.2.1 15 b i))] (by rw [show cntF (fun i => decide (S.2.2.2.1 i 8 = st)) (i + 1) = cntF (fun i => decide (S.2.2.2.1 i 8 = st)) i + 1 by show cntF (fun i => decide (S.2.2.2.1 i 8 = st)) i + (if decide (S.2.2.2.1 i 8 = st) = true then 1 else 0) = _; rw [if_pos (by simp [hc])]]) ?_
            refine g_iinc X 3 rfl (nI (i + 1)) (iinc_1 _) dX0_cartsIn_36 [(3, .int (nI (i + 1))), (0, .ref (B.2.1 10 b 0)), (1, .int (nI st)), (2, .int (nI (cntF (fun i => decide (S.2.2.2.1 i 8 = st)) (i + 1)))), (4, .ref (B.2.1 15 b i))] rfl (gnl_lt hnL (by decide)) ?_
            refine g_goto X 4 (by decide) dX0_cartsIn_39 ?_
            refine gG_L [1, 2, 3, 0] (L' := [(0, .ref (B.2.1 10 b 0)), (1, .int (nI st)), (2, .int (nI (cntF (fun i => decide (S.2.2.2.1 i 8 = st)) (i + 1)))), (3, .int (nI (i + 1)))]) rfl ?_
            refine ih (i + 1) (by omega)
        · skip
          refine g_icmp_ne X 36 (by decide) dX0_cartsIn_30 (fun c7 => ?_) (fun c7 => ?_)
          · refine gG_L [1, 2, 3, 4, 0] (L' := [(0, .ref (B.2.1 10 b 0)), (1, .int (nI st)), (2, .int (nI (cntF (fun i => decide (S.2.2.2.1 i 8 = st)) i))), (3, .int (nI i)), (4, .ref (B.2.1 15 b i))]) rfl ?_
            refine gG_Le [(0, .ref (B.2.1 10 b 0)), (1, .int (nI st)), (2, .int (nI (cntF (fun i => decide (S.2.2.2.1 i 8 = st)) (i + 1)))), (3, .int (nI i)), (4, .ref (B.2.1 15 b i))] (by rw [show cntF (fun i => decide (S.2.2.2.1 i 8 = st)) (i + 1) = cntF (fun i => decide (S.2.2.2.1 i 8 = st)) i by show cntF (fun i => decide (S.2.2.2.1 i 8 = st)) i + (if decide (S.2.2.2.1 i 8 = st) = true then 1 else 0) = _; rw [if_neg (by simp [hc]), Nat.add_zero]]) ?_
            refine g_iinc X 3 rfl (nI (i + 1)) (iinc_1 _) dX0_cartsIn_36 [(3, .int (nI (i + 1))), (0, .ref (B.2.1 10 b 0)), (1, .int (nI st)), (2, .int (nI (cntF (fun i => decide (S.2.2.2.1 i 8 = st)) (i + 1)))), (4, .ref (B.2.1 15 b i))] rfl (gnl_lt hnL (by decide)) ?_
            refine g_goto X 4 (by decide) dX0_cartsIn_39 ?_
            refine gG_L [1, 2, 3, 0] (L' := [(0, .ref (B.2.1 10 b 0)), (1, .int (nI st)), (2, .int (nI (cntF (fun i => decide (S.2.2.2.1 i 8 = st)) (i + 1)))), (3, .int (nI (i + 1)))]) rfl ?_
            refine ih (i + 1) (by omega)
          · first | exact absurd (fun z => hc ((nI_eq (by omega) (by omega)).mp z)) c7 | exact absurd c7 (fun z => hc ((nI_eq (by omega) (by omega)).mp z))
  exact loop (S.1 6) 0 (by omega)

abbrev rmX0_placeOf : Room := { frames := 0, cells := 0, slots := 0, locals := 0 }
set_option maxRecDepth 20000 in
theorem k_placeOf {l : Launch} {B : gB} (hI : gI B) (V : gMem) (b : Nat) (S : gSt) (i : Nat) (hb : b < 3) (hS : AbsC V b S) (hn : S.1 6 ≤ 16) (hi : i < S.1 6) (hc : sCartOk S i) (hpl : S.2.2.2.1 i 8 = 1 → S.2.2.2.1 i 9 < S.1 2) : gM l B yX0_placeOf cX0_placeOf 2 (some .int) rmX0_placeOf [.ref (B.2.1 10 b 0), .ref (B.2.1 15 b i)] V (fun v V' => v = some (.int (sPlc S i)) ∧ V' = V) := by
  refine gM_of (own := RX0) (L := [(0, .ref (B.2.1 10 b 0)), (1, .ref (B.2.1 15 b i))]) (by decide +kernel) rfl hI (Nat.le_of_ble_eq_true rfl) rfl ?_
  intro Z hnL hR X F
  have h88 := hc.2.2.2.2.2.2.2
  have h11 := hc.1
  refine g_aload_n X 1 rfl dX0_placeOf_0 ?_
  refine gg_X1_state X (gP_15 (by first | assumption | decide | omega) (by first | assumption | decide | omega)) fX0_74 dX0_placeOf_1 ?_
  refine gG_top (nI (S.2.2.2.1 i 8)) (hS.2.2.2.1 i (by first | assumption | omega) 8 (by decide) (by decide)) ?_
  refine g_iconst X 1 (by decide) dX0_placeOf_4 ?_
  refine g_icmp_eq X 10 (by decide) dX0_placeOf_5 (fun c1 => ?_) (fun c1 => ?_)
  · have h1 : S.2.2.2.1 i 8 = 1 := (nI_eq (b := 1) (by omega) (by decide)).mp c1
    refine g_aload_n X 1 rfl dX0_placeOf_10 ?_
    refine gg_X1_end X (gP_15 (by first | assumption | decide | omega) (by first | assumption | decide | omega)) fX0_100 dX0_placeOf_11 ?_
    refine gG_top (nI (S.2.2.2.1 i 1)) (hS.2.2.2.1 i (by first | assumption | omega) 1 (by decide) (by decide)) ?_
    by_cases h0 : S.2.2.2.1 i 1 = 0
    · skip
      refine g_if_ne X 24 (by decide) dX0_placeOf_14 (fun c2 => ?_) (fun c2 => ?_)
      · first | exact absurd (fun q => q (by rw [h0]; rfl)) c2 | exact absurd c2 (fun q => q (by rw [h0]; rfl))
      · refine g_aload_n X 1 rfl dX0_placeOf_17 ?_
        refine gg_X1_way X (gP_15 (by first | assumption | decide | omega) (by first | assumption | decide | omega)) fX0_133 dX0_placeOf_18 ?_
        refine gG_top (nI (S.2.2.2.1 i 9)) (hS.2.2.2.1 i (by first | assumption | omega) 9 (by decide) (by decide)) ?_
        refine g_goto X 35 (by decide) dX0_placeOf_21 ?_
        refine g_iret X F ?_ rfl dX0_placeOf_35
        exact ⟨by rw [show sPlc S i = _ from if_pos h1, if_pos h0], rfl⟩
    · skip
      refine g_if_ne X 24 (by decide) dX0_placeOf_14 (fun c3 => ?_) (fun c3 => ?_)
      · refine g_aload_n X 0 rfl dX0_placeOf_24 ?_
        refine gg_X0_places X (gP_10 (by first | assumption | decide | omega)) fX0_9 dX0_placeOf_25 ?_
        refine gG_top (nI (S.1 2)) (hS.1 2 (by decide)) ?_
        refine g_iconst X 1 (by decide) dX0_placeOf_28 ?_
        refine g_isub X dX0_placeOf_29 ?_
        refine gG_top (nI (S.1 2 - 1)) (nI_dec (by have := hpl h1; omega)) ?_
        refine g_aload_n X 1 rfl dX0_placeOf_30 ?_
        refine gg_X1_way X (gP_15 (by first | assumption | decide | omega) (by first | assumption | decide | omega)) fX0_133 dX0_placeOf_31 ?_
        refine gG_top (nI (S.2.2.2.1 i 9)) (hS.2.2.2.1 i (by first | assumption | omega) 9 (by decide) (by decide)) ?_
        refine g_isub X dX0_placeOf_34 ?_
        refine gG_top (nI (S.1 2 - 1 - S.2.2.2.1 i 9)) (pk_sub (by have := hpl h1; omega)) ?_
        refine g_iret X F ?_ rfl dX0_placeOf_35
        exact ⟨by rw [show sPlc S i = _ from if_pos h1, if_neg h0], rfl⟩
      · first | exact absurd (nI_ne0 (by omega) (by omega)) c3 | exact absurd c3 (nI_ne0 (by omega) (by omega))
  · refine g_iconst X (-1) (by decide) dX0_placeOf_8 ?_
    refine g_iret X F ?_ rfl dX0_placeOf_9
    exact ⟨by rw [show sPlc S i = -1 from if_neg (fun q => c1 (by rw [q]; rfl))], rfl⟩

abbrev rmX0_tellCart : Room := { frames := 1, cells := 0, slots := 0, locals := 22 }
set_option maxRecDepth 20000 in
theorem k_tellCart {l : Launch} {B : gB} (hI : gI B) (V : gMem) (b : Nat) (S : gSt) (i : Nat) (k : Nat) (hb : b < 3) (hS : AbsC V b S) (hn : S.1 6 ≤ 16) (hi : i < S.1 6) (hc : sCartOk S i) (hpl : S.2.2.2.1 i 8 = 1 → S.2.2.2.1 i 9 < S.1 2) (hk : k < 9) : gM l B yX0_tellCart cX0_tellCart 3 (some .int) rmX0_tellCart [.ref (B.2.1 10 b 0), .ref (B.2.1 15 b i), .int (nI k)] V (fun v V' => v = some (.int (sTell S i k)) ∧ V' = V) := by
  refine gM_of (own := RX0) (L := [(0, .ref (B.2.1 10 b 0)), (1, .ref (B.2.1 15 b i)), (2, .int (nI k))]) (by decide +kernel) rfl hI (Nat.le_of_ble_eq_true rfl) rfl ?_
  intro Z hnL hR X F
  have h33 := hc.2.2.1
  refine g_iload_n X 2 rfl dX0_tellCart_0 ?_
  rcases (show k = 0 ∨ k = 1 ∨ k = 2 ∨ k = 3 ∨ k = 4 ∨ k = 5 ∨ k = 6 ∨ k = 7 ∨ k = 8 by omega) with rfl | rfl | rfl | rfl | rfl | rfl | rfl | rfl | rfl
  · refine gG_top 0 rfl ?_
    refine g_tableIn X (47) 48 (by decide) (by decide) (by decide) (by decide) dX0_tellCart_1 ?_
    refine g_aload_n X 1 rfl dX0_tellCart_48 ?_
    refine gg_X1_axles X (gP_15 (by first | assumption | decide | omega) (by first | assumption | decide | omega)) fX0_93 dX0_tellCart_49 ?_
    refine gG_top (nI (S.2.2.2.1 i 2)) (hS.2.2.2.1 i (by first | assumption | omega) 2 (by decide) (by decide)) ?_
    refine g_iret X F ?_ rfl dX0_tellCart_52
    exact ⟨rfl, rfl⟩
  · refine gG_top 1 rfl ?_
    refine g_tableIn X (52) 53 (by decide) (by decide) (by decide) (by decide) dX0_tellCart_1 ?_
    refine g_aload_n X 1 rfl dX0_tellCart_53 ?_
    refine gg_X1_weight X (gP_15 (by first | assumption | decide | omega) (by first | assumption | decide | omega)) fX0_87 dX0_tellCart_54 ?_
    refine gG_top (nI (S.2.2.2.1 i 3)) (hS.2.2.2.1 i (by first | assumption | omega) 3 (by decide) (by decide)) ?_
    refine g_iret X F ?_ rfl dX0_tellCart_57
    exact ⟨rfl, rfl⟩
  · refine gG_top 2 rfl ?_
    refine g_tableIn X (57) 58 (by decide) (by decide) (by decide) (by decide) dX0_tellCart_1 ?_
    refine g_aload_n X 1 rfl dX0_tellCart_58 ?_
    refine gg_X1_pace X (gP_15 (by first | assumption | decide | omega) (by first | assumption | decide | omega)) fX0_96 dX0_tellCart_59 ?_
    refine gG_top (nI (S.2.2.2.1 i 4)) (hS.2.2.2.1 i (by first | assumption | omega) 4 (by decide) (by decide)) ?_
    refine g_iret X F ?_ rfl dX0_tellCart_62
    exact ⟨rfl, rfl⟩
  · refine gG_top 3 rfl ?_
    refine g_tableIn X (62) 63 (by decide) (by decide) (by decide) (by decide) dX0_tellCart_1 ?_
    refine g_aload_n X 1 rfl dX0_tellCart_63 ?_
    refine gg_X1_coins X (gP_15 (by first | assumption | decide | omega) (by first | assumption | decide | omega)) fX0_99 dX0_tellCart_64 ?_
    refine gG_top (nI (S.2.2.2.1 i 5)) (hS.2.2.2.1 i (by first | assumption | omega) 5 (by decide) (by decide)) ?_
    refine g_iret X F ?_ rfl dX0_tellCart_67
    exact ⟨rfl, rfl⟩
  · refine gG_top 4 rfl ?_
    refine g_tableIn X (67) 68 (by decide) (by decide) (by decide) (by decide) dX0_tellCart_1 ?_
    refine g_aload_n X 1 rfl dX0_tellCart_68 ?_
    refine gg_X1_end X (gP_15 (by first | assumption | decide | omega) (by first | assumption | decide | omega)) fX0_100 dX0_tellCart_69 ?_
    refine gG_top (nI (S.2.2.2.1 i 1)) (hS.2.2.2.1 i (by first | assumption | omega) 1 (by decide) (by decide)) ?_
    refine g_iret X F ?_ rfl dX0_tellCart_72
    exact ⟨rfl, rfl⟩
  · refine gG_top 5 rfl ?_
    refine g_tableIn X (72) 73 (by decide) (by decide) (by decide) (by decide) dX0_tellCart_1 ?_
    refine g_aload_n X 1 rfl dX0_tellCart_73 ?_
    refine gg_X1_state X (gP_15 (by first | assumption | decide | omega) (by first | assumption | decide | omega)) fX0_74 dX0_tellCart_74 ?_
    refine gG_top (nI (S.2.2.2.1 i 8)) (hS.2.2.2.1 i (by first | assumption | omega) 8 (by decide) (by decide)) ?_
    refine g_iret X F ?_ rfl dX0_tellCart_77
    exact ⟨rfl, rfl⟩
  · refine gG_top 6 rfl ?_
    refine g_tableIn X (77) 78 (by decide) (by decide) (by decide) (by decide) dX0_tellCart_1 ?_
    refine g_aload_n X 0 rfl dX0_tellCart_78 ?_
    refine g_aload_n X 1 rfl dX0_tellCart_79 ?_
    refine g_callV X hR (rest := []) mX0_placeOf lX0_103 (k_placeOf hI V b S i (by first | assumption | decide | omega) hS (by first | assumption | decide | omega) (by first | assumption | decide | omega) (by first | assumption | decide | omega) (by first | assumption | decide | omega)) rfl rfl (Nat.le_of_ble_eq_true rfl) (gP_10 (by first | assumption | decide | omega)) rfl rfl rfl ⟨Nat.le_of_ble_eq_true rfl, Nat.le_of_ble_eq_true rfl, Nat.le_of_ble_eq_true rfl, Nat.le_of_ble_eq_true rfl⟩ dX0_tellCart_80 (fun r1 V2 hz_3 => ?_)
    refine gG_ret hz_3.1 hz_3.2 ?_
    refine gG_st [.int (sPlc S i)] rfl ?_
    refine g_iret X F ?_ rfl dX0_tellCart_83
    exact ⟨rfl, rfl⟩
  · refine gG_top 7 rfl ?_
    refine g_tableIn X (83) 84 (by decide) (by decide) (by decide) (by decide) dX0_tellCart_1 ?_
    refine g_aload_n X 0 rfl dX0_tellCart_84 ?_
    refine g_aload_n X 1 rfl dX0_tellCart_85 ?_
    refine gg_X1_axles X (gP_15 (by first | assumption | decide | omega) (by first | assumption | decide | omega)) fX0_93 dX0_tellCart_86 ?_
    refine gG_top (nI (S.2.2.2.1 i 2)) (hS.2.2.2.1 i (by first | assumption | omega) 2 (by decide) (by decide)) ?_
    refine g_aload_n X 1 rfl dX0_tellCart_89 ?_
    refine gg_X1_weight X (gP_15 (by first | assumption | decide | omega) (by first | assumption | decide | omega)) fX0_87 dX0_tellCart_90 ?_
    refine gG_top (nI (S.2.2.2.1 i 3)) (hS.2.2.2.1 i (by first | assumption | omega) 3 (by decide) (by decide)) ?_
    refine g_callV X hR (rest := []) mX0_tollFor lX0_107 (k_tollFor hI V b S (S.2.2.2.1 i 2) (S.2.2.2.1 i 3) (by first | assumption | decide | omega) hS (by omega)) rfl rfl (Nat.le_of_ble_eq_true rfl) (gP_10 (by first | assumption | decide | omega)) rfl rfl rfl ⟨Nat.le_of_ble_eq_true rfl, Nat.le_of_ble_eq_true rfl, Nat.le_of_ble_eq_true rfl, Nat.le_of_ble_eq_true rfl⟩ dX0_tellCart_93 (fun r4 V5 hz_6 => ?_)
    refine gG_ret hz_6.1 hz_6.2 ?_
    refine gG_st [.int (nI (sToll S (S.2.2.2.1 i 2) (S.2.2.2.1 i 3)))] rfl ?_
    refine g_iret X F ?_ rfl dX0_tellCart_96
    exact ⟨rfl, rfl⟩
  · refine gG_top 8 rfl ?_
    refine g_tableOut X 97 (by decide) (by decide) dX0_tellCart_1 ?_
    refine g_aload_n X 1 rfl dX0_tellCart_97 ?_
    refine gg_X1_overTick X (gP_15 (by first | assumption | decide | omega) (by first | assumption | decide | omega)) fX0_90 dX0_tellCart_98 ?_
    refine gG_top (S.2.2.2.2 i) (hS.2.2.2.2.1 i (by first | assumption | omega)) ?_
    refine g_iret X F ?_ rfl dX0_tellCart_101
    exact ⟨rfl, rfl⟩

def gTell (S : gSt) (e k : Nat) : Int32 := match k with
  | 0 => nI (S.2.2.1 e 1)
  | 1 => nI (S.2.2.1 e 2)
  | 2 => nI (S.2.2.1 e 3)
  | _ => nI (S.2.1 e).length

abbrev rmX3_tell : Room := { frames := 0, cells := 0, slots := 0, locals := 0 }
set_option maxRecDepth 20000 in
theorem k_gtell {l : Launch} {B : gB} (hI : gI B) (V : gMem) (b : Nat) (S : gSt) (e : Nat) (k : Nat) (hb : b < 3) (hS : AbsC V b S) (he : e < 2) (hk : k < 4) : gM l B yX3_tell cX3_tell 2 (some .int) rmX3_tell [.ref (B.2.1 12 b e), .int (nI k)] V (fun v V' => v = some (.int (gTell S e k)) ∧ V' = V) := by
  refine gM_of (own := RX3) (L := [(0, .ref (B.2.1 12 b e)), (1, .int (nI k))]) (by decide +kernel) rfl hI (Nat.le_of_ble_eq_true rfl) rfl ?_
  intro Z hnL hR X F
  refine g_iload_n X 1 rfl dX3_tell_0 ?_
  rcases (show k = 0 ∨ k = 1 ∨ k = 2 ∨ k = 3 by omega) with rfl | rfl | rfl | rfl
  · refine gG_top 0 rfl ?_
    refine g_tableIn X (27) 28 (by decide) (by decide) (by decide) (by decide) dX3_tell_1 ?_
    refine g_aload_n X 0 rfl dX3_tell_28 ?_
    refine gg_X3_coins X (gP_12 (by first | assumption | decide | omega) (by first | assumption | decide | omega)) fX3_18 dX3_tell_29 ?_
    refine gG_top (nI (S.2.2.1 e 1)) (hS.2.2.1 e (by first | assumption | decide | omega) 1 (by decide) (by decide)) ?_
    refine g_iret X F ?_ rfl dX3_tell_32
    exact ⟨rfl, rfl⟩
  · refine gG_top 1 rfl ?_
    refine g_tableIn X (32) 33 (by decide) (by decide) (by decide) (by decide) dX3_tell_1 ?_
    refine g_aload_n X 0 rfl dX3_tell_33 ?_
    refine gg_X3_payers X (gP_12 (by first | assumption | decide | omega) (by first | assumption | decide | omega)) fX3_22 dX3_tell_34 ?_
    refine gG_top (nI (S.2.2.1 e 2)) (hS.2.2.1 e (by first | assumption | decide | omega) 2 (by decide) (by decide)) ?_
    refine g_iret X F ?_ rfl dX3_tell_37
    exact ⟨rfl, rfl⟩
  · refine gG_top 2 rfl ?_
    refine g_tableIn X (37) 38 (by decide) (by decide) (by decide) (by decide) dX3_tell_1 ?_
    refine g_aload_n X 0 rfl dX3_tell_38 ?_
    refine gg_X3_axles X (gP_12 (by first | assumption | decide | omega) (by first | assumption | decide | omega)) fX3_25 dX3_tell_39 ?_
    refine gG_top (nI (S.2.2.1 e 3)) (hS.2.2.1 e (by first | assumption | decide | omega) 3 (by decide) (by decide)) ?_
    refine g_iret X F ?_ rfl dX3_tell_42
    exact ⟨rfl, rfl⟩
  · refine gG_top 3 rfl ?_
    refine g_tableOut X 43 (by decide) (by decide) dX3_tell_1 ?_
    refine g_aload_n X 0 rfl dX3_tell_43 ?_
    refine gg_X3_waiting X (gP_12 (by first | assumption | decide | omega) (by first | assumption | decide | omega)) fX3_12 dX3_tell_44 ?_
    refine gg_X5_size X (gP_13 (by first | assumption | decide | omega) (by first | assumption | decide | omega)) fX3_34 dX3_tell_47 ?_
    refine gG_top (nI (S.2.1 e).length) ((hS.2.1 e (by first | decide | omega)).1) ?_
    refine g_iret X F ?_ rfl dX3_tell_50
    exact ⟨rfl, rfl⟩

/-- one cart's numbers are another's -/
def cartmod (V V' : gMem) (b i : Nat) : Prop := ∀ K b' i', ¬ (K = 15 ∧ b' = b ∧ i' = i) → V' K b' i' = V K b' i'

abbrev rmX1_copyFrom : Room := { frames := 0, cells := 0, slots := 0, locals := 0 }
set_option maxRecDepth 20000 in
theorem k_cartCopy {l : Launch} {B : gB} (hI : gI B) (V : gMem) (b : Nat) (b2 : Nat) (i : Nat) (hb : b < 3) (hb2 : b2 < 3) (hi : i < 16) (hne : b ≠ b2) (h6 : narrow .boolean (.int (V 15 b2 i 6)) = .int (V 15 b2 i 6)) (h6f : fits .boolean (.int (V 15 b2 i 6)) = true) (h7 : narrow .boolean (.int (V 15 b2 i 7)) = .int (V 15 b2 i 7)) (h7f : fits .boolean (.int (V 15 b2 i 7)) = true) : gM l B yX1_copyFrom cX1_copyFrom 2 none rmX1_copyFrom [.ref (B.2.1 15 b i), .ref (B.2.1 15 b2 i)] V (fun v V' => v = none ∧ (∀ k, 1 ≤ k → k ≤ 10 → V' 15 b i k = V 15 b2 i k) ∧ V' 15 b i 0 = V 15 b i 0 ∧ cartmod V V' b i) := by
  refine gM_of (own := RX1) (L := [(0, .ref (B.2.1 15 b i)), (1, .ref (B.2.1 15 b2 i))]) (by decide +kernel) rfl hI (Nat.le_of_ble_eq_true rfl) rfl ?_
  intro Z hnL hR X F
  refine g_aload_n X 0 rfl dX1_copyFrom_0 ?_
  refine g_aload_n X 1 rfl dX1_copyFrom_1 ?_
  refine gg_X1_end X (gP_15 (by first | assumption | decide | omega) (by first | assumption | decide | omega)) fX1_21 dX1_copyFrom_2 ?_
  refine gp_X1_end X (gP_15 (by first | assumption | decide | omega) (by first | assumption | decide | omega)) fX1_21 dX1_copyFrom_5 ?_
  refine gG_nm (fun V1 hV1 => ?_)
  refine g_aload_n X 0 rfl dX1_copyFrom_8 ?_
  refine g_aload_n X 1 rfl dX1_copyFrom_9 ?_
  refine gg_X1_axles X (gP_15 (by first | assumption | decide | omega) (by first | assumption | decide | omega)) fX1_24 dX1_copyFrom_10 ?_
  refine gG_top (V 15 b2 i 2) (by rw [hV1, gup_ne (fun q => hne q.2.1.symm)]) ?_
  refine gp_X1_axles X (gP_15 (by first | assumption | decide | omega) (by first | assumption | decide | omega)) fX1_24 dX1_copyFrom_13 ?_
  refine gG_nm (fun V2 hV2 => ?_)
  refine g_aload_n X 0 rfl dX1_copyFrom_16 ?_
  refine g_aload_n X 1 rfl dX1_copyFrom_17 ?_
  refine gg_X1_weight X (gP_15 (by first | assumption | decide | omega) (by first | assumption | decide | omega)) fX1_27 dX1_copyFrom_18 ?_
  refine gG_top (V 15 b2 i 3) (by rw [hV2, gup_ne (fun q => hne q.2.1.symm), hV1, gup_ne (fun q => hne q.2.1.symm)]) ?_
  refine gp_X1_weight X (gP_15 (by first | assumption | decide | omega) (by first | assumption | decide | omega)) fX1_27 dX1_copyFrom_21 ?_
  refine gG_nm (fun V3 hV3 => ?_)
  refine g_aload_n X 0 rfl dX1_copyFrom_24 ?_
  refine g_aload_n X 1 rfl dX1_copyFrom_25 ?_
  refine gg_X1_pace X (gP_15 (by first | assumption | decide | omega) (by first | assumption | decide | omega)) fX1_30 dX1_copyFrom_26 ?_
  refine gG_top (V 15 b2 i 4) (by rw [hV3, gup_ne (fun q => hne q.2.1.symm), hV2, gup_ne (fun q => hne q.2.1.symm), hV1, gup_ne (fun q => hne q.2.1.symm)]) ?_
  refine gp_X1_pace X (gP_15 (by first | assumption | decide | omega) (by first | assumption | decide | omega)) fX1_30 dX1_copyFrom_29 ?_
  refine gG_nm (fun V4 hV4 => ?_)
  refine g_aload_n X 0 rfl dX1_copyFrom_32 ?_
  refine g_aload_n X 1 rfl dX1_copyFrom_33 ?_
  refine gg_X1_coins X (gP_15 (by first | assumption | decide | omega) (by first | assumption | decide | omega)) fX1_33 dX1_copyFrom_34 ?_
  refine gG_top (V 15 b2 i 5) (by rw [hV4, gup_ne (fun q => hne q.2.1.symm), hV3, gup_ne (fun q => hne q.2.1.symm), hV2, gup_ne (fun q => hne q.2.1.symm), hV1, gup_ne (fun q => hne q.2.1.symm)]) ?_
  refine gp_X1_coins X (gP_15 (by first | assumption | decide | omega) (by first | assumption | decide | omega)) fX1_33 dX1_copyFrom_37 ?_
  refine gG_nm (fun V5 hV5 => ?_)
  refine g_aload_n X 0 rfl dX1_copyFrom_40 ?_
  refine g_aload_n X 1 rfl dX1_copyFrom_41 ?_
  refine gg_X1_isCheat X (gP_15 (by first | assumption | decide | omega) (by first | assumption | decide | omega)) fX1_36 dX1_copyFrom_42 ?_
  refine gG_top (V 15 b2 i 6) (by rw [hV5, gup_ne (fun q => hne q.2.1.symm), hV4, gup_ne (fun q => hne q.2.1.symm), hV3, gup_ne (fun q => hne q.2.1.symm), hV2, gup_ne (fun q => hne q.2.1.symm), hV1, gup_ne (fun q => hne q.2.1.symm)]) ?_
  refine gp_X1_isCheat X h6 h6f (gP_15 (by first | assumption | decide | omega) (by first | assumption | decide | omega)) fX1_36 dX1_copyFrom_45 ?_
  refine gG_nm (fun V6 hV6 => ?_)
  refine g_aload_n X 0 rfl dX1_copyFrom_48 ?_
  refine g_aload_n X 1 rfl dX1_copyFrom_49 ?_
  refine gg_X1_hasPaid X (gP_15 (by first | assumption | decide | omega) (by first | assumption | decide | omega)) fX1_40 dX1_copyFrom_50 ?_
  refine gG_top (V 15 b2 i 7) (by rw [hV6, gup_ne (fun q => hne q.2.1.symm), hV5, gup_ne (fun q => hne q.2.1.symm), hV4, gup_ne (fun q => hne q.2.1.symm), hV3, gup_ne (fun q => hne q.2.1.symm), hV2, gup_ne (fun q => hne q.2.1.symm), hV1, gup_ne (fun q => hne q.2.1.symm)]) ?_
  refine gp_X1_hasPaid X h7 h7f (gP_15 (by first | assumption | decide | omega) (by first | assumption | decide | omega)) fX1_40 dX1_copyFrom_53 ?_
  refine gG_nm (fun V7 hV7 => ?_)
  refine g_aload_n X 0 rfl dX1_copyFrom_56 ?_
  refine g_aload_n X 1 rfl dX1_copyFrom_57 ?_
  refine gg_X1_state X (gP_15 (by first | assumption | decide | omega) (by first | assumption | decide | omega)) fX1_9 dX1_copyFrom_58 ?_
  refine gG_top (V 15 b2 i 8) (by rw [hV7, gup_ne (fun q => hne q.2.1.symm), hV6, gup_ne (fun q => hne q.2.1.symm), hV5, gup_ne (fun q => hne q.2.1.symm), hV4, gup_ne (fun q => hne q.2.1.symm), hV3, gup_ne (fun q => hne q.2.1.symm), hV2, gup_ne (fun q => hne q.2.1.symm), hV1, gup_ne (fun q => hne q.2.1.symm)]) ?_
  refine gp_X1_state X (gP_15 (by first | assumption | decide | omega) (by first | assumption | decide | omega)) fX1_9 dX1_copyFrom_61 ?_
  refine gG_nm (fun V8 hV8 => ?_)
  refine g_aload_n X 0 rfl dX1_copyFrom_64 ?_
  refine g_aload_n X 1 rfl dX1_copyFrom_65 ?_
  refine gg_X1_way X (gP_15 (by first | assumption | decide | omega) (by first | assumption | decide | omega)) fX1_43 dX1_copyFrom_66 ?_
  refine gG_top (V 15 b2 i 9) (by rw [hV8, gup_ne (fun q => hne q.2.1.symm), hV7, gup_ne (fun q => hne q.2.1.symm), hV6, gup_ne (fun q => hne q.2.1.symm), hV5, gup_ne (fun q => hne q.2.1.symm), hV4, gup_ne (fun q => hne q.2.1.symm), hV3, gup_ne (fun q => hne q.2.1.symm), hV2, gup_ne (fun q => hne q.2.1.symm), hV1, gup_ne (fun q => hne q.2.1.symm)]) ?_
  refine gp_X1_way X (gP_15 (by first | assumption | decide | omega) (by first | assumption | decide | omega)) fX1_43 dX1_copyFrom_69 ?_
  refine gG_nm (fun V9 hV9 => ?_)
  refine g_aload_n X 0 rfl dX1_copyFrom_72 ?_
  refine g_aload_n X 1 rfl dX1_copyFrom_73 ?_
  refine gg_X1_overTick X (gP_15 (by first | assumption | decide | omega) (by first | assumption | decide | omega)) fX1_15 dX1_copyFrom_74 ?_
  refine gG_top (V 15 b2 i 10) (by rw [hV9, gup_ne (fun q => hne q.2.1.symm), hV8, gup_ne (fun q => hne q.2.1.symm), hV7, gup_ne (fun q => hne q.2.1.symm), hV6, gup_ne (fun q => hne q.2.1.symm), hV5, gup_ne (fun q => hne q.2.1.symm), hV4, gup_ne (fun q => hne q.2.1.symm), hV3, gup_ne (fun q => hne q.2.1.symm), hV2, gup_ne (fun q => hne q.2.1.symm), hV1, gup_ne (fun q => hne q.2.1.symm)]) ?_
  refine gp_X1_overTick X (gP_15 (by first | assumption | decide | omega) (by first | assumption | decide | omega)) fX1_15 dX1_copyFrom_77 ?_
  refine gG_nm (fun V10 hV10 => ?_)
  refine g_vret X F ?_ rfl dX1_copyFrom_80
  refine ⟨rfl, fun k h1 h2 => ?_, ?_, fun K b' i' hn => ?_⟩
  · have hr : ∀ k, V 15 b2 i k = V 15 b2 i k := fun _ => rfl
    rcases (show k = 1 ∨ k = 2 ∨ k = 3 ∨ k = 4 ∨ k = 5 ∨ k = 6 ∨ k = 7 ∨ k = 8 ∨ k = 9 ∨ k = 10 by omega) with rfl | rfl | rfl | rfl | rfl | rfl | rfl | rfl | rfl | rfl <;> simp [hV10, hV9, hV8, hV7, hV6, hV5, hV4, hV3, hV2, hV1, gup, hne]
  · simp [hV10, hV9, hV8, hV7, hV6, hV5, hV4, hV3, hV2, hV1, gup]
  · rw [hV10, gup_off _ _ hn]
    rw [hV9, gup_off _ _ hn]
    rw [hV8, gup_off _ _ hn]
    rw [hV7, gup_off _ _ hn]
    rw [hV6, gup_off _ _ hn]
    rw [hV5, gup_off _ _ hn]
    rw [hV4, gup_off _ _ hn]
    rw [hV3, gup_off _ _ hn]
    rw [hV2, gup_off _ _ hn]
    rw [hV1, gup_off _ _ hn]

def gmod (V V' : gMem) (b e : Nat) : Prop := ∀ K b' i', ¬ ((K = 12 ∨ K = 13 ∨ K = 14) ∧ b' = b ∧ i' = e) → V' K b' i' = V K b' i'
theorem gmod.br {V V' : gMem} {b e : Nat} (h : gmod V V' b e) : brmod V V' b := fun K b' i' hn => h K b' i' (fun q => hn ⟨by omega, by omega, q.2.1⟩)
theorem cartmod.br {V V' : gMem} {b i : Nat} (h : cartmod V V' b i) : brmod V V' b := fun K b' i' hn => h K b' i' (fun q => hn ⟨by omega, by omega, q.2.1⟩)

abbrev rmX3_copyFrom : Room := { frames := 3, cells := 0, slots := 0, locals := 64 }
set_option maxRecDepth 20000 in
theorem k_gateCopy {l : Launch} {B : gB} (hI : gI B) (V : gMem) (b : Nat) (b2 : Nat) (e : Nat) (S : gSt) (hb : b < 3) (hb2 : b2 < 3) (he : e < 2) (hne : b ≠ b2) (hS : AbsC V b2 S) : gM l B yX3_copyFrom cX3_copyFrom 2 none rmX3_copyFrom [.ref (B.2.1 12 b e), .ref (B.2.1 12 b2 e)] V (fun v V' => v = none ∧ RowIs V' b e (S.2.1 e) ∧ (∀ k, 1 ≤ k → k ≤ 4 → V' 12 b e k = nI (S.2.2.1 e k)) ∧ gmod V V' b e) := by
  refine gM_of (own := RX3) (L := [(0, .ref (B.2.1 12 b e)), (1, .ref (B.2.1 12 b2 e))]) (by decide +kernel) rfl hI (Nat.le_of_ble_eq_true rfl) rfl ?_
  intro Z hnL hR X F
  refine g_aload_n X 0 rfl dX3_copyFrom_0 ?_
  refine gg_X3_waiting X (gP_12 (by first | assumption | decide | omega) (by first | assumption | decide | omega)) fX3_12 dX3_copyFrom_1 ?_
  refine g_aload_n X 1 rfl dX3_copyFrom_4 ?_
  refine gg_X3_waiting X (gP_12 (by first | assumption | decide | omega) (by first | assumption | decide | omega)) fX3_12 dX3_copyFrom_5 ?_
  refine g_callV X hR (rest := []) mX5_copyFrom lX3_48 (k_rowCopy hI V b e b2 e (S.2.1 e) (by first | assumption | decide | omega) (by omega) (by first | assumption | decide | omega) (by omega) (fun q => hne q.1.symm) (hS.2.1 e (by omega))) rfl rfl (Nat.le_of_ble_eq_true rfl) (gP_13 (by first | assumption | decide | omega) (by first | assumption | decide | omega)) rfl rfl rfl ⟨Nat.le_of_ble_eq_true rfl, Nat.le_of_ble_eq_true rfl, Nat.le_of_ble_eq_true rfl, Nat.le_of_ble_eq_true rfl⟩ dX3_copyFrom_8 (fun r1 V2 hz_3 => ?_)
  refine gG_rv hz_3.1 ?_
  obtain ⟨-, hrowV2, hmodV2⟩ := hz_3
  have k4 : AbsC V2 b2 S := hS.other hmodV2.br (Ne.symm hne)
  refine gG_st [] rfl ?_
  refine g_aload_n X 0 rfl dX3_copyFrom_11 ?_
  refine g_aload_n X 1 rfl dX3_copyFrom_12 ?_
  refine gg_X3_coins X (gP_12 (by first | assumption | decide | omega) (by first | assumption | decide | omega)) fX3_18 dX3_copyFrom_13 ?_
  refine gG_top (nI (S.2.2.1 e 1)) (k4.2.2.1 e (by first | assumption | decide | omega) 1 (by decide) (by decide)) ?_
  refine gp_X3_coins X (gP_12 (by first | assumption | decide | omega) (by first | assumption | decide | omega)) fX3_18 dX3_copyFrom_16 ?_
  refine gG_nm (fun V5 hV5 => ?_)
  have k6 : AbsC V5 b2 S := by rw [hV5]; exact k4.other (brmod.rf.up (by decide) (by decide)) (Ne.symm hne)
  refine g_aload_n X 0 rfl dX3_copyFrom_19 ?_
  refine g_aload_n X 1 rfl dX3_copyFrom_20 ?_
  refine gg_X3_payers X (gP_12 (by first | assumption | decide | omega) (by first | assumption | decide | omega)) fX3_22 dX3_copyFrom_21 ?_
  refine gG_top (nI (S.2.2.1 e 2)) (k6.2.2.1 e (by first | assumption | decide | omega) 2 (by decide) (by decide)) ?_
  refine gp_X3_payers X (gP_12 (by first | assumption | decide | omega) (by first | assumption | decide | omega)) fX3_22 dX3_copyFrom_24 ?_
  refine gG_nm (fun V7 hV7 => ?_)
  have k8 : AbsC V7 b2 S := by rw [hV7]; exact k6.other (brmod.rf.up (by decide) (by decide)) (Ne.symm hne)
  refine g_aload_n X 0 rfl dX3_copyFrom_27 ?_
  refine g_aload_n X 1 rfl dX3_copyFrom_28 ?_
  refine gg_X3_axles X (gP_12 (by first | assumption | decide | omega) (by first | assumption | decide | omega)) fX3_25 dX3_copyFrom_29 ?_
  refine gG_top (nI (S.2.2.1 e 3)) (k8.2.2.1 e (by first | assumption | decide | omega) 3 (by decide) (by decide)) ?_
  refine gp_X3_axles X (gP_12 (by first | assumption | decide | omega) (by first | assumption | decide | omega)) fX3_25 dX3_copyFrom_32 ?_
  refine gG_nm (fun V9 hV9 => ?_)
  have k10 : AbsC V9 b2 S := by rw [hV9]; exact k8.other (brmod.rf.up (by decide) (by decide)) (Ne.symm hne)
  refine g_aload_n X 0 rfl dX3_copyFrom_35 ?_
  refine g_aload_n X 1 rfl dX3_copyFrom_36 ?_
  refine gg_X3_keptByCheats X (gP_12 (by first | assumption | decide | omega) (by first | assumption | decide | omega)) fX3_31 dX3_copyFrom_37 ?_
  refine gG_top (nI (S.2.2.1 e 4)) (k10.2.2.1 e (by first | assumption | decide | omega) 4 (by decide) (by decide)) ?_
  refine gp_X3_keptByCheats X (gP_12 (by first | assumption | decide | omega) (by first | assumption | decide | omega)) fX3_31 dX3_copyFrom_40 ?_
  refine gG_nm (fun V11 hV11 => ?_)
  have k12 : AbsC V11 b2 S := by rw [hV11]; exact k10.other (brmod.rf.up (by decide) (by decide)) (Ne.symm hne)
  refine g_vret X F ?_ rfl dX3_copyFrom_43
  refine ⟨rfl, ?_, fun k h1 h2 => ?_, fun K b' i' hn => ?_⟩
  · refine hrowV2.same ?_ ?_ <;> rw [hV11, gup_off _ _ (by simp), hV9, gup_off _ _ (by simp), hV7, gup_off _ _ (by simp), hV5, gup_off _ _ (by simp)]
  · rcases (show k = 1 ∨ k = 2 ∨ k = 3 ∨ k = 4 by omega) with rfl | rfl | rfl | rfl <;> simp [hV11, hV9, hV7, hV5, gup]
  · rw [hV11, gup_off _ _ (fun q => hn ⟨Or.inl q.1, q.2⟩), hV9, gup_off _ _ (fun q => hn ⟨Or.inl q.1, q.2⟩), hV7, gup_off _ _ (fun q => hn ⟨Or.inl q.1, q.2⟩), hV5, gup_off _ _ (fun q => hn ⟨Or.inl q.1, q.2⟩)]
    exact hmodV2 K b' i' (fun q => hn ⟨by omega, q.2⟩)

set_option maxRecDepth 20000 in
theorem k_cartAtN {l : Launch} {B : gB} (hI : gI B) (V : gMem) (b : Nat) (n : Nat) (i : Nat) (hb : b < 3) (hN : V 10 b 0 6 = nI n) (hn : n ≤ 16) (hi : i < n) : gM l B yX0_cartAt cX0_cartAt 2 (some (.object "FogBridge$Cart")) rmX0_cartAt [.ref (B.2.1 10 b 0), .int (nI i)] V (fun v V' => v = some (.ref (B.2.1 15 b i)) ∧ V' = V) := by
  refine gM_of (own := RX0) (L := [(0, .ref (B.2.1 10 b 0)), (1, .int (nI i))]) (by decide +kernel) rfl hI (Nat.le_of_ble_eq_true rfl) rfl ?_
  intro Z hnL hR X F
  refine g_iload_n X 1 rfl dX0_cartAt_0 ?_
  refine g_aload_n X 0 rfl dX0_cartAt_1 ?_
  refine gg_X0_cartCount X (gP_10 (by first | assumption | decide | omega)) fX0_50 dX0_cartAt_2 ?_
  refine gG_top (nI n) (hN) ?_
  refine g_icmp_ge X 29 (by decide) dX0_cartAt_5 (fun c1 => ?_) (fun c1 => ?_)
  · first | exact absurd (nI_ge hi (by omega)) c1 | exact absurd c1 (nI_ge hi (by omega))
  · have hi16 : i < 16 := by omega
    refine g_iload_n X 1 rfl dX0_cartAt_8 ?_
    refine g_aload_n X 0 rfl dX0_cartAt_9 ?_
    refine gg_X0_carts X (gP_10 (by first | assumption | decide | omega)) fX0_26 dX0_cartAt_10 ?_
    refine g_alenC X (by first | assumption | decide | omega) dX0_cartAt_13 ?_
    refine g_callS X hR (As := [.int (nI i), .int 16]) (rest := []) mX6_isIndex lX0_53 (k_isIndex1 hI V (nI i) 16 (nI_pos' (by omega)) (nI_lt (b := 16) hi16 (by decide))) rfl rfl (Nat.le_of_ble_eq_true rfl) ⟨Nat.le_of_ble_eq_true rfl, Nat.le_of_ble_eq_true rfl, Nat.le_of_ble_eq_true rfl, Nat.le_of_ble_eq_true rfl⟩ dX0_cartAt_14 (fun r2 V3 hz_4 => ?_)
    refine gG_ret hz_4.1 hz_4.2 ?_
    refine gG_st [.int 1] rfl ?_
    refine g_if_eq X 29 (by decide) dX0_cartAt_17 (fun c5 => ?_) (fun c5 => ?_)
    ·  exact absurd c5 (by decide)
    · refine g_aload_n X 0 rfl dX0_cartAt_20 ?_
      refine gg_X0_carts X (gP_10 (by first | assumption | decide | omega)) fX0_26 dX0_cartAt_21 ?_
      refine g_iload_n X 1 rfl dX0_cartAt_24 ?_
      refine g_aaldC X (i) rfl hi16 (by first | assumption | decide | omega) dX0_cartAt_25 ?_
      refine g_goto X 30 (by decide) dX0_cartAt_26 ?_
      refine g_aret X F (Or.inr ⟨_, rfl⟩) ?_ rfl dX0_cartAt_30
      exact ⟨rfl, rfl⟩

abbrev rmX0_copyFrom : Room := { frames := 4, cells := 0, slots := 0, locals := 85 }
set_option maxRecDepth 20000 in
theorem k_copyFrom {l : Launch} {B : gB} (hI : gI B) (V : gMem) (b : Nat) (b2 : Nat) (S : gSt) (hb : b < 3) (hb2 : b2 < 3) (hne : b ≠ b2) (hS : AbsC V b2 S) (hn : S.1 6 ≤ 16) (hc : ∀ i, i < S.1 6 → sCartOk S i) (h00 : ∀ j, j < 16 → V 15 b j 0 = nI j) (hb0 : b ≠ 0) : gM l B yX0_copyFrom cX0_copyFrom 5 none rmX0_copyFrom [.ref (B.2.1 10 b 0), .ref (B.2.1 10 b2 0)] V (fun v V' => v = none ∧ AbsC V' b S ∧ brmod V V' b) := by
  refine gM_of (own := RX0) (L := [(0, .ref (B.2.1 10 b 0)), (1, .ref (B.2.1 10 b2 0))]) (by decide +kernel) rfl hI (Nat.le_of_ble_eq_true rfl) rfl ?_
  intro Z hnL hR X F
  refine g_aload_n X 0 rfl dX0_copyFrom_0 ?_
  refine g_aload_n X 1 rfl dX0_copyFrom_1 ?_
  refine gg_X0_tick X (gP_10 (by first | assumption | decide | omega)) fX0_71 dX0_copyFrom_2 ?_
  refine gG_top (nI (S.1 0)) (hS.1 0 (by decide)) ?_
  refine gp_X0_tick X (gP_10 (by first | assumption | decide | omega)) fX0_71 dX0_copyFrom_5 ?_
  refine gG_nm (fun V1 hV1 => ?_)
  have k2 : AbsC V1 b2 S := by rw [hV1]; exact hS.other (brmod.rf.up (by decide) (by decide)) (Ne.symm hne)
  refine g_aload_n X 0 rfl dX0_copyFrom_8 ?_
  refine g_aload_n X 1 rfl dX0_copyFrom_9 ?_
  refine gg_X0_direction X (gP_10 (by first | assumption | decide | omega)) fX0_61 dX0_copyFrom_10 ?_
  refine gG_top (nI (S.1 1)) (k2.1 1 (by decide)) ?_
  refine gp_X0_direction X (gP_10 (by first | assumption | decide | omega)) fX0_61 dX0_copyFrom_13 ?_
  refine gG_nm (fun V3 hV3 => ?_)
  have k4 : AbsC V3 b2 S := by rw [hV3]; exact k2.other (brmod.rf.up (by decide) (by decide)) (Ne.symm hne)
  refine g_aload_n X 0 rfl dX0_copyFrom_16 ?_
  refine g_aload_n X 1 rfl dX0_copyFrom_17 ?_
  refine gg_X0_places X (gP_10 (by first | assumption | decide | omega)) fX0_9 dX0_copyFrom_18 ?_
  refine gG_top (nI (S.1 2)) (k4.1 2 (by decide)) ?_
  refine gp_X0_places X (gP_10 (by first | assumption | decide | omega)) fX0_9 dX0_copyFrom_21 ?_
  refine gG_nm (fun V5 hV5 => ?_)
  have k6 : AbsC V5 b2 S := by rw [hV5]; exact k4.other (brmod.rf.up (by decide) (by decide)) (Ne.symm hne)
  refine g_aload_n X 0 rfl dX0_copyFrom_24 ?_
  refine g_aload_n X 1 rfl dX0_copyFrom_25 ?_
  refine gg_X0_bears X (gP_10 (by first | assumption | decide | omega)) fX0_15 dX0_copyFrom_26 ?_
  refine gG_top (nI (S.1 3)) (k6.1 3 (by decide)) ?_
  refine gp_X0_bears X (gP_10 (by first | assumption | decide | omega)) fX0_15 dX0_copyFrom_29 ?_
  refine gG_nm (fun V7 hV7 => ?_)
  have k8 : AbsC V7 b2 S := by rw [hV7]; exact k6.other (brmod.rf.up (by decide) (by decide)) (Ne.symm hne)
  refine g_aload_n X 0 rfl dX0_copyFrom_32 ?_
  refine g_aload_n X 1 rfl dX0_copyFrom_33 ?_
  refine gg_X0_axleToll X (gP_10 (by first | assumption | decide | omega)) fX0_18 dX0_copyFrom_34 ?_
  refine gG_top (nI (S.1 4)) (k8.1 4 (by decide)) ?_
  refine gp_X0_axleToll X (gP_10 (by first | assumption | decide | omega)) fX0_18 dX0_copyFrom_37 ?_
  refine gG_nm (fun V9 hV9 => ?_)
  have k10 : AbsC V9 b2 S := by rw [hV9]; exact k8.other (brmod.rf.up (by decide) (by decide)) (Ne.symm hne)
  refine g_aload_n X 0 rfl dX0_copyFrom_40 ?_
  refine g_aload_n X 1 rfl dX0_copyFrom_41 ?_
  refine gg_X0_tenToll X (gP_10 (by first | assumption | decide | omega)) fX0_21 dX0_copyFrom_42 ?_
  refine gG_top (nI (S.1 5)) (k10.1 5 (by decide)) ?_
  refine gp_X0_tenToll X (gP_10 (by first | assumption | decide | omega)) fX0_21 dX0_copyFrom_45 ?_
  refine gG_nm (fun V11 hV11 => ?_)
  have k12 : AbsC V11 b2 S := by rw [hV11]; exact k10.other (brmod.rf.up (by decide) (by decide)) (Ne.symm hne)
  refine g_aload_n X 0 rfl dX0_copyFrom_48 ?_
  refine g_aload_n X 1 rfl dX0_copyFrom_49 ?_
  refine gg_X0_cartCount X (gP_10 (by first | assumption | decide | omega)) fX0_50 dX0_copyFrom_50 ?_
  refine gG_top (nI (S.1 6)) (k12.1 6 (by decide)) ?_
  refine gp_X0_cartCount X (gP_10 (by first | assumption | decide | omega)) fX0_50 dX0_copyFrom_53 ?_
  refine gG_nm (fun V13 hV13 => ?_)
  have k14 : AbsC V13 b2 S := by rw [hV13]; exact k12.other (brmod.rf.up (by decide) (by decide)) (Ne.symm hne)
  have hNm : ∀ k, k < 7 → V13 10 b 0 k = nI (S.1 k) := by
    intro k hk
    rcases (show k = 0 ∨ k = 1 ∨ k = 2 ∨ k = 3 ∨ k = 4 ∨ k = 5 ∨ k = 6 by omega) with rfl | rfl | rfl | rfl | rfl | rfl | rfl <;> simp [hV13, hV11, hV9, hV7, hV5, hV3, hV1, gup]
  have hBm : brmod V V13 b := by
    rw [hV13, hV11, hV9, hV7, hV5, hV3, hV1]
    exact (((((((brmod.rf).up (by decide) (by decide)).up (by decide) (by decide)).up (by decide) (by decide)).up (by decide) (by decide)).up (by decide) (by decide)).up (by decide) (by decide)).up (by decide) (by decide)
  have h15 : V13 15 b = V 15 b := by
    funext i
    rw [hV13, gup_off _ _ (by simp), hV11, gup_off _ _ (by simp), hV9, gup_off _ _ (by simp), hV7, gup_off _ _ (by simp), hV5, gup_off _ _ (by simp), hV3, gup_off _ _ (by simp), hV1, gup_off _ _ (by simp)]
  refine g_iconst X 0 (by decide) dX0_copyFrom_56 ?_
  refine g_istore_n X rfl dX0_copyFrom_57 [(2, .int 0), (0, .ref (B.2.1 10 b 0)), (1, .ref (B.2.1 10 b2 0))] rfl (gnl_lt hnL (by decide)) ?_
  refine gG_L [1, 2, 0] (L' := [(0, .ref (B.2.1 10 b 0)), (1, .ref (B.2.1 10 b2 0)), (2, .int 0)]) rfl ?_
  have loop : ∀ (f : Nat) (i : Nat) (V1 : gMem), i + f = S.1 6 → AbsC V1 b2 S → brmod V V1 b → (∀ k, k < 7 → V1 10 b 0 k = nI (S.1 k)) → (∀ j, j < i → ∀ k, 1 ≤ k → k ≤ 10 → V1 15 b j k = V1 15 b2 j k) → (∀ j, j < 16 → V1 15 b j 0 = nI j) → gG Z B (0, 0) V1 58 [(0, .ref (B.2.1 10 b 0)), (1, .ref (B.2.1 10 b2 0)), (2, .int (nI i))] [] := by
    intro f
    induction f with
    | zero =>
      intro i V1 hf hA hm hN1 hcp h0
      refine g_iload_n X 2 rfl dX0_copyFrom_58 ?_
      refine g_aload_n X 0 rfl dX0_copyFrom_59 ?_
      refine gg_X0_cartCount X (gP_10 (by first | assumption | decide | omega)) fX0_50 dX0_copyFrom_60 ?_
      refine gG_top (nI (S.1 6)) (hN1 6 (by decide)) ?_
      refine g_icmp_ge X 100 (by decide) dX0_copyFrom_63 (fun c15 => ?_) (fun c15 => ?_)
      · have hiN : i = S.1 6 := by omega
        refine g_aload_n X 0 rfl dX0_copyFrom_100 ?_
        refine gg_X0_firstGate X (gP_10 (by first | assumption | decide | omega)) fX0_33 dX0_copyFrom_101 ?_
        refine g_aload_n X 1 rfl dX0_copyFrom_104 ?_
        refine gg_X0_firstGate X (gP_10 (by first | assumption | decide | omega)) fX0_33 dX0_copyFrom_105 ?_
        refine g_callV X hR (rest := []) mX3_copyFrom lX0_127 (k_gateCopy hI V1 b b2 0 S (by first | assumption | decide | omega) (by first | assumption | decide | omega) (by first | assumption | decide | omega) (by first | assumption | decide | omega) hA) rfl rfl (Nat.le_of_ble_eq_true rfl) (gP_12 (by first | assumption | decide | omega) (by first | assumption | decide | omega)) rfl rfl rfl ⟨Nat.le_of_ble_eq_true rfl, Nat.le_of_ble_eq_true rfl, Nat.le_of_ble_eq_true rfl, Nat.le_of_ble_eq_true rfl⟩ dX0_copyFrom_108 (fun r16 V17 hz_18 => ?_)
        refine gG_rv hz_18.1 ?_
        obtain ⟨-, hrowV17, hgV17, hmodV17⟩ := hz_18
        have k19 : AbsC V17 b2 S := hA.other hmodV17.br (Ne.symm hne)
        refine gG_st [] rfl ?_
        refine g_aload_n X 0 rfl dX0_copyFrom_111 ?_
        refine gg_X0_secondGate X (gP_10 (by first | assumption | decide | omega)) fX0_37 dX0_copyFrom_112 ?_
        refine g_aload_n X 1 rfl dX0_copyFrom_115 ?_
        refine gg_X0_secondGate X (gP_10 (by first | assumption | decide | omega)) fX0_37 dX0_copyFrom_116 ?_
        refine g_callV X hR (rest := []) mX3_copyFrom lX0_127 (k_gateCopy hI V17 b b2 1 S (by first | assumption | decide | omega) (by first | assumption | decide | omega) (by first | assumption | decide | omega) (by first | assumption | decide | omega) k19) rfl rfl (Nat.le_of_ble_eq_true rfl) (gP_12 (by first | assumption | decide | omega) (by first | assumption | decide | omega)) rfl rfl rfl ⟨Nat.le_of_ble_eq_true rfl, Nat.le_of_ble_eq_true rfl, Nat.le_of_ble_eq_true rfl, Nat.le_of_ble_eq_true rfl⟩ dX0_copyFrom_119 (fun r20 V21 hz_22 => ?_)
        refine gG_rv hz_22.1 ?_
        obtain ⟨-, hrowV21, hgV21, hmodV21⟩ := hz_22
        have k23 : AbsC V21 b2 S := k19.other hmodV21.br (Ne.symm hne)
        refine gG_st [] rfl ?_
        refine g_aload_n X 0 rfl dX0_copyFrom_122 ?_
        refine gg_X0_crossing X (gP_10 (by first | assumption | decide | omega)) fX0_43 dX0_copyFrom_123 ?_
        refine g_aload_n X 1 rfl dX0_copyFrom_126 ?_
        refine gg_X0_crossing X (gP_10 (by first | assumption | decide | omega)) fX0_43 dX0_copyFrom_127 ?_
        refine g_callV X hR (rest := []) mX5_copyFrom lX0_130 (k_rowCopy hI V21 b 2 b2 2 (S.2.1 2) (by first | assumption | decide | omega) (by first | assumption | decide | omega) (by first | assumption | decide | omega) (by first | assumption | decide | omega) (fun q => hne q.1.symm) (k23.2.1 2 (by decide))) rfl rfl (Nat.le_of_ble_eq_true rfl) (gP_13 (by first | assumption | decide | omega) (by first | assumption | decide | omega)) rfl rfl rfl ⟨Nat.le_of_ble_eq_true rfl, Nat.le_of_ble_eq_true rfl, Nat.le_of_ble_eq_true rfl, Nat.le_of_ble_eq_true rfl⟩ dX0_copyFrom_130 (fun r24 V25 hz_26 => ?_)
        refine gG_rv hz_26.1 ?_
        obtain ⟨-, hrowV25, hmodV25⟩ := hz_26
        have k27 : AbsC V25 b2 S := k23.other hmodV25.br (Ne.symm hne)
        refine gG_st [] rfl ?_
        refine g_vret X F ?_ rfl dX0_copyFrom_133
        refine ⟨rfl, ⟨fun k hk => ?_, fun r hr => ?_, fun e he k h1 h2 => ?_, fun j hj k h1 h2 => ?_, fun j hj => ?_, fun j hj => ?_, fun q => absurd q hb0⟩, ((hm.trans hmodV17.br).trans hmodV21.br).trans hmodV25.br⟩
        · rw [hmodV25 10 b 0 (by simp), hmodV21 10 b 0 (by simp), hmodV17 10 b 0 (by simp)]; exact hN1 k hk
        · rcases (show r = 0 ∨ r = 1 ∨ r = 2 by omega) with rfl | rfl | rfl
          · exact (hrowV17.same (hmodV21 13 b 0 (by simp)) (hmodV21 14 b 0 (by simp))).mod hmodV25 (by simp)
          · exact hrowV21.mod hmodV25 (by simp)
          · exact hrowV25
        · rw [hmodV25 12 b e (by simp)]
          rcases (show e = 0 ∨ e = 1 by omega) with rfl | rfl
          · rw [hmodV21 12 b 0 (by simp)]; exact hgV17 k h1 h2
          · exact hgV21 k h1 h2
        · rw [hmodV25 15 b j (by simp), hmodV21 15 b j (by simp), hmodV17 15 b j (by simp), hcp j (by omega) k h1 (by omega)]; exact hA.2.2.2.1 j hj k h1 h2
        · rw [hmodV25 15 b j (by simp), hmodV21 15 b j (by simp), hmodV17 15 b j (by simp), hcp j (by omega) 10 (by decide) (by decide)]; exact hA.2.2.2.2.1 j hj
        · rw [hmodV25 15 b j (by simp), hmodV21 15 b j (by simp), hmodV17 15 b j (by simp)]; exact h0 j hj
      · first | exact absurd (nI_le (by omega) (by omega)) c15 | exact absurd c15 (nI_le (by omega) (by omega))
    | succ f ih =>
      intro i V1 hf hA hm hN1 hcp h0
      have hiN : i < S.1 6 := by omega
      have hci := hc i hiN
      have bw6 := boolN hci.2.2.2.2.2.1
      rw [← hA.2.2.2.1 i hiN 6 (by decide) (by decide)] at bw6
      have bw7 := boolN hci.2.2.2.2.2.2.1
      rw [← hA.2.2.2.1 i hiN 7 (by decide) (by decide)] at bw7
      refine g_iload_n X 2 rfl dX0_copyFrom_58 ?_
      refine g_aload_n X 0 rfl dX0_copyFrom_59 ?_
      refine gg_X0_cartCount X (gP_10 (by first | assumption | decide | omega)) fX0_50 dX0_copyFrom_60 ?_
      refine gG_top (nI (S.1 6)) (hN1 6 (by decide)) ?_
      refine g_icmp_ge X 100 (by decide) dX0_copyFrom_63 (fun c28 => ?_) (fun c28 => ?_)
      · first | exact absurd (nI_ge (by omega) (by omega)) c28 | exact absurd c28 (nI_ge (by omega) (by omega))
      · refine g_aload_n X 0 rfl dX0_copyFrom_66 ?_
        refine g_iload_n X 2 rfl dX0_copyFrom_67 ?_
        refine g_callV X hR (rest := []) mX0_cartAt lX0_57 (k_cartAtN hI V1 b (S.1 6) i (by first | assumption | decide | omega) (hN1 6 (by decide)) (by first | assumption | decide | omega) (by omega)) rfl rfl (Nat.le_of_ble_eq_true rfl) (gP_10 (by first | assumption | decide | omega)) rfl rfl rfl ⟨Nat.le_of_ble_eq_true rfl, Nat.le_of_ble_eq_true rfl, Nat.le_of_ble_eq_true rfl, Nat.le_of_ble_eq_true rfl⟩ dX0_copyFrom_68 (fun r29 V30 hz_31 => ?_)
        refine gG_ret hz_31.1 hz_31.2 ?_
        refine gG_st [.ref (B.2.1 15 b i)] rfl ?_
        refine g_astore_n X rfl dX0_copyFrom_71 [(3, .ref (B.2.1 15 b i)), (0, .ref (B.2.1 10 b 0)), (1, .ref (B.2.1 10 b2 0)), (2, .int (nI i))] rfl (gnl_lt hnL (by decide)) ?_
        refine g_aload_n X 2 rfl dX0_copyFrom_72 ?_
        refine g_iload_n X 3 rfl dX0_copyFrom_73 ?_
        refine g_callV X hR (rest := []) mX0_cartAt lX0_57 (k_cartAt hI V1 b2 S i (by first | assumption | decide | omega) hA (by first | assumption | decide | omega) (by omega)) rfl rfl (Nat.le_of_ble_eq_true rfl) (gP_10 (by first | assumption | decide | omega)) rfl rfl rfl ⟨Nat.le_of_ble_eq_true rfl, Nat.le_of_ble_eq_true rfl, Nat.le_of_ble_eq_true rfl, Nat.le_of_ble_eq_true rfl⟩ dX0_copyFrom_74 (fun r32 V33 hz_34 => ?_)
        refine gG_ret hz_34.1 hz_34.2 ?_
        refine gG_st [.ref (B.2.1 15 b2 i)] rfl ?_
        refine g_astore X dX0_copyFrom_77 [(4, .ref (B.2.1 15 b2 i)), (3, .ref (B.2.1 15 b i)), (0, .ref (B.2.1 10 b 0)), (1, .ref (B.2.1 10 b2 0)), (2, .int (nI i))] rfl (gnl_lt hnL (by decide)) ?_
        refine g_aload_n X 1 rfl dX0_copyFrom_79 ?_
        refine g_ifnull X dX0_copyFrom_80 ?_
        refine g_aload X 0 rfl dX0_copyFrom_83 ?_
        refine g_ifnull X dX0_copyFrom_85 ?_
        refine g_aload_n X 1 rfl dX0_copyFrom_88 ?_
        refine g_aload X 0 rfl dX0_copyFrom_89 ?_
        refine g_callV X hR (rest := []) mX1_copyFrom lX0_123 (k_cartCopy hI V1 b b2 i (by first | assumption | decide | omega) (by first | assumption | decide | omega) (by first | assumption | decide | omega) (by first | assumption | decide | omega) bw6.1 bw6.2 bw7.1 bw7.2) rfl rfl (Nat.le_of_ble_eq_true rfl) (gP_15 (by first | assumption | decide | omega) (by first | assumption | decide | omega)) rfl rfl rfl ⟨Nat.le_of_ble_eq_true rfl, Nat.le_of_ble_eq_true rfl, Nat.le_of_ble_eq_true rfl, Nat.le_of_ble_eq_true rfl⟩ dX0_copyFrom_91 (fun r35 V36 hz_37 => ?_)
        refine gG_rv hz_37.1 ?_
        obtain ⟨-, hcpV36, hc0V36, hcmV36⟩ := hz_37
        have k38 : AbsC V36 b2 S := hA.other hcmV36.br (Ne.symm hne)
        refine gG_st [] rfl ?_
        refine g_iinc X 4 rfl (nI (i + 1)) (iinc_1 _) dX0_copyFrom_94 [(2, .int (nI (i + 1))), (4, .ref (B.2.1 15 b2 i)), (3, .ref (B.2.1 15 b i)), (0, .ref (B.2.1 10 b 0)), (1, .ref (B.2.1 10 b2 0))] rfl (gnl_lt hnL (by decide)) ?_
        refine g_goto X 58 (by decide) dX0_copyFrom_97 ?_
        refine gG_L [3, 4, 0] (L' := [(0, .ref (B.2.1 10 b 0)), (1, .ref (B.2.1 10 b2 0)), (2, .int (nI (i + 1)))]) rfl ?_
        refine ih (i + 1) V36 (by omega) k38 (hm.trans hcmV36.br) (fun k hk => ?_) (fun j hj k h1 h2 => ?_) (fun j hj => ?_)
        · rw [hcmV36 10 b 0 (by simp)]; exact hN1 k hk
        · by_cases hji : j = i
          · subst hji
            rw [hcpV36 k h1 h2, hcmV36 15 b2 j (fun q => hne q.2.1.symm)]
          · rw [hcmV36 15 b j (fun q => hji q.2.2), hcmV36 15 b2 j (fun q => hji q.2.2)]
            exact hcp j (by omega) k h1 h2
        · by_cases hji : j = i
          · subst hji; rw [hc0V36]; exact h0 j hj
          · rw [hcmV36 15 b j (fun q => hji q.2.2)]; exact h0 j hj
  exact loop (S.1 6) 0 V13 (by omega) k14 hBm hNm (fun j hj => absurd hj (by omega)) (fun j hj => by rw [h15]; exact h00 j hj)
end
section
/-! the checksum's sums -/
def mix1 (d : Int64) (x : Int32) : Int64 := d * 31 + x.toInt64
def mixL (xs : List Int32) (d : Int64) : Int64 := xs.foldl mix1 d
theorem mixL_add (xs : List Int32) (x : Int32) (d : Int64) : mixL (xs ++ [x]) d = mix1 (mixL xs d) x := by simp [mixL]
theorem mixL_app (xs ys : List Int32) (d : Int64) : mixL (xs ++ ys) d = mixL ys (mixL xs d) := by simp [mixL]
theorem mixL_range (f : Nat → Int32) (k : Nat) (d : Int64) : mixL ((List.range (k + 1)).map f) d = mix1 (mixL ((List.range k).map f) d) (f k) := by
  rw [List.range_succ, List.map_append]
  exact mixL_add _ _ _
theorem mixL_take {xs : List Nat} {j i : Nat} (h : xs[j]? = some i) (d : Int64) : mixL ((xs.take (j + 1)).map nI) d = mix1 (mixL ((xs.take j).map nI) d) (nI i) := by
  rw [List.take_add_one, h]
  simp only [Option.toList_some, List.map_append, List.map_cons, List.map_nil]
  exact mixL_add _ _ _
def gateL (S : gSt) (e : Nat) : List Int32 := (List.range 4).map (gTell S e) ++ (S.2.1 e).map nI
def cartL (S : gSt) (i : Nat) : List Int32 := (List.range 9).map (sTell S i)
def cartsL (S : gSt) (n : Nat) : List Int32 := (List.range n).flatMap (cartL S)
theorem cartsL_0 (S : gSt) (d : Int64) : mixL (cartsL S 0) d = d := rfl
theorem mixL_0 (f : Nat → Int32) (d : Int64) : mixL ((List.range 0).map f) d = d := rfl
theorem mixL_take0 (xs : List Nat) (d : Int64) : mixL ((xs.take 0).map nI) d = d := rfl
theorem cartsL_succ (S : gSt) (n : Nat) : cartsL S (n + 1) = cartsL S n ++ cartL S n := by simp [cartsL, List.range_succ]

abbrev rmX6_mixed : Room := { frames := 0, cells := 0, slots := 0, locals := 0 }
set_option maxRecDepth 20000 in
theorem k_mixed {l : Launch} {B : gB} (hI : gI B) (V : gMem) (x : Int64) (y : Int32)  : gM l B yX6_mixed cX6_mixed 3 (some .long) rmX6_mixed [.long x, .int y] V (fun v V' => v = some (.long (mix1 x y)) ∧ V' = V) := by
  refine gM_of (own := RX6) (L := [(0, .long x), (2, .int y)]) (by decide +kernel) rfl hI (Nat.le_of_ble_eq_true rfl) rfl ?_
  intro Z hnL hR X F
  refine g_lload_n X 0 rfl dX6_mixed_0 ?_
  refine g_ldc2 X 31 qK_X6_250 dX6_mixed_1 ?_
  refine g_lmul X dX6_mixed_4 ?_
  refine g_iload_n X 1 rfl dX6_mixed_5 ?_
  refine g_i2l X dX6_mixed_6 ?_
  refine g_ladd X dX6_mixed_7 ?_
  refine g_lret X F ?_ rfl dX6_mixed_8
  exact ⟨rfl, rfl⟩

abbrev rmX3_mixedInto : Room := { frames := 2, cells := 0, slots := 0, locals := 42 }
set_option maxRecDepth 20000 in
theorem k_gmix {l : Launch} {B : gB} (hI : gI B) (V : gMem) (b : Nat) (S : gSt) (e : Nat) (d : Int64) (hb : b < 3) (hS : AbsC V b S) (he : e < 2) : gM l B yX3_mixedInto cX3_mixedInto 6 (some .long) rmX3_mixedInto [.ref (B.2.1 12 b e), .long d] V (fun v V' => v = some (.long (mixL (gateL S e) d)) ∧ V' = V) := by
  refine gM_of (own := RX3) (L := [(0, .ref (B.2.1 12 b e)), (1, .long d)]) (by decide +kernel) rfl hI (Nat.le_of_ble_eq_true rfl) rfl ?_
  intro Z hnL hR X F
  have hlen : (S.2.1 e).length ≤ 16 := hS.bnd (by omega)
  refine g_lload_n X 1 rfl dX3_mixedInto_0 ?_
  refine g_lstore_n X rfl dX3_mixedInto_1 [(3, .long d), (0, .ref (B.2.1 12 b e)), (1, .long d)] rfl (gnl_lt hnL (by decide)) ?_
  refine g_iconst X 0 (by decide) dX3_mixedInto_2 ?_
  refine g_istore X dX3_mixedInto_3 [(5, .int 0), (3, .long d), (0, .ref (B.2.1 12 b e)), (1, .long d)] rfl (gnl_lt hnL (by decide)) ?_
  refine gG_L [2, 3, 1, 0] (L' := [(0, .ref (B.2.1 12 b e)), (1, .long d), (3, .long d), (5, .int 0)]) rfl ?_
  have loop : ∀ (f : Nat) (k : Nat) , k + f = 4 →  gG Z B (0, 0) V 5 [(0, .ref (B.2.1 12 b e)), (1, .long d), (3, .long (mixL ((List.range k).map (gTell S e)) d)), (5, .int (nI k))] [] := by
    intro f
    induction f with
    | zero =>
      intro k  hf 
      refine g_iload X 3 rfl dX3_mixedInto_5 ?_
      refine g_iconst X 4 (by decide) dX3_mixedInto_7 ?_
      refine g_icmp_ge X 28 (by decide) dX3_mixedInto_8 (fun c1 => ?_) (fun c1 => ?_)
      · refine g_iconst X 0 (by decide) dX3_mixedInto_28 ?_
        refine g_istore X dX3_mixedInto_29 [(5, .int 0), (0, .ref (B.2.1 12 b e)), (1, .long d), (3, .long (mixL ((List.range k).map (gTell S e)) d))] rfl (gnl_lt hnL (by decide)) ?_
        refine gG_L [1, 2, 3, 0] (L' := [(0, .ref (B.2.1 12 b e)), (1, .long d), (3, .long (mixL ((List.range k).map (gTell S e)) d)), (5, .int 0)]) rfl ?_
        refine gG_Le [(0, .ref (B.2.1 12 b e)), (1, .long d), (3, .long (mixL (((S.2.1 e).take 0).map nI) (mixL ((List.range k).map (gTell S e)) d))), (5, .int (nI 0))] (by rw [mixL_take0]; rfl) ?_
        have loop2 : ∀ (f : Nat) (j : Nat) , j + f = (S.2.1 e).length →  gG Z B (0, 0) V 31 [(0, .ref (B.2.1 12 b e)), (1, .long d), (3, .long (mixL (((S.2.1 e).take j).map nI) (mixL ((List.range k).map (gTell S e)) d))), (5, .int (nI j))] [] := by
          intro f
          induction f with
          | zero =>
            intro j  hf 
            refine g_iload X 3 rfl dX3_mixedInto_31 ?_
            refine g_aload_n X 0 rfl dX3_mixedInto_33 ?_
            refine gg_X3_waiting X (gP_12 (by first | assumption | decide | omega) (by first | assumption | decide | omega)) fX3_12 dX3_mixedInto_34 ?_
            refine gg_X5_size X (gP_13 (by first | assumption | decide | omega) (by first | assumption | decide | omega)) fX3_34 dX3_mixedInto_37 ?_
            refine gG_top (nI (S.2.1 e).length) ((hS.2.1 e (by first | decide | omega)).1) ?_
            refine g_icmp_ge X 63 (by decide) dX3_mixedInto_40 (fun c2 => ?_) (fun c2 => ?_)
            · refine g_lload_n X 2 rfl dX3_mixedInto_63 ?_
              refine g_lret X F ?_ rfl dX3_mixedInto_64
              exact ⟨by rw [show mixL (gateL S e) d = mixL (((S.2.1 e).take j).map nI) (mixL ((List.range k).map (gTell S e)) d) by rw [gateL, mixL_app, List.take_of_length_le (by omega), show k = 4 by omega]], rfl⟩
            · first | exact absurd (nI_le (by omega) (by omega)) c2 | exact absurd c2 (nI_le (by omega) (by omega))
          | succ f ih =>
            intro j  hf 
            obtain ⟨i, hgi⟩ := get_some (xs := S.2.1 e) (j := j) (by omega)
            refine g_iload X 3 rfl dX3_mixedInto_31 ?_
            refine g_aload_n X 0 rfl dX3_mixedInto_33 ?_
            refine gg_X3_waiting X (gP_12 (by first | assumption | decide | omega) (by first | assumption | decide | omega)) fX3_12 dX3_mixedInto_34 ?_
            refine gg_X5_size X (gP_13 (by first | assumption | decide | omega) (by first | assumption | decide | omega)) fX3_34 dX3_mixedInto_37 ?_
            refine gG_top (nI (S.2.1 e).length) ((hS.2.1 e (by first | decide | omega)).1) ?_
            refine g_icmp_ge X 63 (by decide) dX3_mixedInto_40 (fun c3 => ?_) (fun c3 => ?_)
            · first | exact absurd (nI_ge (by omega) (by omega)) c3 | exact absurd c3 (nI_ge (by omega) (by omega))
            · refine g_lload_n X 2 rfl dX3_mixedInto_43 ?_
              refine g_aload_n X 0 rfl dX3_mixedInto_44 ?_
              refine gg_X3_waiting X (gP_12 (by first | assumption | decide | omega) (by first | assumption | decide | omega)) fX3_12 dX3_mixedInto_45 ?_
              refine g_iload X 3 rfl dX3_mixedInto_48 ?_
              refine g_callV X hR (rest := [.long (mixL (((S.2.1 e).take j).map nI) (mixL ((List.range k).map (gTell S e)) d))]) mX5_at lX3_45 (k_at hI V b e (S.2.1 e) j (by first | assumption | decide | omega) (by omega) (hS.2.1 e (by omega)) (by omega)) rfl rfl (Nat.le_of_ble_eq_true rfl) (gP_13 (by first | assumption | decide | omega) (by first | assumption | decide | omega)) rfl rfl rfl ⟨Nat.le_of_ble_eq_true rfl, Nat.le_of_ble_eq_true rfl, Nat.le_of_ble_eq_true rfl, Nat.le_of_ble_eq_true rfl⟩ dX3_mixedInto_50 (fun r4 V5 hz_6 => ?_)
              refine gG_ret hz_6.1 hz_6.2 ?_
              refine gG_st [.int (lat (S.2.1 e) j), .long (mixL (((S.2.1 e).take j).map nI) (mixL ((List.range k).map (gTell S e)) d))] rfl ?_
              refine gG_top (nI i) (lat_some hgi) ?_
              refine g_callS X hR (As := [.long (mixL (((S.2.1 e).take j).map nI) (mixL ((List.range k).map (gTell S e)) d)), .int (nI i)]) (rest := []) mX6_mixed lX3_41 (k_mixed hI V (mixL (((S.2.1 e).take j).map nI) (mixL ((List.range k).map (gTell S e)) d)) (nI i) ) rfl rfl (Nat.le_of_ble_eq_true rfl) ⟨Nat.le_of_ble_eq_true rfl, Nat.le_of_ble_eq_true rfl, Nat.le_of_ble_eq_true rfl, Nat.le_of_ble_eq_true rfl⟩ dX3_mixedInto_53 (fun r7 V8 hz_9 => ?_)
              refine gG_ret hz_9.1 hz_9.2 ?_
              refine gG_st [.long (mix1 (mixL (((S.2.1 e).take j).map nI) (mixL ((List.range k).map (gTell S e)) d)) (nI i))] rfl ?_
              refine gG_st [.long (mixL (((S.2.1 e).take (j + 1)).map nI) (mixL ((List.range k).map (gTell S e)) d))] (by rw [show (Value.long (mix1 (mixL (((S.2.1 e).take j).map nI) (mixL ((List.range k).map (gTell S e)) d)) (nI i))) = .long (mixL (((S.2.1 e).take (j + 1)).map nI) (mixL ((List.range k).map (gTell S e)) d)) from congrArg _ ((mixL_take hgi _).symm)]) ?_
              refine g_lstore_n X rfl dX3_mixedInto_56 [(3, .long (mixL (((S.2.1 e).take (j + 1)).map nI) (mixL ((List.range k).map (gTell S e)) d))), (0, .ref (B.2.1 12 b e)), (1, .long d), (5, .int (nI j))] rfl (gnl_lt hnL (by decide)) ?_
              refine g_iinc X 3 rfl (nI (j + 1)) (iinc_1 _) dX3_mixedInto_57 [(5, .int (nI (j + 1))), (3, .long (mixL (((S.2.1 e).take (j + 1)).map nI) (mixL ((List.range k).map (gTell S e)) d))), (0, .ref (B.2.1 12 b e)), (1, .long d)] rfl (gnl_lt hnL (by decide)) ?_
              refine g_goto X 31 (by decide) dX3_mixedInto_60 ?_
              refine gG_L [2, 3, 1, 0] (L' := [(0, .ref (B.2.1 12 b e)), (1, .long d), (3, .long (mixL (((S.2.1 e).take (j + 1)).map nI) (mixL ((List.range k).map (gTell S e)) d))), (5, .int (nI (j + 1)))]) rfl ?_
              refine ih (j + 1) (by omega)
        exact loop2 (S.2.1 e).length 0 (by omega)
      · first | exact absurd (nI_le (a := 4) (by omega) (by omega)) c1 | exact absurd c1 (nI_le (a := 4) (by omega) (by omega))
    | succ f ih =>
      intro k  hf 
      refine g_iload X 3 rfl dX3_mixedInto_5 ?_
      refine g_iconst X 4 (by decide) dX3_mixedInto_7 ?_
      refine g_icmp_ge X 28 (by decide) dX3_mixedInto_8 (fun c10 => ?_) (fun c10 => ?_)
      · first | exact absurd (nI_ge (b := 4) (by omega) (by decide)) c10 | exact absurd c10 (nI_ge (b := 4) (by omega) (by decide))
      · refine g_lload_n X 2 rfl dX3_mixedInto_11 ?_
        refine g_aload_n X 0 rfl dX3_mixedInto_12 ?_
        refine g_iload X 3 rfl dX3_mixedInto_13 ?_
        refine g_callV X hR (rest := [.long (mixL ((List.range k).map (gTell S e)) d)]) mX3_tell lX3_37 (k_gtell hI V b S e k (by first | assumption | decide | omega) hS (by first | assumption | decide | omega) (by omega)) rfl rfl (Nat.le_of_ble_eq_true rfl) (gP_12 (by first | assumption | decide | omega) (by first | assumption | decide | omega)) rfl rfl rfl ⟨Nat.le_of_ble_eq_true rfl, Nat.le_of_ble_eq_true rfl, Nat.le_of_ble_eq_true rfl, Nat.le_of_ble_eq_true rfl⟩ dX3_mixedInto_15 (fun r11 V12 hz_13 => ?_)
        refine gG_ret hz_13.1 hz_13.2 ?_
        refine gG_st [.int (gTell S e k), .long (mixL ((List.range k).map (gTell S e)) d)] rfl ?_
        refine g_callS X hR (As := [.long (mixL ((List.range k).map (gTell S e)) d), .int (gTell S e k)]) (rest := []) mX6_mixed lX3_41 (k_mixed hI V (mixL ((List.range k).map (gTell S e)) d) (gTell S e k) ) rfl rfl (Nat.le_of_ble_eq_true rfl) ⟨Nat.le_of_ble_eq_true rfl, Nat.le_of_ble_eq_true rfl, Nat.le_of_ble_eq_true rfl, Nat.le_of_ble_eq_true rfl⟩ dX3_mixedInto_18 (fun r14 V15 hz_16 => ?_)
        refine gG_ret hz_16.1 hz_16.2 ?_
        refine gG_st [.long (mix1 (mixL ((List.range k).map (gTell S e)) d) (gTell S e k))] rfl ?_
        refine gG_st [.long (mixL ((List.range (k + 1)).map (gTell S e)) d)] (by rw [show (Value.long (mix1 (mixL ((List.range k).map (gTell S e)) d) (gTell S e k))) = .long (mixL ((List.range (k + 1)).map (gTell S e)) d) from congrArg _ ((mixL_range _ _ _).symm)]) ?_
        refine g_lstore_n X rfl dX3_mixedInto_21 [(3, .long (mixL ((List.range (k + 1)).map (gTell S e)) d)), (0, .ref (B.2.1 12 b e)), (1, .long d), (5, .int (nI k))] rfl (gnl_lt hnL (by decide)) ?_
        refine g_iinc X 3 rfl (nI (k + 1)) (iinc_1 _) dX3_mixedInto_22 [(5, .int (nI (k + 1))), (3, .long (mixL ((List.range (k + 1)).map (gTell S e)) d)), (0, .ref (B.2.1 12 b e)), (1, .long d)] rfl (gnl_lt hnL (by decide)) ?_
        refine g_goto X 5 (by decide) dX3_mixedInto_25 ?_
        refine gG_L [2, 3, 1, 0] (L' := [(0, .ref (B.2.1 12 b e)), (1, .long d), (3, .long (mixL ((List.range (k + 1)).map (gTell S e)) d)), (5, .int (nI (k + 1)))]) rfl ?_
        refine ih (k + 1) (by omega)
  exact loop 4 0 (by omega)

abbrev rmX0_mixedInto : Room := { frames := 3, cells := 0, slots := 0, locals := 67 }
set_option maxRecDepth 20000 in
theorem k_bmix {l : Launch} {B : gB} (hI : gI B) (V : gMem) (b : Nat) (S : gSt) (d : Int64) (hb : b < 3) (hS : AbsC V b S) (hn : S.1 6 ≤ 16) (hc : ∀ i, i < S.1 6 → sCartOk S i) (hpl : ∀ i, i < S.1 6 → S.2.2.2.1 i 8 = 1 → S.2.2.2.1 i 9 < S.1 2) : gM l B yX0_mixedInto cX0_mixedInto 8 (some .long) rmX0_mixedInto [.ref (B.2.1 10 b 0), .long d] V (fun v V' => v = some (.long (mixL (cartsL S (S.1 6)) (mixL (gateL S 1) (mixL (gateL S 0) d)))) ∧ V' = V) := by
  refine gM_of (own := RX0) (L := [(0, .ref (B.2.1 10 b 0)), (1, .long d)]) (by decide +kernel) rfl hI (Nat.le_of_ble_eq_true rfl) rfl ?_
  intro Z hnL hR X F
  refine g_aload_n X 0 rfl dX0_mixedInto_0 ?_
  refine gg_X0_secondGate X (gP_10 (by first | assumption | decide | omega)) fX0_37 dX0_mixedInto_1 ?_
  refine g_aload_n X 0 rfl dX0_mixedInto_4 ?_
  refine gg_X0_firstGate X (gP_10 (by first | assumption | decide | omega)) fX0_33 dX0_mixedInto_5 ?_
  refine g_lload_n X 1 rfl dX0_mixedInto_8 ?_
  refine g_callV X hR (rest := [.ref (B.2.1 12 b 1)]) mX3_mixedInto lX0_111 (k_gmix hI V b S 0 d (by first | assumption | decide | omega) hS (by first | assumption | decide | omega)) rfl rfl (Nat.le_of_ble_eq_true rfl) (gP_12 (by first | assumption | decide | omega) (by first | assumption | decide | omega)) rfl rfl rfl ⟨Nat.le_of_ble_eq_true rfl, Nat.le_of_ble_eq_true rfl, Nat.le_of_ble_eq_true rfl, Nat.le_of_ble_eq_true rfl⟩ dX0_mixedInto_9 (fun r1 V2 hz_3 => ?_)
  refine gG_ret hz_3.1 hz_3.2 ?_
  refine gG_st [.long (mixL (gateL S 0) d), .ref (B.2.1 12 b 1)] rfl ?_
  refine g_callV X hR (rest := []) mX3_mixedInto lX0_111 (k_gmix hI V b S 1 (mixL (gateL S 0) d) (by first | assumption | decide | omega) hS (by first | assumption | decide | omega)) rfl rfl (Nat.le_of_ble_eq_true rfl) (gP_12 (by first | assumption | decide | omega) (by first | assumption | decide | omega)) rfl rfl rfl ⟨Nat.le_of_ble_eq_true rfl, Nat.le_of_ble_eq_true rfl, Nat.le_of_ble_eq_true rfl, Nat.le_of_ble_eq_true rfl⟩ dX0_mixedInto_12 (fun r4 V5 hz_6 => ?_)
  refine gG_ret hz_6.1 hz_6.2 ?_
  refine gG_st [.long (mixL (gateL S 1) (mixL (gateL S 0) d))] rfl ?_
  refine g_lstore_n X rfl dX0_mixedInto_15 [(3, .long (mixL (gateL S 1) (mixL (gateL S 0) d))), (0, .ref (B.2.1 10 b 0)), (1, .long d)] rfl (gnl_lt hnL (by decide)) ?_
  refine g_iconst X 0 (by decide) dX0_mixedInto_16 ?_
  refine g_istore X dX0_mixedInto_17 [(5, .int 0), (3, .long (mixL (gateL S 1) (mixL (gateL S 0) d))), (0, .ref (B.2.1 10 b 0)), (1, .long d)] rfl (gnl_lt hnL (by decide)) ?_
  refine gG_L [2, 3, 1, 0] (L' := [(0, .ref (B.2.1 10 b 0)), (1, .long d), (3, .long (mixL (gateL S 1) (mixL (gateL S 0) d))), (5, .int 0)]) rfl ?_
  refine gG_Le [(0, .ref (B.2.1 10 b 0)), (1, .long d), (3, .long (mixL (cartsL S 0) (mixL (gateL S 1) (mixL (gateL S 0) d)))), (5, .int (nI 0))] (by rw [cartsL_0]; rfl) ?_
  have loop : ∀ (f : Nat) (i : Nat) , i + f = S.1 6 →  gG Z B (0, 0) V 19 [(0, .ref (B.2.1 10 b 0)), (1, .long d), (3, .long (mixL (cartsL S i) (mixL (gateL S 1) (mixL (gateL S 0) d)))), (5, .int (nI i))] [] := by
    intro f
    induction f with
    | zero =>
      intro i  hf 
      refine g_iload X 3 rfl dX0_mixedInto_19 ?_
      refine g_aload_n X 0 rfl dX0_mixedInto_21 ?_
      refine gg_X0_cartCount X (gP_10 (by first | assumption | decide | omega)) fX0_50 dX0_mixedInto_22 ?_
      refine gG_top (nI (S.1 6)) (hS.1 6 (by decide)) ?_
      refine g_icmp_ge X 76 (by decide) dX0_mixedInto_25 (fun c7 => ?_) (fun c7 => ?_)
      · refine g_lload_n X 2 rfl dX0_mixedInto_76 ?_
        refine g_lret X F ?_ rfl dX0_mixedInto_77
        exact ⟨by rw [show i = S.1 6 by omega], rfl⟩
      · first | exact absurd (nI_le (by omega) (by omega)) c7 | exact absurd c7 (nI_le (by omega) (by omega))
    | succ f ih =>
      intro i  hf 
      have hiN : i < S.1 6 := by omega
      have hci := hc i hiN
      refine g_iload X 3 rfl dX0_mixedInto_19 ?_
      refine g_aload_n X 0 rfl dX0_mixedInto_21 ?_
      refine gg_X0_cartCount X (gP_10 (by first | assumption | decide | omega)) fX0_50 dX0_mixedInto_22 ?_
      refine gG_top (nI (S.1 6)) (hS.1 6 (by decide)) ?_
      refine g_icmp_ge X 76 (by decide) dX0_mixedInto_25 (fun c8 => ?_) (fun c8 => ?_)
      · first | exact absurd (nI_ge (by omega) (by omega)) c8 | exact absurd c8 (nI_ge (by omega) (by omega))
      · refine g_aload_n X 0 rfl dX0_mixedInto_28 ?_
        refine g_iload X 3 rfl dX0_mixedInto_29 ?_
        refine g_callV X hR (rest := []) mX0_cartAt lX0_57 (k_cartAt hI V b S i (by first | assumption | decide | omega) hS (by first | assumption | decide | omega) hiN) rfl rfl (Nat.le_of_ble_eq_true rfl) (gP_10 (by first | assumption | decide | omega)) rfl rfl rfl ⟨Nat.le_of_ble_eq_true rfl, Nat.le_of_ble_eq_true rfl, Nat.le_of_ble_eq_true rfl, Nat.le_of_ble_eq_true rfl⟩ dX0_mixedInto_31 (fun r9 V10 hz_11 => ?_)
        refine gG_ret hz_11.1 hz_11.2 ?_
        refine gG_st [.ref (B.2.1 15 b i)] rfl ?_
        refine g_astore X dX0_mixedInto_34 [(6, .ref (B.2.1 15 b i)), (0, .ref (B.2.1 10 b 0)), (1, .long d), (3, .long (mixL (cartsL S i) (mixL (gateL S 1) (mixL (gateL S 0) d)))), (5, .int (nI i))] rfl (gnl_lt hnL (by decide)) ?_
        refine g_iconst X 0 (by decide) dX0_mixedInto_36 ?_
        refine g_istore X dX0_mixedInto_37 [(7, .int 0), (6, .ref (B.2.1 15 b i)), (0, .ref (B.2.1 10 b 0)), (1, .long d), (3, .long (mixL (cartsL S i) (mixL (gateL S 1) (mixL (gateL S 0) d)))), (5, .int (nI i))] rfl (gnl_lt hnL (by decide)) ?_
        refine gG_L [2, 3, 4, 5, 1, 0] (L' := [(0, .ref (B.2.1 10 b 0)), (1, .long d), (3, .long (mixL (cartsL S i) (mixL (gateL S 1) (mixL (gateL S 0) d)))), (5, .int (nI i)), (6, .ref (B.2.1 15 b i)), (7, .int 0)]) rfl ?_
        refine gG_Le [(0, .ref (B.2.1 10 b 0)), (1, .long d), (3, .long (mixL ((List.range 0).map (sTell S i)) (mixL (cartsL S i) (mixL (gateL S 1) (mixL (gateL S 0) d))))), (5, .int (nI i)), (6, .ref (B.2.1 15 b i)), (7, .int (nI 0))] (by rw [mixL_0]; rfl) ?_
        have loop2 : ∀ (f : Nat) (k : Nat) , k + f = 9 →  gG Z B (0, 0) V 39 [(0, .ref (B.2.1 10 b 0)), (1, .long d), (3, .long (mixL ((List.range k).map (sTell S i)) (mixL (cartsL S i) (mixL (gateL S 1) (mixL (gateL S 0) d))))), (5, .int (nI i)), (6, .ref (B.2.1 15 b i)), (7, .int (nI k))] [] := by
          intro f
          induction f with
          | zero =>
            intro k  hf 
            refine g_aload X 4 rfl dX0_mixedInto_39 ?_
            refine g_ifnull X dX0_mixedInto_41 ?_
            refine g_iload X 5 rfl dX0_mixedInto_44 ?_
            refine g_bipush X 9 (by decide) dX0_mixedInto_46 ?_
            refine g_icmp_ge X 70 (by decide) dX0_mixedInto_48 (fun c12 => ?_) (fun c12 => ?_)
            · refine gG_L [0, 1, 2, 3] (L' := [(0, .ref (B.2.1 10 b 0)), (1, .long d), (3, .long (mixL ((List.range k).map (sTell S i)) (mixL (cartsL S i) (mixL (gateL S 1) (mixL (gateL S 0) d))))), (5, .int (nI i))]) rfl ?_
              refine gG_Le [(0, .ref (B.2.1 10 b 0)), (1, .long d), (3, .long (mixL (cartsL S (i + 1)) (mixL (gateL S 1) (mixL (gateL S 0) d)))), (5, .int (nI i))] (by rw [cartsL_succ, mixL_app, show k = 9 by omega]; rfl) ?_
              refine g_iinc X 3 rfl (nI (i + 1)) (iinc_1 _) dX0_mixedInto_70 [(5, .int (nI (i + 1))), (0, .ref (B.2.1 10 b 0)), (1, .long d), (3, .long (mixL (cartsL S (i + 1)) (mixL (gateL S 1) (mixL (gateL S 0) d))))] rfl (gnl_lt hnL (by decide)) ?_
              refine g_goto X 19 (by decide) dX0_mixedInto_73 ?_
              refine gG_L [1, 2, 3, 0] (L' := [(0, .ref (B.2.1 10 b 0)), (1, .long d), (3, .long (mixL (cartsL S (i + 1)) (mixL (gateL S 1) (mixL (gateL S 0) d)))), (5, .int (nI (i + 1)))]) rfl ?_
              refine ih (i + 1) (by omega)
            · first | exact absurd (nI_le (a := 9) (by omega) (by omega)) c12 | exact absurd c12 (nI_le (a := 9) (by omega) (by omega))
          | succ f ih =>
            intro k  hf 
            refine g_aload X 4 rfl dX0_mixedInto_39 ?_
            refine g_ifnull X dX0_mixedInto_41 ?_
            refine g_iload X 5 rfl dX0_mixedInto_44 ?_
            refine g_bipush X 9 (by decide) dX0_mixedInto_46 ?_
            refine g_icmp_ge X 70 (by decide) dX0_mixedInto_48 (fun c13 => ?_) (fun c13 => ?_)
            · first | exact absurd (nI_ge (b := 9) (by omega) (by decide)) c13 | exact absurd c13 (nI_ge (b := 9) (by omega) (by decide))
            · refine g_lload_n X 2 rfl dX0_mixedInto_51 ?_
              refine g_aload_n X 0 rfl dX0_mixedInto_52 ?_
              refine g_aload X 4 rfl dX0_mixedInto_53 ?_
              refine g_iload X 5 rfl dX0_mixedInto_55 ?_
              refine g_callV X hR (rest := [.long (mixL ((List.range k).map (sTell S i)) (mixL (cartsL S i) (mixL (gateL S 1) (mixL (gateL S 0) d))))]) mX0_tellCart lX0_115 (k_tellCart hI V b S i k (by first | assumption | decide | omega) hS (by first | assumption | decide | omega) hiN hci (hpl i hiN) (by omega)) rfl rfl (Nat.le_of_ble_eq_true rfl) (gP_10 (by first | assumption | decide | omega)) rfl rfl rfl ⟨Nat.le_of_ble_eq_true rfl, Nat.le_of_ble_eq_true rfl, Nat.le_of_ble_eq_true rfl, Nat.le_of_ble_eq_true rfl⟩ dX0_mixedInto_57 (fun r14 V15 hz_16 => ?_)
              refine gG_ret hz_16.1 hz_16.2 ?_
              refine gG_st [.int (sTell S i k), .long (mixL ((List.range k).map (sTell S i)) (mixL (cartsL S i) (mixL (gateL S 1) (mixL (gateL S 0) d))))] rfl ?_
              refine g_callS X hR (As := [.long (mixL ((List.range k).map (sTell S i)) (mixL (cartsL S i) (mixL (gateL S 1) (mixL (gateL S 0) d)))), .int (sTell S i k)]) (rest := []) mX6_mixed lX0_119 (k_mixed hI V (mixL ((List.range k).map (sTell S i)) (mixL (cartsL S i) (mixL (gateL S 1) (mixL (gateL S 0) d)))) (sTell S i k) ) rfl rfl (Nat.le_of_ble_eq_true rfl) ⟨Nat.le_of_ble_eq_true rfl, Nat.le_of_ble_eq_true rfl, Nat.le_of_ble_eq_true rfl, Nat.le_of_ble_eq_true rfl⟩ dX0_mixedInto_60 (fun r17 V18 hz_19 => ?_)
              refine gG_ret hz_19.1 hz_19.2 ?_
              refine gG_st [.long (mix1 (mixL ((List.range k).map (sTell S i)) (mixL (cartsL S i) (mixL (gateL S 1) (mixL (gateL S 0) d)))) (sTell S i k))] rfl ?_
              refine gG_st [.long (mixL ((List.range (k + 1)).map (sTell S i)) (mixL (cartsL S i) (mixL (gateL S 1) (mixL (gateL S 0) d))))] (by rw [show (Value.long (mix1 (mixL ((List.range k).map (sTell S i)) (mixL (cartsL S i) (mixL (gateL S 1) (mixL (gateL S 0) d)))) (sTell S i k))) = .long (mixL ((List.range (k + 1)).map (sTell S i)) (mixL (cartsL S i) (mixL (gateL S 1) (mixL (gateL S 0) d)))) from congrArg _ ((mixL_range _ _ _).symm)]) ?_
              refine g_lstore_n X rfl dX0_mixedInto_63 [(3, .long (mixL ((List.range (k + 1)).map (sTell S i)) (mixL (cartsL S i) (mixL (gateL S 1) (mixL (gateL S 0) d))))), (0, .ref (B.2.1 10 b 0)), (1, .long d), (5, .int (nI i)), (6, .ref (B.2.1 15 b i)), (7, .int (nI k))] rfl (gnl_lt hnL (by decide)) ?_
              refine g_iinc X 5 rfl (nI (k + 1)) (iinc_1 _) dX0_mixedInto_64 [(7, .int (nI (k + 1))), (3, .long (mixL ((List.range (k + 1)).map (sTell S i)) (mixL (cartsL S i) (mixL (gateL S 1) (mixL (gateL S 0) d))))), (0, .ref (B.2.1 10 b 0)), (1, .long d), (5, .int (nI i)), (6, .ref (B.2.1 15 b i))] rfl (gnl_lt hnL (by decide)) ?_
              refine g_goto X 39 (by decide) dX0_mixedInto_67 ?_
              refine gG_L [2, 3, 1, 4, 5, 0] (L' := [(0, .ref (B.2.1 10 b 0)), (1, .long d), (3, .long (mixL ((List.range (k + 1)).map (sTell S i)) (mixL (cartsL S i) (mixL (gateL S 1) (mixL (gateL S 0) d))))), (5, .int (nI i)), (6, .ref (B.2.1 15 b i)), (7, .int (nI (k + 1)))]) rfl ?_
              refine ih (k + 1) (by omega)
        exact loop2 9 0 (by omega)
  exact loop (S.1 6) 0 (by omega)

abbrev rmX0_newCart : Room := { frames := 2, cells := 0, slots := 0, locals := 42 }
set_option maxRecDepth 20000 in
theorem k_newCart {l : Launch} {B : gB} (hI : gI B) (V : gMem) (b : Nat) (S : gSt) (hb : b < 3) (hS : AbsC V b S) (hn : S.1 6 < 16) : gM l B yX0_newCart cX0_newCart 1 (some (.object "FogBridge$Cart")) rmX0_newCart [.ref (B.2.1 10 b 0)] V (fun v V' => v = some (.ref (B.2.1 15 b (S.1 6))) ∧ V' = gup V 10 b 0 6 (nI (S.1 6 + 1))) := by
  refine gM_of (own := RX0) (L := [(0, .ref (B.2.1 10 b 0))]) (by decide +kernel) rfl hI (Nat.le_of_ble_eq_true rfl) rfl ?_
  intro Z hnL hR X F
  refine g_aload_n X 0 rfl dX0_newCart_0 ?_
  refine gg_X0_cartCount X (gP_10 (by first | assumption | decide | omega)) fX0_50 dX0_newCart_1 ?_
  refine gG_top (nI (S.1 6)) (hS.1 6 (by decide)) ?_
  refine g_aload_n X 0 rfl dX0_newCart_4 ?_
  refine gg_X0_carts X (gP_10 (by first | assumption | decide | omega)) fX0_26 dX0_newCart_5 ?_
  refine g_alenC X (by first | assumption | decide | omega) dX0_newCart_8 ?_
  refine g_icmp_lt X 14 (by decide) dX0_newCart_9 (fun c1 => ?_) (fun c1 => ?_)
  · refine g_aload_n X 0 rfl dX0_newCart_14 ?_
    refine g_dup X rfl dX0_newCart_15 ?_
    refine gg_X0_cartCount X (gP_10 (by first | assumption | decide | omega)) fX0_50 dX0_newCart_16 ?_
    refine gG_top (nI (S.1 6)) (hS.1 6 (by decide)) ?_
    refine g_iconst X 1 (by decide) dX0_newCart_19 ?_
    refine g_iadd X dX0_newCart_20 ?_
    refine gG_top (nI ((S.1 6) + 1)) (nI_1 _) ?_
    refine gp_X0_cartCount X (gP_10 (by first | assumption | decide | omega)) fX0_50 dX0_newCart_21 ?_
    refine gG_nm (fun V2 hV2 => ?_)
    refine g_aload_n X 0 rfl dX0_newCart_24 ?_
    refine g_aload_n X 0 rfl dX0_newCart_25 ?_
    refine gg_X0_cartCount X (gP_10 (by first | assumption | decide | omega)) fX0_50 dX0_newCart_26 ?_
    refine gG_top (nI (S.1 6 + 1)) (by rw [hV2]; exact gup_eq) ?_
    refine g_iconst X 1 (by decide) dX0_newCart_29 ?_
    refine g_isub X dX0_newCart_30 ?_
    refine gG_top (nI (S.1 6)) (nI_pred _) ?_
    refine g_callV X hR (rest := []) mX0_cartAt lX0_57 (k_cartAtN hI V2 b (S.1 6 + 1) (S.1 6) (by first | assumption | decide | omega) (by rw [hV2]; exact gup_eq) (by omega) (by omega)) rfl rfl (Nat.le_of_ble_eq_true rfl) (gP_10 (by first | assumption | decide | omega)) rfl rfl rfl ⟨Nat.le_of_ble_eq_true rfl, Nat.le_of_ble_eq_true rfl, Nat.le_of_ble_eq_true rfl, Nat.le_of_ble_eq_true rfl⟩ dX0_newCart_31 (fun r3 V4 hz_5 => ?_)
    refine gG_ret hz_5.1 hz_5.2 ?_
    refine gG_st [.ref (B.2.1 15 b (S.1 6))] rfl ?_
    refine g_aret X F (Or.inr ⟨_, rfl⟩) ?_ rfl dX0_newCart_34
    exact ⟨rfl, hV2⟩
  · first | exact absurd (nI_lt (b := 16) hn (by decide)) c1 | exact absurd c1 (nI_lt (b := 16) hn (by decide))

set_option maxRecDepth 20000 in
theorem k_newCart16 {l : Launch} {B : gB} (hI : gI B) (V : gMem) (b : Nat) (S : gSt) (hb : b < 3) (hS : AbsC V b S) (hn : S.1 6 = 16) : gM l B yX0_newCart cX0_newCart 1 (some (.object "FogBridge$Cart")) rmX0_newCart [.ref (B.2.1 10 b 0)] V (fun v V' => v = some .null ∧ V' = V) := by
  refine gM_of (own := RX0) (L := [(0, .ref (B.2.1 10 b 0))]) (by decide +kernel) rfl hI (Nat.le_of_ble_eq_true rfl) rfl ?_
  intro Z hnL hR X F
  refine g_aload_n X 0 rfl dX0_newCart_0 ?_
  refine gg_X0_cartCount X (gP_10 (by first | assumption | decide | omega)) fX0_50 dX0_newCart_1 ?_
  refine gG_top (nI (S.1 6)) (hS.1 6 (by decide)) ?_
  refine g_aload_n X 0 rfl dX0_newCart_4 ?_
  refine gg_X0_carts X (gP_10 (by first | assumption | decide | omega)) fX0_26 dX0_newCart_5 ?_
  refine g_alenC X (by first | assumption | decide | omega) dX0_newCart_8 ?_
  refine g_icmp_lt X 14 (by decide) dX0_newCart_9 (fun c1 => ?_) (fun c1 => ?_)
  · first | exact absurd (nI_nlt (a := S.1 6) (b := 16) (by omega) (by omega)) c1 | exact absurd c1 (nI_nlt (a := S.1 6) (b := 16) (by omega) (by omega))
  · refine g_null X dX0_newCart_12 ?_
    refine g_aret X F (Or.inl rfl) ?_ rfl dX0_newCart_13
    exact ⟨rfl, rfl⟩
end
section
/-! rows of whole, of the class (30.sel) -/
theorem WF.on {S : gSt} (h : WF S) {i : Nat} (hi : i < S.1 6) (h8 : S.2.2.2.1 i 8 = 1) : i ∈ S.2.1 2 := (h.2.2.2.2.1 i).mpr ⟨hi, h8⟩
theorem sCome_no {S : gSt} {i : Nat} {ys : List Nat} (hq : S.2.1 (S.1 1) = i :: ys) (h : sRoom S i = false) : sCome S = S := by
  unfold sCome
  rw [hq]
  simp only []
  rw [if_neg (by rw [h]; decide)]
theorem sCome_nil {S : gSt} (hq : S.2.1 (S.1 1) = []) : sCome S = S := by
  unfold sCome
  rw [hq]
theorem cntF_congr {f g : Nat → Bool} : ∀ n, (∀ i, i < n → f i = g i) → cntF f n = cntF g n
  | 0, _ => rfl
  | n + 1, h => by
    unfold cntF
    rw [cntF_congr n (fun i hi => h i (by omega)), h n (by omega)]
theorem cntF_set {f g : Nat → Bool} {i : Nat} (h0 : f i = false) (h1 : g i = true) (hs : ∀ j, j ≠ i → g j = f j) : ∀ n, i < n → cntF g n = cntF f n + 1
  | 0, h => by omega
  | n + 1, h => by
    unfold cntF
    by_cases hn : i = n
    · subst hn
      rw [cntF_congr i (fun j hj => hs j (by omega)), h0, h1]
      simp
    · rw [cntF_set h0 h1 hs n (by omega), hs n (fun q => hn q.symm)]
      omega
theorem goOnL_cnt (pl tk n : Nat) : ∀ (is : List Nat) (lim : Nat) (S : gSt), is.Nodup → (∀ i ∈ is, i < n ∧ S.2.2.2.1 i 8 = 1) → cntF (fun i => decide ((goOnL pl tk is lim S).1.2.2.2.1 i 8 = 2)) n = cntF (fun i => decide (S.2.2.2.1 i 8 = 2)) n + (goOnL pl tk is lim S).2 := by
  intro is
  induction is with
  | nil => intro lim S _ _; rfl
  | cons i is ih =>
    intro lim S hn hm
    rw [List.nodup_cons] at hn
    obtain ⟨hi, h8⟩ := hm i List.mem_cons_self
    unfold goOnL
    split
    · rw [ih _ _ hn.2 (fun j hj => ⟨(hm j (List.mem_cons_of_mem _ hj)).1, by rw [← (hm j (List.mem_cons_of_mem _ hj)).2]; simp [sC]⟩)]
      congr 1
      exact cntF_congr n (fun j _ => by simp [sC])
    · show cntF (fun j => decide ((goOnL pl tk is lim (sO (sC S i 8 2) i (nI tk))).1.2.2.2.1 j 8 = 2)) n = _ + ((goOnL pl tk is lim (sO (sC S i 8 2) i (nI tk))).2 + 1)
      rw [ih _ _ hn.2 (fun j hj => by
        have hji : j ≠ i := fun q => hn.1 (q ▸ hj)
        exact ⟨(hm j (List.mem_cons_of_mem _ hj)).1, by rw [← (hm j (List.mem_cons_of_mem _ hj)).2]; simp [sO, sC, hji]⟩)]
      rw [cntF_set (f := fun j => decide (S.2.2.2.1 j 8 = 2)) (g := fun j => decide ((sO (sC S i 8 2) i (nI tk)).2.2.2.1 j 8 = 2)) (i := i) (by simp [h8]) (by simp [sO, sC]) (fun j hj => by simp [sO, sC, hj]) n hi]
      omega
theorem sLeave_eq (S : gSt) (l : Nat) (ys : List Nat) : sLeave S l ys = sQ (sQ (sC S l 8 0) (S.2.2.2.1 l 1) (l :: S.2.1 (S.2.2.2.1 l 1))) 2 ys := by
  have h : (sC S l 8 0).2.2.2.1 l 1 = S.2.2.2.1 l 1 := by simp [sC]
  unfold sLeave
  simp only [h]
  rfl
theorem goBack_st {S : gSt} (h : WF S) (i : Nat) : (sGoBack S).2.2.2.1 i 8 = 2 ↔ S.2.2.2.1 i 8 = 2 := by
  rcases List.eq_nil_or_concat (S.2.1 2) with hq | ⟨ys, l, hq⟩
  · unfold sGoBack
    rw [hq]
    exact Iff.rfl
  · have hq : S.2.1 2 = ys ++ [l] := hq.trans (List.concat_eq_append ..)
    have hrev : (S.2.1 2).reverse = l :: ys.reverse := by rw [hq]; simp
    have hl8 : S.2.2.2.1 l 8 = 1 := ((h.2.2.2.2.1 l).mp (by rw [hq]; simp)).2
    have hn := nodup_rev h.ne
    rw [hrev] at hn
    unfold sGoBack
    rw [hrev]
    simp only []
    split
    · rw [(backL_spec ys.reverse _ (List.nodup_cons.mp hn).2).2.2.2.2.1 i 8 (by decide), sLeave_eq]
      show (if i = l ∧ 8 = 8 then 0 else S.2.2.2.1 i 8) = 2 ↔ _
      by_cases hi : i = l
      · subst hi; simp [hl8]
      · simp [hi]
    · rw [(backL_spec (l :: ys.reverse) S hn).2.2.2.2.1 i 8 (by decide)]
theorem come_st {S : gSt} (h : WF S) (i : Nat) : (sCome S).2.2.2.1 i 8 = 2 ↔ S.2.2.2.1 i 8 = 2 := by
  cases hq : S.2.1 (S.1 1) with
  | nil => rw [sCome_nil hq]
  | cons c ys =>
    have hc8 : S.2.2.2.1 c 8 = 0 := (h.qmem (e := S.1 1) (by have := h.1.1; omega) (by rw [hq]; exact List.mem_cons_self)).2.1
    by_cases hroom : sRoom S c = true
    · rw [sCome_eq hq hroom]
      split
      · show (if i = c ∧ 8 = 8 then 3 else S.2.2.2.1 i 8) = 2 ↔ _
        by_cases hi : i = c
        · subst hi; simp [hc8]
        · simp [hi]
      · show (if i = c ∧ 8 = 9 then 0 else if i = c ∧ 8 = 8 then 1 else (if (sQ S (S.1 1) ys).2.2.2.1 c 7 = 0 then sPay (sQ S (S.1 1) ys) (S.1 1) c else sQ S (S.1 1) ys).2.2.2.1 i 8) = 2 ↔ _
        by_cases hi : i = c
        · subst hi; simp [hc8]
        · rw [if_neg (by omega), if_neg (by omega)]
          split
          · rw [(sPay_c (sQ S (S.1 1) ys) (S.1 1) c).1 i 8 (by decide) (by decide)]; rfl
          · rfl
    · rw [sCome_no hq (by simpa using hroom)]
theorem cntS_congr {S T : gSt} (h6 : T.1 6 = S.1 6) (h : ∀ i, T.2.2.2.1 i 8 = 2 ↔ S.2.2.2.1 i 8 = 2) : sCnt T 2 = sCnt S 2 := by
  unfold sCnt
  rw [h6]
  exact cntF_congr _ (fun i _ => by simp [h i])
theorem move_cnt {S : gSt} (h : WF S) : sCnt (sMove S).1 2 = sCnt S 2 + (sMove S).2 := by
  unfold sMove
  split
  · rfl
  · split
    · show cntF (fun i => decide ((goOnL (S.1 2) (S.1 0) (S.2.1 2) (S.1 2 + 4) S).1.2.2.2.1 i 8 = 2)) ((goOnL (S.1 2) (S.1 0) (S.2.1 2) (S.1 2 + 4) S).1.1 6) = _
      rw [(goOnL_same _ _ _ _ S).1]
      exact goOnL_cnt _ _ _ _ _ _ h.ne (fun i hi => (h.2.2.2.2.1 i).mp hi)
    · exact cntS_congr (by rw [sGoBack_num S h]) (goBack_st h)
theorem tick_cnt {S : gSt} (h : WF S) : sCnt (sTick S).1 2 = sCnt S 2 + (sMove S).2 := by
  rw [← move_cnt h]
  refine (cntS_congr (S := sCome (sMove S).1) (T := (sTick S).1) rfl (fun i => Iff.rfl)).trans (cntS_congr ?_ (come_st h.move))
  rw [sCome_num]
def nOk (n : Nat) : Bool := if h : n = 0 then true else (decide (n % 10 = 1) || decide (n % 10 = 2)) && nOk (n / 10)
termination_by n
decreasing_by exact Nat.div_lt_self (Nat.pos_of_ne_zero h) (by decide)
abbrev gCd : Type := Nat × (Nat → Nat)
def CodeC (V : gMem) (c : gCd) : Prop := V 1 0 0 2 = nI c.1 ∧ ∀ k, k < c.1 → V 2 0 0 k = nI (c.2 k)
def CodeOk (c : gCd) : Prop := c.1 ≤ 8 ∧ ∀ k, k < c.1 → nOk (c.2 k) = true ∧ c.2 k < 10 ^ 6 ∧ 0 < c.2 k
abbrev rmX2_ringsOf : Room := { frames := 1, cells := 0, slots := 0, locals := 21 }
set_option maxRecDepth 20000 in
theorem k_ringsOf {l : Launch} {B : gB} (hI : gI B) (V : gMem) (c : gCd) (k : Nat) (hC : CodeC V c) (hk : CodeOk c) (hkn : k < c.1) : gM l B yX2_ringsOf cX2_ringsOf 2 (some .int) rmX2_ringsOf [.ref (B.2.1 1 0 0), .int (nI k)] V (fun v V' => v = some (.int (nI (c.2 k))) ∧ V' = V) := by
  refine gM_of (own := RX2) (L := [(0, .ref (B.2.1 1 0 0)), (1, .int (nI k))]) (by decide +kernel) rfl hI (Nat.le_of_ble_eq_true rfl) rfl ?_
  intro Z hnL hR X F
  have h8 : k < 8 := by have := hk.1; omega
  refine g_iload_n X 1 rfl dX2_ringsOf_0 ?_
  refine g_aload_n X 0 rfl dX2_ringsOf_1 ?_
  refine gg_X2_signals X ⟨by decide, by decide⟩ fX2_9 dX2_ringsOf_2 ?_
  refine g_alen X (v := 8) ⟨by decide, by decide⟩ rfl (by decide) dX2_ringsOf_5 ?_
  refine g_callS X hR (As := [.int (nI k), .int 8]) (rest := []) mX6_isIndex lX2_32 (k_isIndex1 hI V (nI k) 8 (nI_pos' (by omega)) (nI_lt (b := 8) (by have := hk.1; omega) (by decide))) rfl rfl (Nat.le_of_ble_eq_true rfl) ⟨Nat.le_of_ble_eq_true rfl, Nat.le_of_ble_eq_true rfl, Nat.le_of_ble_eq_true rfl, Nat.le_of_ble_eq_true rfl⟩ dX2_ringsOf_6 (fun r1 V2 hz_3 => ?_)
  refine gG_ret hz_3.1 hz_3.2 ?_
  refine gG_st [.int 1] rfl ?_
  refine g_if_eq X 21 (by decide) dX2_ringsOf_9 (fun c4 => ?_) (fun c4 => ?_)
  ·  exact absurd c4 (by decide)
  · refine g_aload_n X 0 rfl dX2_ringsOf_12 ?_
    refine gg_X2_signals X ⟨by decide, by decide⟩ fX2_9 dX2_ringsOf_13 ?_
    refine g_iload_n X 1 rfl dX2_ringsOf_16 ?_
    refine g_ialdN X (k) rfl (by omega) (by decide) ⟨by decide, by decide⟩ rfl dX2_ringsOf_17 ?_
    refine gG_top (nI (c.2 k)) (hC.2 k hkn) ?_
    refine g_goto X 22 (by decide) dX2_ringsOf_18 ?_
    refine g_iret X F ?_ rfl dX2_ringsOf_22
    exact ⟨rfl, rfl⟩
abbrev rmX2_mixedInto : Room := { frames := 2, cells := 0, slots := 0, locals := 42 }
set_option maxRecDepth 20000 in
theorem k_cmix {l : Launch} {B : gB} (hI : gI B) (V : gMem) (c : gCd) (d : Int64) (hC : CodeC V c) (hk : CodeOk c) : gM l B yX2_mixedInto cX2_mixedInto 6 (some .long) rmX2_mixedInto [.ref (B.2.1 1 0 0), .long d] V (fun v V' => v = some (.long (mixL ((List.range c.1).map (fun j => nI (c.2 j))) d)) ∧ V' = V) := by
  refine gM_of (own := RX2) (L := [(0, .ref (B.2.1 1 0 0)), (1, .long d)]) (by decide +kernel) rfl hI (Nat.le_of_ble_eq_true rfl) rfl ?_
  intro Z hnL hR X F
  have h8 : c.1 ≤ 8 := hk.1
  refine g_lload_n X 1 rfl dX2_mixedInto_0 ?_
  refine g_lstore_n X rfl dX2_mixedInto_1 [(3, .long d), (0, .ref (B.2.1 1 0 0)), (1, .long d)] rfl (gnl_lt hnL (by decide)) ?_
  refine g_iconst X 0 (by decide) dX2_mixedInto_2 ?_
  refine g_istore X dX2_mixedInto_3 [(5, .int 0), (3, .long d), (0, .ref (B.2.1 1 0 0)), (1, .long d)] rfl (gnl_lt hnL (by decide)) ?_
  refine gG_L [2, 3, 1, 0] (L' := [(0, .ref (B.2.1 1 0 0)), (1, .long d), (3, .long d), (5, .int 0)]) rfl ?_
  have loop : ∀ (f : Nat) (k : Nat) , k + f = c.1 →  gG Z B (0, 0) V 5 [(0, .ref (B.2.1 1 0 0)), (1, .long d), (3, .long (mixL ((List.range k).map (fun j => nI (c.2 j))) d)), (5, .int (nI k))] [] := by
    intro f
    induction f with
    | zero =>
      intro k  hf 
      refine g_iload X 3 rfl dX2_mixedInto_5 ?_
      refine g_aload_n X 0 rfl dX2_mixedInto_7 ?_
      refine gg_X2_size X ⟨by decide, by decide⟩ fX2_18 dX2_mixedInto_8 ?_
      refine gG_top (nI c.1) (hC.1) ?_
      refine g_icmp_ge X 31 (by decide) dX2_mixedInto_11 (fun c1 => ?_) (fun c1 => ?_)
      · refine g_lload_n X 2 rfl dX2_mixedInto_31 ?_
        refine g_lret X F ?_ rfl dX2_mixedInto_32
        exact ⟨by rw [show k = c.1 by omega], rfl⟩
      · first | exact absurd (nI_le (by omega) (by omega)) c1 | exact absurd c1 (nI_le (by omega) (by omega))
    | succ f ih =>
      intro k  hf 
      refine g_iload X 3 rfl dX2_mixedInto_5 ?_
      refine g_aload_n X 0 rfl dX2_mixedInto_7 ?_
      refine gg_X2_size X ⟨by decide, by decide⟩ fX2_18 dX2_mixedInto_8 ?_
      refine gG_top (nI c.1) (hC.1) ?_
      refine g_icmp_ge X 31 (by decide) dX2_mixedInto_11 (fun c2 => ?_) (fun c2 => ?_)
      · first | exact absurd (nI_ge (by omega) (by omega)) c2 | exact absurd c2 (nI_ge (by omega) (by omega))
      · refine g_lload_n X 2 rfl dX2_mixedInto_14 ?_
        refine g_aload_n X 0 rfl dX2_mixedInto_15 ?_
        refine g_iload X 3 rfl dX2_mixedInto_16 ?_
        refine g_callV X hR (rest := [.long (mixL ((List.range k).map (fun j => nI (c.2 j))) d)]) mX2_ringsOf lX2_22 (k_ringsOf hI V c k (by first | assumption | decide | omega) (by first | assumption | decide | omega) (by first | assumption | decide | omega)) rfl rfl (Nat.le_of_ble_eq_true rfl) ⟨by decide, by decide⟩ rfl rfl rfl ⟨Nat.le_of_ble_eq_true rfl, Nat.le_of_ble_eq_true rfl, Nat.le_of_ble_eq_true rfl, Nat.le_of_ble_eq_true rfl⟩ dX2_mixedInto_18 (fun r3 V4 hz_5 => ?_)
        refine gG_ret hz_5.1 hz_5.2 ?_
        refine gG_st [.int (nI (c.2 k)), .long (mixL ((List.range k).map (fun j => nI (c.2 j))) d)] rfl ?_
        refine g_callS X hR (As := [.long (mixL ((List.range k).map (fun j => nI (c.2 j))) d), .int (nI (c.2 k))]) (rest := []) mX6_mixed lX2_54 (k_mixed hI V (mixL ((List.range k).map (fun j => nI (c.2 j))) d) (nI (c.2 k)) ) rfl rfl (Nat.le_of_ble_eq_true rfl) ⟨Nat.le_of_ble_eq_true rfl, Nat.le_of_ble_eq_true rfl, Nat.le_of_ble_eq_true rfl, Nat.le_of_ble_eq_true rfl⟩ dX2_mixedInto_21 (fun r6 V7 hz_8 => ?_)
        refine gG_ret hz_8.1 hz_8.2 ?_
        refine gG_st [.long (mix1 (mixL ((List.range k).map (fun j => nI (c.2 j))) d) (nI (c.2 k)))] rfl ?_
        refine gG_st [.long (mixL ((List.range (k + 1)).map (fun j => nI (c.2 j))) d)] (by rw [show (Value.long (mix1 (mixL ((List.range k).map (fun j => nI (c.2 j))) d) (nI (c.2 k)))) = .long (mixL ((List.range (k + 1)).map (fun j => nI (c.2 j))) d) from congrArg _ ((mixL_range _ _ _).symm)]) ?_
        refine g_lstore_n X rfl dX2_mixedInto_24 [(3, .long (mixL ((List.range (k + 1)).map (fun j => nI (c.2 j))) d)), (0, .ref (B.2.1 1 0 0)), (1, .long d), (5, .int (nI k))] rfl (gnl_lt hnL (by decide)) ?_
        refine g_iinc X 3 rfl (nI (k + 1)) (iinc_1 _) dX2_mixedInto_25 [(5, .int (nI (k + 1))), (3, .long (mixL ((List.range (k + 1)).map (fun j => nI (c.2 j))) d)), (0, .ref (B.2.1 1 0 0)), (1, .long d)] rfl (gnl_lt hnL (by decide)) ?_
        refine g_goto X 5 (by decide) dX2_mixedInto_28 ?_
        refine gG_L [2, 3, 1, 0] (L' := [(0, .ref (B.2.1 1 0 0)), (1, .long d), (3, .long (mixL ((List.range (k + 1)).map (fun j => nI (c.2 j))) d)), (5, .int (nI (k + 1)))]) rfl ?_
        refine ih (k + 1) (by omega)
  exact loop c.1 0 (by omega)
abbrev inB (x a c : Int32) : Prop := a ≤ x ∧ x ≤ c
abbrev ixB (x n : Int32) : Prop := 0 ≤ x ∧ x < n
abbrev rmX6_isBetween : Room := { frames := 0, cells := 0, slots := 0, locals := 0 }
set_option maxRecDepth 20000 in
theorem k_isBetween {l : Launch} {B : gB} (hI : gI B) (V : gMem) (x : Int32) (a : Int32) (c : Int32)  : gM l B yX6_isBetween cX6_isBetween 3 (some .boolean) rmX6_isBetween [.int x, .int a, .int c] V (fun v V' => v = some (.int (if inB x a c then 1 else 0)) ∧ V' = V) := by
  refine gM_of (own := RX6) (L := [(0, .int x), (1, .int a), (2, .int c)]) (by decide +kernel) rfl hI (Nat.le_of_ble_eq_true rfl) rfl ?_
  intro Z hnL hR X F
  refine g_iload_n X 0 rfl dX6_isBetween_0 ?_
  refine g_iload_n X 1 rfl dX6_isBetween_1 ?_
  refine g_icmp_lt X 14 (by decide) dX6_isBetween_2 (fun c1 => ?_) (fun c1 => ?_)
  · refine g_iconst X 0 (by decide) dX6_isBetween_14 ?_
    refine g_zret X F rfl ?_ rfl dX6_isBetween_15
    exact ⟨by rw [if_neg (show ¬ inB x a c from fun q => absurd c1 (Int32.not_lt.mpr q.1))], rfl⟩
  · refine g_iload_n X 0 rfl dX6_isBetween_5 ?_
    refine g_iload_n X 2 rfl dX6_isBetween_6 ?_
    refine g_icmp_gt X 14 (by decide) dX6_isBetween_7 (fun c2 => ?_) (fun c2 => ?_)
    · refine g_iconst X 0 (by decide) dX6_isBetween_14 ?_
      refine g_zret X F rfl ?_ rfl dX6_isBetween_15
      exact ⟨by rw [if_neg (show ¬ inB x a c from fun q => absurd c2 (Int32.not_lt.mpr q.2))], rfl⟩
    · refine g_iconst X 1 (by decide) dX6_isBetween_10 ?_
      refine g_goto X 15 (by decide) dX6_isBetween_11 ?_
      refine g_zret X F rfl ?_ rfl dX6_isBetween_15
      exact ⟨by rw [if_pos (show inB x a c from ⟨Int32.not_lt.mp c1, Int32.not_lt.mp c2⟩)], rfl⟩
set_option maxRecDepth 20000 in
theorem k_isIndexD {l : Launch} {B : gB} (hI : gI B) (V : gMem) (x : Int32) (n : Int32)  : gM l B yX6_isIndex cX6_isIndex 2 (some .boolean) rmX6_isIndex [.int x, .int n] V (fun v V' => v = some (.int (if ixB x n then 1 else 0)) ∧ V' = V) := by
  refine gM_of (own := RX6) (L := [(0, .int x), (1, .int n)]) (by decide +kernel) rfl hI (Nat.le_of_ble_eq_true rfl) rfl ?_
  intro Z hnL hR X F
  refine g_iload_n X 0 rfl dX6_isIndex_0 ?_
  refine g_if_lt X 13 (by decide) dX6_isIndex_1 (fun c1 => ?_) (fun c1 => ?_)
  · refine g_iconst X 0 (by decide) dX6_isIndex_13 ?_
    refine g_zret X F rfl ?_ rfl dX6_isIndex_14
    exact ⟨by rw [if_neg (show ¬ ixB x n from fun q => absurd c1 (Int32.not_lt.mpr q.1))], rfl⟩
  · refine g_iload_n X 0 rfl dX6_isIndex_4 ?_
    refine g_iload_n X 1 rfl dX6_isIndex_5 ?_
    refine g_icmp_ge X 13 (by decide) dX6_isIndex_6 (fun c2 => ?_) (fun c2 => ?_)
    · refine g_iconst X 0 (by decide) dX6_isIndex_13 ?_
      refine g_zret X F rfl ?_ rfl dX6_isIndex_14
      exact ⟨by rw [if_neg (show ¬ ixB x n from fun q => absurd c2 (Int32.not_le.mpr q.2))], rfl⟩
    · refine g_iconst X 1 (by decide) dX6_isIndex_9 ?_
      refine g_goto X 14 (by decide) dX6_isIndex_10 ?_
      refine g_zret X F rfl ?_ rfl dX6_isIndex_14
      exact ⟨by rw [if_pos (show ixB x n from ⟨Int32.not_lt.mp c1, Int32.not_le.mp c2⟩)], rfl⟩
theorem ixB_iff {x : Int32} {n : Nat} (hn : n < 2 ^ 31) : ixB x (nI n) ↔ ∃ j : Nat, j < n ∧ x = nI j := by
  constructor
  · rintro ⟨h1, h2⟩
    rcases pk_ix x hn with q | q | q
    · exact absurd q (Int32.not_lt.mpr h1)
    · exact absurd h2 (Int32.not_lt.mpr q)
    · exact q
  · rintro ⟨j, h1, rfl⟩
    exact ⟨nI_pos' (by omega), nI_lt h1 hn⟩
theorem inB_iff {x : Int32} {a n : Nat} (ha : a < 2 ^ 31) (hn : n < 2 ^ 31 - 1) : inB x (nI a) (nI n) ↔ ∃ j : Nat, a ≤ j ∧ j ≤ n ∧ x = nI j := by
  constructor
  · rintro ⟨h1, h2⟩
    rcases pk_ix x (n := n + 1) (by omega) with q | q | ⟨j, q1, q2⟩
    · exact absurd (Int32.lt_of_le_of_lt h1 q) (nI_pos ha)
    · exact absurd (Int32.le_trans q h2) (nI_ge (by omega) (by omega))
    · refine ⟨j, Classical.byContradiction (fun z => ?_), by omega, q2⟩
      rw [q2] at h1
      exact nI_ge (by omega) ha h1
  · rintro ⟨j, h1, h2, rfl⟩
    exact ⟨nI_le h1 (by omega), nI_le h2 (by omega)⟩
theorem inB_ix {x : Int32} {n : Nat} (hn : n < 2 ^ 31 - 1) : inB x 0 (nI n) ↔ ixB x (nI (n + 1)) := by
  rw [show (0 : Int32) = nI 0 from rfl, inB_iff (by decide) hn, ixB_iff (by omega)]
  constructor
  · rintro ⟨j, h1, h2, h3⟩; exact ⟨j, by omega, h3⟩
  · rintro ⟨j, h1, h2⟩; exact ⟨j, by omega, by omega, h2⟩
abbrev gWd : Type := gSt × gCd × (Nat → Nat)
def wOk (w : gWd) : Prop := WF w.1 ∧ CodeOk w.2.1 ∧ ∀ j, j < 20 → w.2.2 j ≤ 9
def COk (V : gMem) (w : gWd) : Prop := AbsC V 0 w.1 ∧ CodeC V w.2.1 ∧ ∀ j, j < 20 → V 4 0 0 j = nI (w.2.2 j)
/-- an answer: 0 or which exception; the value; the world behind -/
abbrev gOu : Type := Nat × Int32 × gWd
def sPB (S : gSt) (p q : Nat) : gSt := sN (sN S 2 p) 3 q
def oBuild (w : gWd) (p q : Int32) : gOu := if inB p 4 30 ∧ inB q 10 500 then (if w.1.2.1 2 = [] then (0, nI (w.1.1 3), (sPB w.1 p.toNatClampNeg q.toNatClampNeg, w.2)) else (2, 0, w)) else (1, 0, w)
def oToll (w : gWd) (p q : Int32) : gOu := if inB p 0 9 ∧ inB q 0 9 then (0, nI (10 * w.1.1 4 + w.1.1 5), (sN (sN w.1 4 p.toNatClampNeg) 5 q.toNatClampNeg, w.2)) else (1, 0, w)
def sTurn (S : gSt) : gSt := sN S 1 (1 - S.1 1)
def oCart (w : gWd) (x what : Int32) : gOu := if ixB x (nI (w.1.1 6)) ∧ ixB what 9 then (0, sTell w.1 x.toNatClampNeg what.toNatClampNeg, w) else (1, 0, w)
def oQueue (w : gWd) (e x : Int32) : gOu := if ixB e 2 ∧ ixB x (nI (w.1.2.1 e.toNatClampNeg).length) then (0, nI ((w.1.2.1 e.toNatClampNeg)[x.toNatClampNeg]?.getD 0), w) else (1, 0, w)
def oBox (w : gWd) (e what : Int32) : gOu := if ixB e 2 ∧ ixB what 4 then (0, gTell w.1 e.toNatClampNeg what.toNatClampNeg, w) else (1, 0, w)
def oEmpty (w : gWd) (e : Int32) : gOu := if ixB e 2 then (0, nI (w.1.2.2.1 e.toNatClampNeg 4), (sG (sG w.1 e.toNatClampNeg 1 0) e.toNatClampNeg 4 0, w.2)) else (1, 0, w)
def oPass (w : gWd) (x : Int32) : gOu := if inB x 1 200 then (0, nI (sRun x.toNatClampNeg w.1).2, ((sRun x.toNatClampNeg w.1).1, w.2)) else (1, 0, w)
theorem sNumOk.turn {S : gSt} (h : sNumOk S) : sNumOk (sTurn S) := by
  obtain ⟨a, b, c, d, e, f⟩ := h
  exact ⟨show 1 - S.1 1 ≤ 1 by omega, b, c, d, e, f⟩
theorem WF.turn {S : gSt} (h : WF S) : WF (sTurn S) := ⟨h.1.turn, h.2.1, h.2.2.1, h.2.2.2.1, h.2.2.2.2.1, h.2.2.2.2.2.1, h.2.2.2.2.2.2.1, h.2.2.2.2.2.2.2⟩
theorem sRun_snoc : ∀ (n : Nat) (S : gSt), (sRun (n + 1) S).1 = (sTick (sRun n S).1).1 ∧ (sRun (n + 1) S).2 = (sRun n S).2 + (sTick (sRun n S).1).2
  | 0, S => ⟨rfl, by show (sTick S).2 + 0 = 0 + (sTick S).2; omega⟩
  | n + 1, S => by
    obtain ⟨h1, h2⟩ := sRun_snoc n (sTick S).1
    refine ⟨h1, ?_⟩
    show (sTick S).2 + (sRun (n + 1) (sTick S).1).2 = (sTick S).2 + (sRun n (sTick S).1).2 + (sTick (sRun n (sTick S).1).1).2
    rw [h2]; omega
theorem run_cnt : ∀ (n : Nat) {S : gSt}, WF S → sCnt (sRun n S).1 2 = sCnt S 2 + (sRun n S).2
  | 0, S, _ => rfl
  | n + 1, S, h => by
    show sCnt (sRun n (sTick S).1).1 2 = sCnt S 2 + ((sTick S).2 + (sRun n (sTick S).1).2)
    rw [run_cnt n h.tick, tick_cnt h]
    show sCnt S 2 + (sMove S).2 + _ = sCnt S 2 + ((sMove S).2 + _)
    omega
theorem len_cnt {p : Nat → Bool} : ∀ (n : Nat) {l : List Nat}, l.Nodup → (∀ i, i ∈ l ↔ (i < n ∧ p i = true)) → l.length = cntF p n
  | 0, l, hn, h => by
    cases l with
    | nil => rfl
    | cons a l => exact absurd ((h a).mp List.mem_cons_self).1 (Nat.not_lt_zero _)
  | n + 1, l, hn, h => by
    unfold cntF
    by_cases hp : p n = true
    · have hm : n ∈ l := (h n).mpr ⟨Nat.lt_succ_self n, hp⟩
      have h1 := len_cnt n (l := l.erase n) (hn.erase n) (fun i => by
        rw [List.Nodup.mem_erase_iff hn, h i]
        constructor
        · rintro ⟨a, c, d⟩; exact ⟨by omega, d⟩
        · rintro ⟨a, c⟩; exact ⟨by omega, by omega, c⟩)
      have h2 := List.length_erase_of_mem hm
      have h3 := List.length_pos_of_mem hm
      rw [if_pos hp]
      omega
    · rw [if_neg hp, Nat.add_zero]
      refine len_cnt n hn (fun i => ?_)
      rw [h i]
      constructor
      · rintro ⟨a, c⟩
        have : i ≠ n := fun q => hp (q ▸ c)
        exact ⟨by omega, c⟩
      · rintro ⟨a, c⟩; exact ⟨by omega, c⟩
theorem WF.onlen {S : gSt} (h : WF S) : (S.2.1 2).length = sCnt S 1 := len_cnt _ h.ne (fun i => by rw [h.2.2.2.2.1 i, decide_eq_true_eq])
/-- away for ever -/
theorem tick_3 {S : gSt} (h : WF S) {i : Nat} (hi3 : S.2.2.2.1 i 8 = 3) : (sTick S).1.2.2.2.1 i 8 = 3 := by
  have hnm : i ∉ S.2.1 2 := fun q => by have := ((h.2.2.2.2.1 i).mp q).2; omega
  have hm : (sMove S).1.2.2.2.1 i 8 = 3 := by
    unfold sMove
    split
    · exact hi3
    · split
      · show (goOnL (S.1 2) (S.1 0) (S.2.1 2) (S.1 2 + 4) S).1.2.2.2.1 i 8 = 3
        rw [((goOnL_same (S.1 2) (S.1 0) (S.2.1 2) (S.1 2 + 4) S).2.2.2.2 i hnm).1 8]
        exact hi3
      · show (sGoBack S).2.2.2.1 i 8 = 3
        rcases List.eq_nil_or_concat (S.2.1 2) with hq | ⟨ys, l, hq⟩
        · unfold sGoBack
          rw [hq]
          exact hi3
        · have hq : S.2.1 2 = ys ++ [l] := hq.trans (List.concat_eq_append ..)
          have hrev : (S.2.1 2).reverse = l :: ys.reverse := by rw [hq]; simp
          have hil : i ≠ l := fun q => hnm (by rw [hq, q]; simp)
          have hn := nodup_rev h.ne
          rw [hrev] at hn
          unfold sGoBack
          rw [hrev]
          simp only []
          split
          · rw [(backL_spec ys.reverse _ (List.nodup_cons.mp hn).2).2.2.2.2.1 i 8 (by decide), sLeave_eq]
            show (if i = l ∧ 8 = 8 then 0 else S.2.2.2.1 i 8) = 3
            rw [if_neg (fun q => hil q.1)]
            exact hi3
          · rw [(backL_spec (l :: ys.reverse) S hn).2.2.2.2.1 i 8 (by decide)]
            exact hi3
  have h1 := h.move
  show (sCome (sMove S).1).2.2.2.1 i 8 = 3
  generalize (sMove S).1 = T at hm h1
  cases hq : T.2.1 (T.1 1) with
  | nil => rw [sCome_nil hq]; exact hm
  | cons c ys =>
    have hc8 : T.2.2.2.1 c 8 = 0 := (h1.qmem (e := T.1 1) (by have := h1.1.1; omega) (by rw [hq]; exact List.mem_cons_self)).2.1
    have hic : i ≠ c := fun q => by rw [q] at hm; omega
    by_cases hroom : sRoom T c = true
    · rw [sCome_eq hq hroom]
      split
      · show (if i = c ∧ 8 = 8 then 3 else T.2.2.2.1 i 8) = 3
        rw [if_neg (fun q => hic q.1)]; exact hm
      · show (if i = c ∧ 8 = 9 then 0 else if i = c ∧ 8 = 8 then 1 else (if (sQ T (T.1 1) ys).2.2.2.1 c 7 = 0 then sPay (sQ T (T.1 1) ys) (T.1 1) c else sQ T (T.1 1) ys).2.2.2.1 i 8) = 3
        rw [if_neg (by omega), if_neg (by omega)]
        split
        · rw [(sPay_c (sQ T (T.1 1) ys) (T.1 1) c).1 i 8 (by decide) (by decide)]; exact hm
        · exact hm
    · rw [sCome_no hq (by simpa using hroom)]; exact hm
def ovF (i : Nat) : Nat → Nat → gSt → Int32
  | 0, _, _ => -1
  | f + 1, k, S => if S.2.2.2.1 i 8 = 2 then nI k else ovF i f (k + 1) (sTick S).1
theorem ovF_3 {i : Nat} : ∀ (f k : Nat) {S : gSt}, WF S → S.2.2.2.1 i 8 = 3 → ovF i f k S = -1
  | 0, _, _, _, _ => rfl
  | f + 1, k, S, h, h3 => by
    rw [ovF, if_neg (by omega)]
    exact ovF_3 f (k + 1) h.tick (tick_3 h h3)
def oOver (w : gWd) (x : Int32) : gOu := if ixB x (nI (w.1.1 6)) then (0, ovF x.toNatClampNeg 201 0 w.1, w) else (1, 0, w)
def kpF (S : gSt) (k : Nat) : Nat := (sRun k S).2 + (sRun (60 - k) (sTurn (sRun k S).1)).2
def kpL (S : gSt) : Nat → Nat × Int32
  | 0 => ((sRun 60 S).2, -1)
  | k + 1 => if (kpL S k).1 < kpF S k then (kpF S k, nI k) else kpL S k
def oKeep (w : gWd) : Int32 := (kpL w.1 60).2
def fsV (S : gSt) (n what : Nat) : Int32 := match what with
  | 0 => nI (sRun n S).2
  | 1 => nI ((sRun n S).1.2.2.1 0 1 + (sRun n S).1.2.2.1 1 1) - nI (S.2.2.1 0 1 + S.2.2.1 1 1)
  | _ => nI ((sRun n S).1.2.1 2).length
def oSee (w : gWd) (p q : Int32) : gOu := if inB p 1 100 then (if inB q 0 2 then (0, fsV w.1 p.toNatClampNeg q.toNatClampNeg, w) else (2, 0, w)) else (1, 0, w)
theorem sub2 (a x y : Int32) : a - x - y = a - (x + y) := by
  rw [Int32.sub_eq_add_neg, Int32.sub_eq_add_neg, Int32.sub_eq_add_neg, Int32.neg_add, Int32.sub_eq_add_neg, Int32.add_assoc]
theorem sTick_6 {S : gSt} (h : WF S) : (sTick S).1.1 6 = S.1 6 := by
  unfold sTick
  simp only [sN]
  rw [if_neg (by decide), sCome_num, sMove_num h]
theorem kpL_0 (S : gSt) : kpL S 0 = ((sRun 60 S).2, -1) := by rw [kpL]
theorem kpL_s (S : gSt) (k : Nat) : kpL S (k + 1) = if (kpL S k).1 < kpF S k then (kpF S k, nI k) else kpL S k := by rw [kpL]
theorem sRun_le {S : gSt} (h : WF S) (n : Nat) : (sRun n S).2 ≤ 16 := by
  have h1 := run_cnt n h
  have h2 := cntF_le (fun i => decide ((sRun n S).1.2.2.2.1 i 8 = 2)) ((sRun n S).1.1 6)
  have h3 := (h.run n).1.2.2.2.2.2
  unfold sCnt at h1
  omega
theorem kpF_le {S : gSt} (h : WF S) (k : Nat) : kpF S k ≤ 32 := by
  have h1 := sRun_le h k
  have h2 := sRun_le ((WF.run k h).turn) (60 - k)
  unfold kpF
  omega
theorem kpL_le {S : gSt} (h : WF S) : ∀ k, (kpL S k).1 ≤ 32
  | 0 => by
    rw [kpL_0]
    have := sRun_le h 60
    show (sRun 60 S).2 ≤ 32
    omega
  | k + 1 => by
    rw [kpL_s]
    split
    · exact kpF_le h k
    · exact kpL_le h k
end
section
/-! rows of whole, of the class (31.sel) -/
/-- what is counted -/
def cntV (w : gWd) (k : Nat) : Int32 := match k with
  | 0 => nI (w.1.1 0)
  | 1 => nI w.2.1.1
  | 2 => nI (w.1.1 6)
  | 3 => nI (sCnt w.1 0)
  | 4 => nI (sCnt w.1 1)
  | 5 => nI (sCnt w.1 2)
  | 6 => nI (sCnt w.1 3)
  | 7 => nI (w.1.1 1)
  | 8 => nI (sW w.1)
  | 9 => nI (w.1.1 2)
  | _ => nI (w.1.1 3)
/-- nothing but the class's objects is another one -/
def cmod (V V' : gMem) : Prop := ∀ K b i, ¬ K < 20 → V' K b i = V K b i
theorem cmod.rf {V : gMem} : cmod V V := fun _ _ _ _ => rfl
theorem cmod.trans {V V1 V2 : gMem} (h : cmod V V1) (h2 : cmod V1 V2) : cmod V V2 := fun K b i hn => (h2 K b i hn).trans (h K b i hn)
theorem brmod.cm {V V' : gMem} {b : Nat} (h : brmod V V' b) : cmod V V' := fun K b i hn => h K b i (fun q => hn (by omega))
theorem COk.br {V V' : gMem} {w : gWd} {S : gSt} (h : COk V w) (hm : brmod V V' 0) (hA : AbsC V' 0 S) : COk V' (S, w.2) :=
  ⟨hA, ⟨by rw [hm 1 0 0 (by simp)]; exact h.2.1.1, fun k hk => by rw [hm 2 0 0 (by simp)]; exact h.2.1.2 k hk⟩, fun j hj => by rw [hm 4 0 0 (by simp)]; exact h.2.2 j hj⟩
theorem COk.brO {V V' : gMem} {w : gWd} {b : Nat} (h : COk V w) (hm : brmod V V' b) (hb : b ≠ 0) : COk V' w :=
  ⟨h.1.other hm (Ne.symm hb), ⟨by rw [hm 1 0 0 (by simp)]; exact h.2.1.1, fun k hk => by rw [hm 2 0 0 (by simp)]; exact h.2.1.2 k hk⟩, fun j hj => by rw [hm 4 0 0 (by simp)]; exact h.2.2 j hj⟩
abbrev rmX6_countOf : Room := { frames := 3, cells := 0, slots := 0, locals := 66 }
set_option maxRecDepth 20000 in
theorem k_countOf {l : Launch} {B : gB} (hI : gI B) (V : gMem) (w : gWd) (k : Nat) (hQ : COk V w) (hw : wOk w) (hk : k < 11) : gM l B yX6_countOf cX6_countOf 2 (some .int) rmX6_countOf [.ref (B.2.1 0 0 0), .int (nI k)] V (fun v V' => v = some (.int (cntV w k)) ∧ V' = V) := by
  refine gM_of (own := RX6) (L := [(0, .ref (B.2.1 0 0 0)), (1, .int (nI k))]) (by decide +kernel) rfl hI (Nat.le_of_ble_eq_true rfl) rfl ?_
  intro Z hnL hR X F
  have h8 : ∀ i, i < w.1.1 6 → w.1.2.2.2.1 i 8 ≤ 3 := fun i hi => (hw.1.2.1 i hi).2.2.2.2.2.2.2
  refine g_iload_n X 1 rfl dX6_countOf_0 ?_
  rcases (show k = 0 ∨ k = 1 ∨ k = 2 ∨ k = 3 ∨ k = 4 ∨ k = 5 ∨ k = 6 ∨ k = 7 ∨ k = 8 ∨ k = 9 ∨ k = 10 by omega) with rfl | rfl | rfl | rfl | rfl | rfl | rfl | rfl | rfl | rfl | rfl
  · refine gG_top 0 rfl ?_
    refine g_tableIn X (55) 56 (by decide) (by decide) (by decide) (by decide) dX6_countOf_1 ?_
    refine g_aload_n X 0 rfl dX6_countOf_56 ?_
    refine gg_X6_bridge X ⟨by decide, by decide⟩ fX6_23 dX6_countOf_57 ?_
    refine gg_X0_tick X ⟨by decide, by decide⟩ fX6_90 dX6_countOf_60 ?_
    refine gG_top (nI (w.1.1 0)) (hQ.1.1 0 (by decide)) ?_
    refine g_iret X F ?_ rfl dX6_countOf_63
    exact ⟨rfl, rfl⟩
  · refine gG_top 1 rfl ?_
    refine g_tableIn X (63) 64 (by decide) (by decide) (by decide) (by decide) dX6_countOf_1 ?_
    refine g_aload_n X 0 rfl dX6_countOf_64 ?_
    refine gg_X6_code X ⟨by decide, by decide⟩ fX6_10 dX6_countOf_65 ?_
    refine gg_X2_size X ⟨by decide, by decide⟩ fX6_81 dX6_countOf_68 ?_
    refine gG_top (nI w.2.1.1) (hQ.2.1.1) ?_
    refine g_iret X F ?_ rfl dX6_countOf_71
    exact ⟨rfl, rfl⟩
  · refine gG_top 2 rfl ?_
    refine g_tableIn X (71) 72 (by decide) (by decide) (by decide) (by decide) dX6_countOf_1 ?_
    refine g_aload_n X 0 rfl dX6_countOf_72 ?_
    refine gg_X6_bridge X ⟨by decide, by decide⟩ fX6_23 dX6_countOf_73 ?_
    refine gg_X0_cartCount X ⟨by decide, by decide⟩ fX6_258 dX6_countOf_76 ?_
    refine gG_top (nI (w.1.1 6)) (hQ.1.1 6 (by decide)) ?_
    refine g_iret X F ?_ rfl dX6_countOf_79
    exact ⟨rfl, rfl⟩
  · refine gG_top 3 rfl ?_
    refine g_tableIn X (79) 80 (by decide) (by decide) (by decide) (by decide) dX6_countOf_1 ?_
    refine g_aload_n X 0 rfl dX6_countOf_80 ?_
    refine gg_X6_bridge X ⟨by decide, by decide⟩ fX6_23 dX6_countOf_81 ?_
    refine g_iconst X 0 (by decide) dX6_countOf_84 ?_
    refine g_callV X hR (rest := []) mX0_cartsIn lX6_261 (k_cartsIn hI V 0 w.1 0 (by decide) hQ.1 hw.1.1.2.2.2.2.2 h8 (by decide)) rfl rfl (Nat.le_of_ble_eq_true rfl) ⟨by decide, by decide⟩ rfl rfl rfl ⟨Nat.le_of_ble_eq_true rfl, Nat.le_of_ble_eq_true rfl, Nat.le_of_ble_eq_true rfl, Nat.le_of_ble_eq_true rfl⟩ dX6_countOf_85 (fun r1 V2 hz_3 => ?_)
    refine gG_ret hz_3.1 hz_3.2 ?_
    refine gG_st [.int (nI (sCnt w.1 0))] rfl ?_
    refine g_iret X F ?_ rfl dX6_countOf_88
    exact ⟨rfl, rfl⟩
  · refine gG_top 4 rfl ?_
    refine g_tableIn X (88) 89 (by decide) (by decide) (by decide) (by decide) dX6_countOf_1 ?_
    refine g_aload_n X 0 rfl dX6_countOf_89 ?_
    refine gg_X6_bridge X ⟨by decide, by decide⟩ fX6_23 dX6_countOf_90 ?_
    refine g_iconst X 1 (by decide) dX6_countOf_93 ?_
    refine g_callV X hR (rest := []) mX0_cartsIn lX6_261 (k_cartsIn hI V 0 w.1 1 (by decide) hQ.1 hw.1.1.2.2.2.2.2 h8 (by decide)) rfl rfl (Nat.le_of_ble_eq_true rfl) ⟨by decide, by decide⟩ rfl rfl rfl ⟨Nat.le_of_ble_eq_true rfl, Nat.le_of_ble_eq_true rfl, Nat.le_of_ble_eq_true rfl, Nat.le_of_ble_eq_true rfl⟩ dX6_countOf_94 (fun r4 V5 hz_6 => ?_)
    refine gG_ret hz_6.1 hz_6.2 ?_
    refine gG_st [.int (nI (sCnt w.1 1))] rfl ?_
    refine g_iret X F ?_ rfl dX6_countOf_97
    exact ⟨rfl, rfl⟩
  · refine gG_top 5 rfl ?_
    refine g_tableIn X (97) 98 (by decide) (by decide) (by decide) (by decide) dX6_countOf_1 ?_
    refine g_aload_n X 0 rfl dX6_countOf_98 ?_
    refine gg_X6_bridge X ⟨by decide, by decide⟩ fX6_23 dX6_countOf_99 ?_
    refine g_iconst X 2 (by decide) dX6_countOf_102 ?_
    refine g_callV X hR (rest := []) mX0_cartsIn lX6_261 (k_cartsIn hI V 0 w.1 2 (by decide) hQ.1 hw.1.1.2.2.2.2.2 h8 (by decide)) rfl rfl (Nat.le_of_ble_eq_true rfl) ⟨by decide, by decide⟩ rfl rfl rfl ⟨Nat.le_of_ble_eq_true rfl, Nat.le_of_ble_eq_true rfl, Nat.le_of_ble_eq_true rfl, Nat.le_of_ble_eq_true rfl⟩ dX6_countOf_103 (fun r7 V8 hz_9 => ?_)
    refine gG_ret hz_9.1 hz_9.2 ?_
    refine gG_st [.int (nI (sCnt w.1 2))] rfl ?_
    refine g_iret X F ?_ rfl dX6_countOf_106
    exact ⟨rfl, rfl⟩
  · refine gG_top 6 rfl ?_
    refine g_tableIn X (106) 107 (by decide) (by decide) (by decide) (by decide) dX6_countOf_1 ?_
    refine g_aload_n X 0 rfl dX6_countOf_107 ?_
    refine gg_X6_bridge X ⟨by decide, by decide⟩ fX6_23 dX6_countOf_108 ?_
    refine g_iconst X 3 (by decide) dX6_countOf_111 ?_
    refine g_callV X hR (rest := []) mX0_cartsIn lX6_261 (k_cartsIn hI V 0 w.1 3 (by decide) hQ.1 hw.1.1.2.2.2.2.2 h8 (by decide)) rfl rfl (Nat.le_of_ble_eq_true rfl) ⟨by decide, by decide⟩ rfl rfl rfl ⟨Nat.le_of_ble_eq_true rfl, Nat.le_of_ble_eq_true rfl, Nat.le_of_ble_eq_true rfl, Nat.le_of_ble_eq_true rfl⟩ dX6_countOf_112 (fun r10 V11 hz_12 => ?_)
    refine gG_ret hz_12.1 hz_12.2 ?_
    refine gG_st [.int (nI (sCnt w.1 3))] rfl ?_
    refine g_iret X F ?_ rfl dX6_countOf_115
    exact ⟨rfl, rfl⟩
  · refine gG_top 7 rfl ?_
    refine g_tableIn X (115) 116 (by decide) (by decide) (by decide) (by decide) dX6_countOf_1 ?_
    refine g_aload_n X 0 rfl dX6_countOf_116 ?_
    refine gg_X6_bridge X ⟨by decide, by decide⟩ fX6_23 dX6_countOf_117 ?_
    refine gg_X0_direction X ⟨by decide, by decide⟩ fX6_136 dX6_countOf_120 ?_
    refine gG_top (nI (w.1.1 1)) (hQ.1.1 1 (by decide)) ?_
    refine g_iret X F ?_ rfl dX6_countOf_123
    exact ⟨rfl, rfl⟩
  · refine gG_top 8 rfl ?_
    refine g_tableIn X (123) 124 (by decide) (by decide) (by decide) (by decide) dX6_countOf_1 ?_
    refine g_aload_n X 0 rfl dX6_countOf_124 ?_
    refine gg_X6_bridge X ⟨by decide, by decide⟩ fX6_23 dX6_countOf_125 ?_
    refine g_callV X hR (rest := []) mX0_weightOnBridge lX6_264 (k_wob hI V 0 w.1 (by decide) hQ.1 hw.1.1.2.2.2.2.2 (fun i hi => hw.1.mem hi)) rfl rfl (Nat.le_of_ble_eq_true rfl) ⟨by decide, by decide⟩ rfl rfl rfl ⟨Nat.le_of_ble_eq_true rfl, Nat.le_of_ble_eq_true rfl, Nat.le_of_ble_eq_true rfl, Nat.le_of_ble_eq_true rfl⟩ dX6_countOf_128 (fun r13 V14 hz_15 => ?_)
    refine gG_ret hz_15.1 hz_15.2 ?_
    refine gG_st [.int (nI (sW w.1))] rfl ?_
    refine g_iret X F ?_ rfl dX6_countOf_131
    exact ⟨rfl, rfl⟩
  · refine gG_top 9 rfl ?_
    refine g_tableIn X (131) 132 (by decide) (by decide) (by decide) (by decide) dX6_countOf_1 ?_
    refine g_aload_n X 0 rfl dX6_countOf_132 ?_
    refine gg_X6_bridge X ⟨by decide, by decide⟩ fX6_23 dX6_countOf_133 ?_
    refine gg_X0_places X ⟨by decide, by decide⟩ fX6_122 dX6_countOf_136 ?_
    refine gG_top (nI (w.1.1 2)) (hQ.1.1 2 (by decide)) ?_
    refine g_iret X F ?_ rfl dX6_countOf_139
    exact ⟨rfl, rfl⟩
  · refine gG_top 10 rfl ?_
    refine g_tableOut X 140 (by decide) (by decide) dX6_countOf_1 ?_
    refine g_aload_n X 0 rfl dX6_countOf_140 ?_
    refine gg_X6_bridge X ⟨by decide, by decide⟩ fX6_23 dX6_countOf_141 ?_
    refine gg_X0_bears X ⟨by decide, by decide⟩ fX6_119 dX6_countOf_144 ?_
    refine gG_top (nI (w.1.1 3)) (hQ.1.1 3 (by decide)) ?_
    refine g_iret X F ?_ rfl dX6_countOf_147
    exact ⟨rfl, rfl⟩
abbrev rmX6_change : Room := { frames := 1, cells := 0, slots := 0, locals := 20 }
set_option maxRecDepth 20000 in
theorem k_Cchange {l : Launch} {B : gB} (hI : gI B) (V : gMem) (w : gWd) (hQ : COk V w) (hw : wOk w) : gM l B yX6_change cX6_change 1 (some .int) rmX6_change [.ref (B.2.1 0 0 0)] V (fun v V' => v = some (.int (nI (1 - w.1.1 1))) ∧ COk V' (sTurn w.1, w.2) ∧ cmod V V' ∧ brmod V V' 0) := by
  refine gM_of (own := RX6) (L := [(0, .ref (B.2.1 0 0 0))]) (by decide +kernel) rfl hI (Nat.le_of_ble_eq_true rfl) rfl ?_
  intro Z hnL hR X F
  refine g_aload_n X 0 rfl dX6_change_0 ?_
  refine gg_X6_bridge X ⟨by decide, by decide⟩ fX6_23 dX6_change_1 ?_
  refine g_callV X hR (rest := []) mX0_turn lX6_133 (k_turn hI V 0 w.1 (by decide) hQ.1 hw.1.1.1) rfl rfl (Nat.le_of_ble_eq_true rfl) ⟨by decide, by decide⟩ rfl rfl rfl ⟨Nat.le_of_ble_eq_true rfl, Nat.le_of_ble_eq_true rfl, Nat.le_of_ble_eq_true rfl, Nat.le_of_ble_eq_true rfl⟩ dX6_change_4 (fun r1 V2 hz_3 => ?_)
  refine gG_rv hz_3.1 ?_
  obtain ⟨-, haV2, hbV2⟩ := hz_3
  obtain ⟨S4, eS4⟩ : ∃ y, y = sN w.1 1 (1 - w.1.1 1) := ⟨_, rfl⟩
  have hS4 : AbsC V2 0 S4 := by rw [eS4]; exact haV2
  have mS4 : brmod V V2 0 := hbV2
  refine gG_st [] rfl ?_
  refine g_aload_n X 0 rfl dX6_change_7 ?_
  refine gg_X6_bridge X ⟨by decide, by decide⟩ fX6_23 dX6_change_8 ?_
  refine gg_X0_direction X ⟨by decide, by decide⟩ fX6_136 dX6_change_11 ?_
  refine gG_top (nI (S4.1 1)) (hS4.1 1 (by decide)) ?_
  refine g_iret X F ?_ rfl dX6_change_14
  have heq : S4 = sTurn w.1 := eS4
  rw [heq] at hS4
  refine ⟨by rw [heq]; exact rfl, hQ.br mS4 hS4, mS4.cm, mS4⟩
/-- nothing but the two bridges for looking ahead is another one -/
def b12 (V V' : gMem) : Prop := ∀ K b i, ¬ (10 ≤ K ∧ K ≤ 15 ∧ (b = 1 ∨ b = 2)) → V' K b i = V K b i
theorem b12.rf {V : gMem} : b12 V V := fun _ _ _ _ => rfl
theorem b12.br {V V1 V2 : gMem} {b : Nat} (h : b12 V V1) (h2 : brmod V1 V2 b) (hb : b = 1 ∨ b = 2) : b12 V V2 := fun K c i hn => (h2 K c i (fun q => hn ⟨q.1, q.2.1, by omega⟩)).trans (h K c i hn)
theorem b12.A {V V1 : gMem} {S : gSt} (h : b12 V V1) (hA : AbsC V 0 S) : AbsC V1 0 S := by
  have e : ∀ K i, V1 K 0 i = V K 0 i := fun K i => h K 0 i (by omega)
  exact ⟨fun k hk => by rw [e]; exact hA.1 k hk, fun r hr => (hA.2.1 r hr).same (e _ _) (e _ _), fun x hx k h1 h2 => by rw [e]; exact hA.2.2.1 x hx k h1 h2, fun i hi k h1 h2 => by rw [e]; exact hA.2.2.2.1 i hi k h1 h2, fun i hi => by rw [e]; exact hA.2.2.2.2.1 i hi, fun i hi => by rw [e]; exact hA.2.2.2.2.2.1 i hi, fun h0 i h1 h2 => by rw [e]; exact hA.2.2.2.2.2.2 h0 i h1 h2⟩
theorem b12.cm {V V' : gMem} (h : b12 V V') : cmod V V' := fun K b i hn => h K b i (fun q => hn (by omega))
theorem COk.b12 {V V' : gMem} {w : gWd} (h : COk V w) (hm : b12 V V') : COk V' w :=
  ⟨hm.A h.1, ⟨by rw [hm 1 0 0 (by simp)]; exact h.2.1.1, fun k hk => by rw [hm 2 0 0 (by simp)]; exact h.2.1.2 k hk⟩, fun j hj => by rw [hm 4 0 0 (by simp)]; exact h.2.2 j hj⟩
/-- the carts of the bridges for looking ahead have their numbers -/
def N15 (V : gMem) : Prop := ∀ b, b < 3 → ∀ j, j < 16 → V 15 b j 0 = nI j
theorem N15.br {V V' : gMem} {b : Nat} {S : gSt} (h : N15 V) (hm : brmod V V' b) (hA : AbsC V' b S) : N15 V' := by
  intro c hc j hj
  by_cases hb : c = b
  · rw [hb]; exact hA.2.2.2.2.2.1 j hj
  · rw [hm 15 c j (fun q => hb q.2.2)]; exact h c hc j hj
set_option maxHeartbeats 200000 in
abbrev rmX6_keep : Room := { frames := 6, cells := 0, slots := 0, locals := 133 }
set_option maxRecDepth 20000 in
theorem k_Ckeep {l : Launch} {B : gB} (hI : gI B) (V : gMem) (w : gWd) (hQ : COk V w) (hw : wOk w) (hN : N15 V) : gM l B yX6_keep cX6_keep 6 (some .int) rmX6_keep [.ref (B.2.1 0 0 0)] V (fun v V' => v = some (.int (oKeep w)) ∧ COk V' w ∧ N15 V' ∧ cmod V V') := by
  refine gM_of (own := RX6) (L := [(0, .ref (B.2.1 0 0 0))]) (by decide +kernel) rfl hI (Nat.le_of_ble_eq_true rfl) rfl ?_
  intro Z hnL hR X F
  refine g_aload_n X 0 rfl dX6_keep_0 ?_
  refine gg_X6_branch X ⟨by decide, by decide⟩ fX6_30 dX6_keep_1 ?_
  refine g_aload_n X 0 rfl dX6_keep_4 ?_
  refine gg_X6_bridge X ⟨by decide, by decide⟩ fX6_23 dX6_keep_5 ?_
  refine g_callV X hR (rest := []) mX0_copyFrom lX6_222 (k_copyFrom hI V 2 0 w.1 (by decide) (by decide) (by decide) hQ.1 hw.1.1.2.2.2.2.2 hw.1.2.1 (hN 2 (by decide)) (by decide)) rfl rfl (Nat.le_of_ble_eq_true rfl) ⟨by decide, by decide⟩ rfl rfl rfl ⟨Nat.le_of_ble_eq_true rfl, Nat.le_of_ble_eq_true rfl, Nat.le_of_ble_eq_true rfl, Nat.le_of_ble_eq_true rfl⟩ dX6_keep_8 (fun r1 V2 hz_3 => ?_)
  refine gG_rv hz_3.1 ?_
  obtain ⟨-, haV2, hbV2⟩ := hz_3
  refine gG_st [] rfl ?_
  have bV2 : b12 V V2 := b12.rf.br hbV2 (Or.inr rfl)
  have nV2 : N15 V2 := hN.br hbV2 haV2
  refine g_aload_n X 0 rfl dX6_keep_11 ?_
  refine gg_X6_branch X ⟨by decide, by decide⟩ fX6_30 dX6_keep_12 ?_
  refine g_bipush X 60 (by decide) dX6_keep_15 ?_
  refine g_callV X hR (rest := []) mX0_run lX6_212 (k_run hI V2 2 w.1 60 (by decide) haV2 hw.1 (by omega)) rfl rfl (Nat.le_of_ble_eq_true rfl) ⟨by decide, by decide⟩ rfl rfl rfl ⟨Nat.le_of_ble_eq_true rfl, Nat.le_of_ble_eq_true rfl, Nat.le_of_ble_eq_true rfl, Nat.le_of_ble_eq_true rfl⟩ dX6_keep_17 (fun r4 V5 hz_6 => ?_)
  refine gG_rv hz_6.1 ?_
  obtain ⟨-, haV5, hbV5⟩ := hz_6
  refine gG_st [.int (nI (sRun 60 w.1).2)] rfl ?_
  have bV5 : b12 V V5 := bV2.br hbV5 (Or.inr rfl)
  have nV5 : N15 V5 := nV2.br hbV5 haV5
  refine g_istore_n X rfl dX6_keep_20 [(1, .int (nI (sRun 60 w.1).2)), (0, .ref (B.2.1 0 0 0))] rfl (gnl_lt hnL (by decide)) ?_
  refine g_iconst X (-1) (by decide) dX6_keep_21 ?_
  refine g_istore_n X rfl dX6_keep_22 [(2, .int ((-1))), (1, .int (nI (sRun 60 w.1).2)), (0, .ref (B.2.1 0 0 0))] rfl (gnl_lt hnL (by decide)) ?_
  refine g_iconst X 0 (by decide) dX6_keep_23 ?_
  refine g_istore_n X rfl dX6_keep_24 [(3, .int 0), (2, .int ((-1))), (1, .int (nI (sRun 60 w.1).2)), (0, .ref (B.2.1 0 0 0))] rfl (gnl_lt hnL (by decide)) ?_
  refine g_aload_n X 3 rfl dX6_keep_25 ?_
  refine gg_X6_ahead X ⟨by decide, by decide⟩ fX6_27 dX6_keep_26 ?_
  refine g_aload_n X 3 rfl dX6_keep_29 ?_
  refine gg_X6_bridge X ⟨by decide, by decide⟩ fX6_23 dX6_keep_30 ?_
  refine g_callV X hR (rest := []) mX0_copyFrom lX6_222 (k_copyFrom hI V5 1 0 w.1 (by decide) (by decide) (by decide) (bV5.A hQ.1) hw.1.1.2.2.2.2.2 hw.1.2.1 (nV5 1 (by decide)) (by decide)) rfl rfl (Nat.le_of_ble_eq_true rfl) ⟨by decide, by decide⟩ rfl rfl rfl ⟨Nat.le_of_ble_eq_true rfl, Nat.le_of_ble_eq_true rfl, Nat.le_of_ble_eq_true rfl, Nat.le_of_ble_eq_true rfl⟩ dX6_keep_33 (fun r7 V8 hz_9 => ?_)
  refine gG_rv hz_9.1 ?_
  obtain ⟨-, haV8, hbV8⟩ := hz_9
  refine gG_st [] rfl ?_
  have bV8 : b12 V V8 := bV5.br hbV8 (Or.inl rfl)
  have nV8 : N15 V8 := nV5.br hbV8 haV8
  refine g_iconst X 0 (by decide) dX6_keep_36 ?_
  refine g_istore X dX6_keep_37 [(4, .int 0), (3, .int 0), (2, .int ((-1))), (1, .int (nI (sRun 60 w.1).2)), (0, .ref (B.2.1 0 0 0))] rfl (gnl_lt hnL (by decide)) ?_
  refine gG_L [4, 3, 2, 1, 0] (L' := [(0, .ref (B.2.1 0 0 0)), (1, .int (nI (sRun 60 w.1).2)), (2, .int ((-1))), (3, .int 0), (4, .int 0)]) rfl ?_
  refine gG_Le [(0, .ref (B.2.1 0 0 0)), (1, .int (nI (kpL w.1 0).1)), (2, .int ((kpL w.1 0).2)), (3, .int (nI (sRun 0 w.1).2)), (4, .int (nI 0))] (by rw [kpL_0]; exact rfl) ?_
  have loop : ∀ (f : Nat) (k : Nat) (Vp : gMem), k + f = 60 → AbsC Vp 1 (sRun k w.1).1 → b12 V Vp → N15 Vp → gG Z B (0, 0) Vp 39 [(0, .ref (B.2.1 0 0 0)), (1, .int (nI (kpL w.1 k).1)), (2, .int ((kpL w.1 k).2)), (3, .int (nI (sRun k w.1).2)), (4, .int (nI k))] [] := by
    intro f
    induction f with
    | zero =>
      intro k Vp hf hA1 hbp hnp
      refine g_iload X 4 rfl dX6_keep_39 ?_
      refine g_bipush X 60 (by decide) dX6_keep_41 ?_
      refine g_icmp_ge X 109 (by decide) dX6_keep_43 (fun c10 => ?_) (fun c10 => ?_)
      · refine g_iload_n X 2 rfl dX6_keep_109 ?_
        refine g_iret X F ?_ rfl dX6_keep_110
        exact ⟨by rw [show k = 60 by omega]; rfl, hQ.b12 hbp, hnp, hbp.cm⟩
      · first | exact absurd (nI_le (a := 60) (by omega) (by omega)) c10 | exact absurd c10 (nI_le (a := 60) (by omega) (by omega))
    | succ f ih =>
      intro k Vp hf hA1 hbp hnp
      refine g_iload X 4 rfl dX6_keep_39 ?_
      refine g_bipush X 60 (by decide) dX6_keep_41 ?_
      refine g_icmp_ge X 109 (by decide) dX6_keep_43 (fun c11 => ?_) (fun c11 => ?_)
      · first | exact absurd (nI_ge (b := 60) (by omega) (by decide)) c11 | exact absurd c11 (nI_ge (b := 60) (by omega) (by decide))
      · refine g_aload_n X 0 rfl dX6_keep_46 ?_
        refine gg_X6_branch X ⟨by decide, by decide⟩ fX6_30 dX6_keep_47 ?_
        refine g_aload_n X 0 rfl dX6_keep_50 ?_
        refine gg_X6_ahead X ⟨by decide, by decide⟩ fX6_27 dX6_keep_51 ?_
        refine g_callV X hR (rest := []) mX0_copyFrom lX6_222 (k_copyFrom hI Vp 2 1 (sRun k w.1).1 (by decide) (by decide) (by decide) hA1 (WF.run k hw.1).1.2.2.2.2.2 (WF.run k hw.1).2.1 (hnp 2 (by decide)) (by decide)) rfl rfl (Nat.le_of_ble_eq_true rfl) ⟨by decide, by decide⟩ rfl rfl rfl ⟨Nat.le_of_ble_eq_true rfl, Nat.le_of_ble_eq_true rfl, Nat.le_of_ble_eq_true rfl, Nat.le_of_ble_eq_true rfl⟩ dX6_keep_54 (fun r12 V13 hz_14 => ?_)
        refine gG_rv hz_14.1 ?_
        obtain ⟨-, haV13, hbV13⟩ := hz_14
        refine gG_st [] rfl ?_
        have bV13 : b12 V V13 := hbp.br hbV13 (Or.inr rfl)
        have nV13 : N15 V13 := hnp.br hbV13 haV13
        refine g_aload_n X 0 rfl dX6_keep_57 ?_
        refine gg_X6_branch X ⟨by decide, by decide⟩ fX6_30 dX6_keep_58 ?_
        refine g_callV X hR (rest := []) mX0_turn lX6_133 (k_turn hI V13 2 (sRun k w.1).1 (by decide) haV13 (WF.run k hw.1).1.1) rfl rfl (Nat.le_of_ble_eq_true rfl) ⟨by decide, by decide⟩ rfl rfl rfl ⟨Nat.le_of_ble_eq_true rfl, Nat.le_of_ble_eq_true rfl, Nat.le_of_ble_eq_true rfl, Nat.le_of_ble_eq_true rfl⟩ dX6_keep_61 (fun r15 V16 hz_17 => ?_)
        refine gG_rv hz_17.1 ?_
        obtain ⟨-, haV16, hbV16⟩ := hz_17
        refine gG_st [] rfl ?_
        have bV16 : b12 V V16 := bV13.br hbV16 (Or.inr rfl)
        have nV16 : N15 V16 := nV13.br hbV16 haV16
        refine g_iload_n X 3 rfl dX6_keep_64 ?_
        refine g_aload_n X 0 rfl dX6_keep_65 ?_
        refine gg_X6_branch X ⟨by decide, by decide⟩ fX6_30 dX6_keep_66 ?_
        refine g_bipush X 60 (by decide) dX6_keep_69 ?_
        refine g_iload X 4 rfl dX6_keep_71 ?_
        refine g_isub X dX6_keep_73 ?_
        refine gG_top (nI (60 - k)) (pk_sub (a := 60) (by omega)) ?_
        refine g_callV X hR (rest := [.int (nI (sRun k w.1).2)]) mX0_run lX6_212 (k_run hI V16 2 (sTurn (sRun k w.1).1) (60 - k) (by decide) haV16 (WF.run k hw.1).turn (by omega)) rfl rfl (Nat.le_of_ble_eq_true rfl) ⟨by decide, by decide⟩ rfl rfl rfl ⟨Nat.le_of_ble_eq_true rfl, Nat.le_of_ble_eq_true rfl, Nat.le_of_ble_eq_true rfl, Nat.le_of_ble_eq_true rfl⟩ dX6_keep_74 (fun r18 V19 hz_20 => ?_)
        refine gG_rv hz_20.1 ?_
        obtain ⟨-, haV19, hbV19⟩ := hz_20
        refine gG_st [.int (nI (sRun (60 - k) (sTurn (sRun k w.1).1)).2), .int (nI (sRun k w.1).2)] rfl ?_
        have bV19 : b12 V V19 := bV16.br hbV19 (Or.inr rfl)
        have nV19 : N15 V19 := nV16.br hbV19 haV19
        refine g_iadd X dX6_keep_77 ?_
        refine gG_top (nI ((sRun k w.1).2 + (sRun (60 - k) (sTurn (sRun k w.1).1)).2)) (nI_add (sRun k w.1).2 (sRun (60 - k) (sTurn (sRun k w.1).1)).2) ?_
        refine gG_top (nI (kpF w.1 k)) (by unfold kpF; exact rfl) ?_
        refine g_istore X dX6_keep_78 [(5, .int (nI (kpF w.1 k))), (0, .ref (B.2.1 0 0 0)), (1, .int (nI (kpL w.1 k).1)), (2, .int ((kpL w.1 k).2)), (3, .int (nI (sRun k w.1).2)), (4, .int (nI k))] rfl (gnl_lt hnL (by decide)) ?_
        refine g_iload X 0 rfl dX6_keep_80 ?_
        have hk1 := kpL_le hw.1 k
        have hk2 := kpF_le hw.1 k
        by_cases hmo : (kpL w.1 k).1 < kpF w.1 k
        · skip
          refine g_iload_n X 2 rfl dX6_keep_82 ?_
          refine g_icmp_le X 92 (by decide) dX6_keep_83 (fun c21 => ?_) (fun c21 => ?_)
          · first | exact absurd (nI_ge (by omega) (by omega)) c21 | exact absurd c21 (nI_ge (by omega) (by omega))
          · refine g_iload X 0 rfl dX6_keep_86 ?_
            refine g_istore_n X rfl dX6_keep_88 [(1, .int (nI (kpF w.1 k))), (5, .int (nI (kpF w.1 k))), (0, .ref (B.2.1 0 0 0)), (2, .int ((kpL w.1 k).2)), (3, .int (nI (sRun k w.1).2)), (4, .int (nI k))] rfl (gnl_lt hnL (by decide)) ?_
            refine g_iload X 5 rfl dX6_keep_89 ?_
            refine g_istore_n X rfl dX6_keep_91 [(2, .int (nI k)), (1, .int (nI (kpF w.1 k))), (5, .int (nI (kpF w.1 k))), (0, .ref (B.2.1 0 0 0)), (3, .int (nI (sRun k w.1).2)), (4, .int (nI k))] rfl (gnl_lt hnL (by decide)) ?_
            refine gG_L [3, 1, 0, 4, 5] (L' := [(0, .ref (B.2.1 0 0 0)), (1, .int (nI (kpF w.1 k))), (2, .int (nI k)), (3, .int (nI (sRun k w.1).2)), (4, .int (nI k))]) rfl ?_
            refine gG_Le [(0, .ref (B.2.1 0 0 0)), (1, .int (nI (kpL w.1 (k + 1)).1)), (2, .int ((kpL w.1 (k + 1)).2)), (3, .int (nI (sRun k w.1).2)), (4, .int (nI k))] (by rw [kpL_s, if_pos hmo]) ?_
            have hA1b : AbsC V19 1 (sRun k w.1).1 := ((hA1.other hbV13 (by decide)).other hbV16 (by decide)).other hbV19 (by decide)
            refine g_iload_n X 3 rfl dX6_keep_92 ?_
            refine g_aload_n X 0 rfl dX6_keep_93 ?_
            refine gg_X6_ahead X ⟨by decide, by decide⟩ fX6_27 dX6_keep_94 ?_
            refine g_iconst X 1 (by decide) dX6_keep_97 ?_
            refine g_callV X hR (rest := [.int (nI (sRun k w.1).2)]) mX0_run lX6_212 (k_run hI V19 1 (sRun k w.1).1 1 (by decide) hA1b (WF.run k hw.1) (by omega)) rfl rfl (Nat.le_of_ble_eq_true rfl) ⟨by decide, by decide⟩ rfl rfl rfl ⟨Nat.le_of_ble_eq_true rfl, Nat.le_of_ble_eq_true rfl, Nat.le_of_ble_eq_true rfl, Nat.le_of_ble_eq_true rfl⟩ dX6_keep_98 (fun r22 V23 hz_24 => ?_)
            refine gG_rv hz_24.1 ?_
            obtain ⟨-, haV23, hbV23⟩ := hz_24
            refine gG_st [.int (nI (sRun 1 (sRun k w.1).1).2), .int (nI (sRun k w.1).2)] rfl ?_
            have bV23 : b12 V V23 := bV19.br hbV23 (Or.inl rfl)
            have nV23 : N15 V23 := nV19.br hbV23 haV23
            refine g_iadd X dX6_keep_101 ?_
            refine gG_top (nI ((sRun k w.1).2 + (sRun 1 (sRun k w.1).1).2)) (nI_add (sRun k w.1).2 (sRun 1 (sRun k w.1).1).2) ?_
            refine gG_top (nI (sRun (k + 1) w.1).2) (by rw [(sRun_snoc k w.1).2]; exact rfl) ?_
            refine g_istore_n X rfl dX6_keep_102 [(3, .int (nI (sRun (k + 1) w.1).2)), (0, .ref (B.2.1 0 0 0)), (1, .int (nI (kpL w.1 (k + 1)).1)), (2, .int ((kpL w.1 (k + 1)).2)), (4, .int (nI k))] rfl (gnl_lt hnL (by decide)) ?_
            refine g_iinc X 4 rfl (nI (k + 1)) (iinc_1 _) dX6_keep_103 [(4, .int (nI (k + 1))), (3, .int (nI (sRun (k + 1) w.1).2)), (0, .ref (B.2.1 0 0 0)), (1, .int (nI (kpL w.1 (k + 1)).1)), (2, .int ((kpL w.1 (k + 1)).2))] rfl (gnl_lt hnL (by decide)) ?_
            refine g_goto X 39 (by decide) dX6_keep_106 ?_
            refine gG_L [2, 3, 4, 1, 0] (L' := [(0, .ref (B.2.1 0 0 0)), (1, .int (nI (kpL w.1 (k + 1)).1)), (2, .int ((kpL w.1 (k + 1)).2)), (3, .int (nI (sRun (k + 1) w.1).2)), (4, .int (nI (k + 1)))]) rfl ?_
            refine ih (k + 1) V23 (by omega) (by rw [(sRun_snoc k w.1).1]; exact haV23) (bV23) (nV23)
        · skip
          refine g_iload_n X 2 rfl dX6_keep_82 ?_
          refine g_icmp_le X 92 (by decide) dX6_keep_83 (fun c25 => ?_) (fun c25 => ?_)
          · refine gG_L [1, 2, 3, 4, 5] (L' := [(0, .ref (B.2.1 0 0 0)), (1, .int (nI (kpL w.1 k).1)), (2, .int ((kpL w.1 k).2)), (3, .int (nI (sRun k w.1).2)), (4, .int (nI k))]) rfl ?_
            refine gG_Le [(0, .ref (B.2.1 0 0 0)), (1, .int (nI (kpL w.1 (k + 1)).1)), (2, .int ((kpL w.1 (k + 1)).2)), (3, .int (nI (sRun k w.1).2)), (4, .int (nI k))] (by rw [kpL_s, if_neg hmo]) ?_
            have hA1b : AbsC V19 1 (sRun k w.1).1 := ((hA1.other hbV13 (by decide)).other hbV16 (by decide)).other hbV19 (by decide)
            refine g_iload_n X 3 rfl dX6_keep_92 ?_
            refine g_aload_n X 0 rfl dX6_keep_93 ?_
            refine gg_X6_ahead X ⟨by decide, by decide⟩ fX6_27 dX6_keep_94 ?_
            refine g_iconst X 1 (by decide) dX6_keep_97 ?_
            refine g_callV X hR (rest := [.int (nI (sRun k w.1).2)]) mX0_run lX6_212 (k_run hI V19 1 (sRun k w.1).1 1 (by decide) hA1b (WF.run k hw.1) (by omega)) rfl rfl (Nat.le_of_ble_eq_true rfl) ⟨by decide, by decide⟩ rfl rfl rfl ⟨Nat.le_of_ble_eq_true rfl, Nat.le_of_ble_eq_true rfl, Nat.le_of_ble_eq_true rfl, Nat.le_of_ble_eq_true rfl⟩ dX6_keep_98 (fun r26 V27 hz_28 => ?_)
            refine gG_rv hz_28.1 ?_
            obtain ⟨-, haV27, hbV27⟩ := hz_28
            refine gG_st [.int (nI (sRun 1 (sRun k w.1).1).2), .int (nI (sRun k w.1).2)] rfl ?_
            have bV27 : b12 V V27 := bV19.br hbV27 (Or.inl rfl)
            have nV27 : N15 V27 := nV19.br hbV27 haV27
            refine g_iadd X dX6_keep_101 ?_
            refine gG_top (nI ((sRun k w.1).2 + (sRun 1 (sRun k w.1).1).2)) (nI_add (sRun k w.1).2 (sRun 1 (sRun k w.1).1).2) ?_
            refine gG_top (nI (sRun (k + 1) w.1).2) (by rw [(sRun_snoc k w.1).2]; exact rfl) ?_
            refine g_istore_n X rfl dX6_keep_102 [(3, .int (nI (sRun (k + 1) w.1).2)), (0, .ref (B.2.1 0 0 0)), (1, .int (nI (kpL w.1 (k + 1)).1)), (2, .int ((kpL w.1 (k + 1)).2)), (4, .int (nI k))] rfl (gnl_lt hnL (by decide)) ?_
            refine g_iinc X 4 rfl (nI (k + 1)) (iinc_1 _) dX6_keep_103 [(4, .int (nI (k + 1))), (3, .int (nI (sRun (k + 1) w.1).2)), (0, .ref (B.2.1 0 0 0)), (1, .int (nI (kpL w.1 (k + 1)).1)), (2, .int ((kpL w.1 (k + 1)).2))] rfl (gnl_lt hnL (by decide)) ?_
            refine g_goto X 39 (by decide) dX6_keep_106 ?_
            refine gG_L [2, 3, 4, 1, 0] (L' := [(0, .ref (B.2.1 0 0 0)), (1, .int (nI (kpL w.1 (k + 1)).1)), (2, .int ((kpL w.1 (k + 1)).2)), (3, .int (nI (sRun (k + 1) w.1).2)), (4, .int (nI (k + 1)))]) rfl ?_
            refine ih (k + 1) V27 (by omega) (by rw [(sRun_snoc k w.1).1]; exact haV27) (bV27) (nV27)
          · first | exact absurd (nI_le (by omega) (by omega)) c25 | exact absurd c25 (nI_le (by omega) (by omega))
  exact loop 60 0 V8 (by omega) haV8 bV8 nV8
theorem WF.build {S : gSt} (h : WF S) (h0 : S.2.1 2 = []) {p q : Nat} (hp : 4 ≤ p ∧ p ≤ 30) (hq : q ≤ 500) : WF (sPB S p q) := by
  obtain ⟨⟨a, b, c, d, e, f⟩, h2, h3, h4, h5, h6, h7, h8⟩ := h
  refine ⟨⟨a, hp, hq, d, e, f⟩, h2, h3, h4, h5, fun i hi => ?_, h7, h8⟩
  have hi : i ∈ S.2.1 2 := hi
  rw [h0] at hi
  cases hi
theorem wOk.build {w : gWd} (h : wOk w) (p q : Int32) : wOk (oBuild w p q).2.2 := by
  unfold oBuild
  split
  · rename_i h1
    split
    · rename_i h0
      obtain ⟨j, j1, j2, rfl⟩ := (inB_iff (a := 4) (n := 30) (by decide) (by decide)).mp h1.1
      obtain ⟨z, z1, z2, rfl⟩ := (inB_iff (a := 10) (n := 500) (by decide) (by decide)).mp h1.2
      refine ⟨h.1.build h0 ?_ ?_, h.2⟩
      · rw [nI_clamp (by omega)]; exact ⟨j1, j2⟩
      · rw [nI_clamp (by omega)]; exact z2
    · exact h
  · exact h
theorem WF.toll {S : gSt} (h : WF S) {p q : Nat} (hp : p ≤ 9) (hq : q ≤ 9) : WF (sN (sN S 4 p) 5 q) := by
  obtain ⟨⟨a, b, c, d, e, f⟩, h2, h3, h4, h5, h6, h7, h8⟩ := h
  exact ⟨⟨a, b, c, hp, hq, f⟩, h2, h3, h4, h5, h6, h7, h8⟩
theorem wOk.toll {w : gWd} (h : wOk w) (p q : Int32) : wOk (oToll w p q).2.2 := by
  unfold oToll
  split
  · rename_i h1
    obtain ⟨j, j1, j2, rfl⟩ := (inB_iff (a := 0) (n := 9) (by decide) (by decide)).mp h1.1
    obtain ⟨z, z1, z2, rfl⟩ := (inB_iff (a := 0) (n := 9) (by decide) (by decide)).mp h1.2
    refine ⟨h.1.toll ?_ ?_, h.2⟩
    · rw [nI_clamp (by omega)]; exact j2
    · rw [nI_clamp (by omega)]; exact z2
  · exact h
theorem wOk.turn {w : gWd} (h : wOk w) : wOk (sTurn w.1, w.2) := ⟨h.1.turn, h.2⟩
theorem wOk.box {w : gWd} (h : wOk w) (x q : Int32) : wOk (oBox w x q).2.2 := by unfold oBox; split <;> exact h
theorem WF.box {S : gSt} (h : WF S) (e k v : Nat) : WF (sG S e k v) := h
theorem wOk.empty {w : gWd} (h : wOk w) (e : Int32) : wOk (oEmpty w e).2.2 := by
  unfold oEmpty
  split
  · exact ⟨(h.1.box _ _ _).box _ _ _, h.2⟩
  · exact h
theorem wOk.pass {w : gWd} (h : wOk w) (x : Int32) : wOk (oPass w x).2.2 := by
  unfold oPass
  split
  · exact ⟨h.1.run _, h.2⟩
  · exact h
end
section
/-! rows of whole, of the class (32.sel) -/
def nwC (e ax wt pc cn ch k : Nat) : Nat := match k with
  | 1 => e
  | 2 => ax
  | 3 => wt
  | 4 => pc
  | 5 => cn
  | 6 => ch
  | _ => 0
def sNew (S : gSt) (e ax wt pc cn ch : Nat) : gSt := (fun k => if k = 6 then S.1 6 + 1 else S.1 k, fun r => if r = e then S.2.1 e ++ [S.1 6] else S.2.1 r, S.2.2.1, fun i k => if i = S.1 6 then nwC e ax wt pc cn ch k else S.2.2.2.1 i k, fun i => if i = S.1 6 then -1 else S.2.2.2.2 i)
theorem WF.new {S : gSt} (h : WF S) (hn : S.1 6 < 16) {e ax wt pc cn ch : Nat} (he : e < 2) (hax : 1 ≤ ax ∧ ax ≤ 4) (hwt : wt ≤ 200) (hpc : 1 ≤ pc ∧ pc ≤ 3) (hcn : cn ≤ 100) (hch : ch ≤ 1) : WF (sNew S e ax wt pc cn ch) := by
  have hcr : ∀ i ∈ S.2.1 2, i ≠ S.1 6 := fun i hi => by have := h.mem hi; omega
  have q2 : (sNew S e ax wt pc cn ch).2.1 2 = S.2.1 2 := if_neg (by omega)
  have co : ∀ i, i ≠ S.1 6 → ∀ k, (sNew S e ax wt pc cn ch).2.2.2.1 i k = S.2.2.2.1 i k := fun i hi k => if_neg hi
  have cn' : ∀ k, (sNew S e ax wt pc cn ch).2.2.2.1 (S.1 6) k = nwC e ax wt pc cn ch k := fun k => if_pos rfl
  have n6 : (sNew S e ax wt pc cn ch).1 6 = S.1 6 + 1 := rfl
  have nk : ∀ k, k ≠ 6 → (sNew S e ax wt pc cn ch).1 k = S.1 k := fun k hk => if_neg hk
  refine ⟨?_, fun i hi => ?_, fun x hx => ?_, ?_, fun i => ?_, fun i hi => ?_, fun i hi j hj => ?_, fun i hi h8 => ?_⟩
  · obtain ⟨a, b, c, d, y, z⟩ := h.1
    exact ⟨a, b, c, d, y, hn⟩
  · rw [n6] at hi
    by_cases hin : i = S.1 6
    · subst hin
      exact ⟨by rw [cn']; exact Nat.le_of_lt_succ he, by rw [cn']; exact hax, by rw [cn']; exact hwt, by rw [cn']; exact hpc, by rw [cn']; exact hcn, by rw [cn']; exact hch, by rw [cn']; exact Nat.zero_le _, by rw [cn']; exact Nat.zero_le _⟩
    · exact (h.2.1 i (by omega)).of (fun k _ _ => co i hin k) (by rw [co i hin]; exact (h.2.1 i (by omega)).2.2.2.2.2.2.2)
  · have hnot : S.1 6 ∉ S.2.1 x := fun q => by have := (h.qmem hx q).1; omega
    have hq := h.2.2.1 x hx
    by_cases hxe : x = e
    · subst hxe
      have qx : (sNew S x ax wt pc cn ch).2.1 x = S.2.1 x ++ [S.1 6] := if_pos rfl
      rw [qx]
      refine ⟨List.nodup_append.mpr ⟨hq.1, by simp, fun a ha c hc q => hnot (by rw [List.mem_singleton.mp hc] at q; exact q ▸ ha)⟩, fun i => ?_⟩
      rw [List.mem_append, List.mem_singleton, n6]
      by_cases hin : i = S.1 6
      · subst hin
        rw [cn', cn']
        exact ⟨fun _ => ⟨Nat.lt_succ_self _, rfl, rfl⟩, fun _ => Or.inr rfl⟩
      · rw [co i hin, co i hin]
        constructor
        · rintro (q | q)
          · obtain ⟨a, b, c⟩ := (hq.2 i).mp q; exact ⟨by omega, b, c⟩
          · exact absurd q hin
        · rintro ⟨a, b, c⟩; exact Or.inl ((hq.2 i).mpr ⟨by omega, b, c⟩)
    · have qx : (sNew S e ax wt pc cn ch).2.1 x = S.2.1 x := if_neg hxe
      rw [qx]
      refine ⟨hq.1, fun i => ?_⟩
      rw [n6]
      by_cases hin : i = S.1 6
      · subst hin
        rw [cn', cn']
        constructor
        · intro q; exact absurd q hnot
        · rintro ⟨-, -, q⟩; exact absurd q.symm hxe
      · rw [co i hin, co i hin, hq.2 i]
        constructor
        · rintro ⟨a, b, c⟩; exact ⟨by omega, b, c⟩
        · rintro ⟨a, b, c⟩; exact ⟨by omega, b, c⟩
  · rw [q2]
    exact h.2.2.2.1.imp_of_mem (fun {a c} ha hc z => by rw [co c (hcr c hc), co a (hcr a ha)]; exact z)
  · rw [q2, n6]
    by_cases hin : i = S.1 6
    · subst hin
      rw [cn']
      constructor
      · intro q; exact absurd rfl (hcr _ q)
      · rintro ⟨-, q⟩; cases q
    · rw [co i hin, h.2.2.2.2.1 i]
      constructor
      · rintro ⟨a, b⟩; exact ⟨by omega, b⟩
      · rintro ⟨a, b⟩; exact ⟨by omega, b⟩
  · rw [q2] at hi
    rw [co i (hcr i hi), nk 2 (by decide)]
    exact h.2.2.2.2.2.1 i hi
  · rw [q2] at hi hj
    rw [co i (hcr i hi), co j (hcr j hj)]
    exact h.2.2.2.2.2.2.1 i hi j hj
  · rw [n6] at hi
    by_cases hin : i = S.1 6
    · subst hin
      rw [cn'] at h8
      cases h8
    · rw [co i hin] at h8
      rw [nk 0 (by decide)]
      show ∃ t : Nat, t ≤ S.1 0 ∧ (if i = S.1 6 then -1 else S.2.2.2.2 i) = nI t
      rw [if_neg hin]
      exact h.2.2.2.2.2.2.2 i (by omega) h8
def oCome (w : gWd) (e ax wt pc cn ch : Int32) : gOu := if ixB e 2 ∧ inB ax 1 4 ∧ inB wt 1 200 ∧ inB pc 1 3 ∧ inB cn 0 100 then (if w.1.1 6 = 16 then (2, 0, w) else (0, nI (w.1.1 6), (sNew w.1 e.toNatClampNeg ax.toNatClampNeg wt.toNatClampNeg pc.toNatClampNeg cn.toNatClampNeg ch.toNatClampNeg, w.2))) else (1, 0, w)
theorem wOk.come {w : gWd} (h : wOk w) (e ax wt pc cn : Int32) {c : Nat} (hc : c ≤ 1) : wOk (oCome w e ax wt pc cn (nI c)).2.2 := by
  unfold oCome
  split
  · rename_i h1
    obtain ⟨q1, q2, q3, q4, q5⟩ := h1
    split
    · exact h
    · rename_i h6
      have := h.1.1.2.2.2.2.2
      obtain ⟨j1, a1, rfl⟩ := (ixB_iff (n := 2) (by decide)).mp q1
      obtain ⟨j2, b1, b2, rfl⟩ := (inB_iff (a := 1) (n := 4) (by decide) (by decide)).mp q2
      obtain ⟨j3, c1, c2, rfl⟩ := (inB_iff (a := 1) (n := 200) (by decide) (by decide)).mp q3
      obtain ⟨j4, d1, d2, rfl⟩ := (inB_iff (a := 1) (n := 3) (by decide) (by decide)).mp q4
      obtain ⟨j5, e1, e2, rfl⟩ := (inB_iff (a := 0) (n := 100) (by decide) (by decide)).mp q5
      refine ⟨?_, h.2⟩
      show WF (sNew w.1 (nI j1).toNatClampNeg (nI j2).toNatClampNeg (nI j3).toNatClampNeg (nI j4).toNatClampNeg (nI j5).toNatClampNeg (nI c).toNatClampNeg)
      rw [nI_clamp (n := j1) (by omega), nI_clamp (n := j2) (by omega), nI_clamp (n := j3) (by omega), nI_clamp (n := j4) (by omega), nI_clamp (n := j5) (by omega), nI_clamp (n := c) (by omega)]
      exact h.1.new (by omega) a1 ⟨b1, b2⟩ c2 ⟨d1, d2⟩ e2 hc
  · exact h
def dgD0 (w : gWd) : Int64 := mixL ((List.range 11).map (cntV w)) 683
def dgD1 (w : gWd) : Int64 := mixL ((List.range w.2.1.1).map (fun j => nI (w.2.1.2 j))) (dgD0 w)
def dgD2 (w : gWd) : Int64 := mixL ((List.range 20).map (fun j => nI (w.2.2 j))) (dgD1 w)
def oDig (w : gWd) : Int64 := mixL (cartsL w.1 (w.1.1 6)) (mixL (gateL w.1 1) (mixL (gateL w.1 0) (dgD2 w)))
set_option maxHeartbeats 200000 in
abbrev rmX6_digest : Room := { frames := 4, cells := 0, slots := 0, locals := 94 }
set_option maxRecDepth 20000 in
theorem k_Cdigest {l : Launch} {B : gB} (hI : gI B) (V : gMem) (w : gWd) (hQ : COk V w) (hw : wOk w) : gM l B yX6_digest cX6_digest 4 (some .long) rmX6_digest [.ref (B.2.1 0 0 0)] V (fun v V' => v = some (.long (oDig w)) ∧ V' = V) := by
  refine gM_of (own := RX6) (L := [(0, .ref (B.2.1 0 0 0))]) (by decide +kernel) rfl hI (Nat.le_of_ble_eq_true rfl) rfl ?_
  intro Z hnL hR X F
  refine g_ldc2 X 683 qK_X6_239 dX6_digest_0 ?_
  refine g_lstore_n X rfl dX6_digest_3 [(1, .long 683), (0, .ref (B.2.1 0 0 0))] rfl (gnl_lt hnL (by decide)) ?_
  refine g_iconst X 0 (by decide) dX6_digest_4 ?_
  refine g_istore_n X rfl dX6_digest_5 [(3, .int 0), (1, .long 683), (0, .ref (B.2.1 0 0 0))] rfl (gnl_lt hnL (by decide)) ?_
  refine gG_L [2, 1, 0] (L' := [(0, .ref (B.2.1 0 0 0)), (1, .long 683), (3, .int 0)]) rfl ?_
  refine gG_Le [(0, .ref (B.2.1 0 0 0)), (1, .long (mixL ((List.range 0).map (cntV w)) 683)), (3, .int (nI 0))] (by rw [mixL_0]; rfl) ?_
  have loop : ∀ (f : Nat) (k : Nat) , k + f = 11 →  gG Z B (0, 0) V 6 [(0, .ref (B.2.1 0 0 0)), (1, .long (mixL ((List.range k).map (cntV w)) 683)), (3, .int (nI k))] [] := by
    intro f
    induction f with
    | zero =>
      intro k  hf 
      refine g_iload_n X 2 rfl dX6_digest_6 ?_
      refine g_bipush X 11 (by decide) dX6_digest_7 ?_
      refine g_icmp_ge X 28 (by decide) dX6_digest_9 (fun c1 => ?_) (fun c1 => ?_)
      · refine gG_Le [(0, .ref (B.2.1 0 0 0)), (1, .long (dgD0 w)), (3, .int (nI k))] (by rw [show k = 11 by omega]; rfl) ?_
        refine g_aload_n X 0 rfl dX6_digest_28 ?_
        refine gg_X6_code X ⟨by decide, by decide⟩ fX6_10 dX6_digest_29 ?_
        refine g_lload_n X 1 rfl dX6_digest_32 ?_
        refine g_callV X hR (rest := []) mX2_mixedInto lX6_245 (k_cmix hI V w.2.1 (dgD0 w) hQ.2.1 hw.2.1) rfl rfl (Nat.le_of_ble_eq_true rfl) ⟨by decide, by decide⟩ rfl rfl rfl ⟨Nat.le_of_ble_eq_true rfl, Nat.le_of_ble_eq_true rfl, Nat.le_of_ble_eq_true rfl, Nat.le_of_ble_eq_true rfl⟩ dX6_digest_33 (fun r2 V3 hz_4 => ?_)
        refine gG_ret hz_4.1 hz_4.2 ?_
        refine gG_st [.long (mixL ((List.range w.2.1.1).map (fun j => nI (w.2.1.2 j))) (dgD0 w))] rfl ?_
        refine gG_st [.long (dgD1 w)] (by rw [show (Value.long (mixL ((List.range w.2.1.1).map (fun j => nI (w.2.1.2 j))) (dgD0 w))) = .long (dgD1 w) from congrArg _ (rfl)]) ?_
        refine g_lstore_n X rfl dX6_digest_36 [(1, .long (dgD1 w)), (0, .ref (B.2.1 0 0 0)), (3, .int (nI k))] rfl (gnl_lt hnL (by decide)) ?_
        refine g_iconst X 0 (by decide) dX6_digest_37 ?_
        refine g_istore_n X rfl dX6_digest_38 [(3, .int 0), (1, .long (dgD1 w)), (0, .ref (B.2.1 0 0 0))] rfl (gnl_lt hnL (by decide)) ?_
        refine gG_L [2, 1, 0] (L' := [(0, .ref (B.2.1 0 0 0)), (1, .long (dgD1 w)), (3, .int 0)]) rfl ?_
        refine gG_Le [(0, .ref (B.2.1 0 0 0)), (1, .long (mixL ((List.range 0).map (fun j => nI (w.2.2 j))) (dgD1 w))), (3, .int (nI 0))] (by rw [mixL_0]; rfl) ?_
        have loop2 : ∀ (f : Nat) (t : Nat) , t + f = 20 →  gG Z B (0, 0) V 39 [(0, .ref (B.2.1 0 0 0)), (1, .long (mixL ((List.range t).map (fun j => nI (w.2.2 j))) (dgD1 w))), (3, .int (nI t))] [] := by
          intro f
          induction f with
          | zero =>
            intro t  hf 
            refine g_iload_n X 2 rfl dX6_digest_39 ?_
            refine g_aload_n X 0 rfl dX6_digest_40 ?_
            refine gg_X6_fog X ⟨by decide, by decide⟩ fX6_16 dX6_digest_41 ?_
            refine g_alen X (v := 20) ⟨by decide, by decide⟩ rfl (by decide) dX6_digest_44 ?_
            refine g_icmp_ge X 65 (by decide) dX6_digest_45 (fun c5 => ?_) (fun c5 => ?_)
            · refine gG_Le [(0, .ref (B.2.1 0 0 0)), (1, .long (dgD2 w)), (3, .int (nI t))] (by rw [show t = 20 by omega]; rfl) ?_
              refine g_aload_n X 0 rfl dX6_digest_65 ?_
              refine gg_X6_bridge X ⟨by decide, by decide⟩ fX6_23 dX6_digest_66 ?_
              refine g_lload_n X 1 rfl dX6_digest_69 ?_
              refine g_callV X hR (rest := []) mX0_mixedInto lX6_249 (k_bmix hI V 0 w.1 (dgD2 w) (by decide) hQ.1 hw.1.1.2.2.2.2.2 hw.1.2.1 (fun i hi h8 => hw.1.2.2.2.2.2.1 i (hw.1.on hi h8))) rfl rfl (Nat.le_of_ble_eq_true rfl) ⟨by decide, by decide⟩ rfl rfl rfl ⟨Nat.le_of_ble_eq_true rfl, Nat.le_of_ble_eq_true rfl, Nat.le_of_ble_eq_true rfl, Nat.le_of_ble_eq_true rfl⟩ dX6_digest_70 (fun r6 V7 hz_8 => ?_)
              refine gG_ret hz_8.1 hz_8.2 ?_
              refine gG_st [.long (mixL (cartsL w.1 (w.1.1 6)) (mixL (gateL w.1 1) (mixL (gateL w.1 0) (dgD2 w))))] rfl ?_
              refine g_lret X F ?_ rfl dX6_digest_73
              exact ⟨rfl, rfl⟩
            · first | exact absurd (nI_le (a := 20) (by omega) (by omega)) c5 | exact absurd c5 (nI_le (a := 20) (by omega) (by omega))
          | succ f ih =>
            intro t  hf 
            refine g_iload_n X 2 rfl dX6_digest_39 ?_
            refine g_aload_n X 0 rfl dX6_digest_40 ?_
            refine gg_X6_fog X ⟨by decide, by decide⟩ fX6_16 dX6_digest_41 ?_
            refine g_alen X (v := 20) ⟨by decide, by decide⟩ rfl (by decide) dX6_digest_44 ?_
            refine g_icmp_ge X 65 (by decide) dX6_digest_45 (fun c9 => ?_) (fun c9 => ?_)
            · first | exact absurd (nI_ge (b := 20) (by omega) (by decide)) c9 | exact absurd c9 (nI_ge (b := 20) (by omega) (by decide))
            · refine g_lload_n X 1 rfl dX6_digest_48 ?_
              refine g_aload_n X 0 rfl dX6_digest_49 ?_
              refine gg_X6_fog X ⟨by decide, by decide⟩ fX6_16 dX6_digest_50 ?_
              refine g_iload_n X 2 rfl dX6_digest_53 ?_
              refine g_ialdN X (t) rfl (by omega) (by decide) ⟨by decide, by decide⟩ rfl dX6_digest_54 ?_
              refine gG_top (nI (w.2.2 t)) (hQ.2.2 t (by omega)) ?_
              refine g_callS X hR (As := [.long (mixL ((List.range t).map (fun j => nI (w.2.2 j))) (dgD1 w)), .int (nI (w.2.2 t))]) (rest := []) mX6_mixed lX6_241 (k_mixed hI V (mixL ((List.range t).map (fun j => nI (w.2.2 j))) (dgD1 w)) (nI (w.2.2 t)) ) rfl rfl (Nat.le_of_ble_eq_true rfl) ⟨Nat.le_of_ble_eq_true rfl, Nat.le_of_ble_eq_true rfl, Nat.le_of_ble_eq_true rfl, Nat.le_of_ble_eq_true rfl⟩ dX6_digest_55 (fun r10 V11 hz_12 => ?_)
              refine gG_ret hz_12.1 hz_12.2 ?_
              refine gG_st [.long (mix1 (mixL ((List.range t).map (fun j => nI (w.2.2 j))) (dgD1 w)) (nI (w.2.2 t)))] rfl ?_
              refine gG_st [.long (mixL ((List.range (t + 1)).map (fun j => nI (w.2.2 j))) (dgD1 w))] (by rw [show (Value.long (mix1 (mixL ((List.range t).map (fun j => nI (w.2.2 j))) (dgD1 w)) (nI (w.2.2 t)))) = .long (mixL ((List.range (t + 1)).map (fun j => nI (w.2.2 j))) (dgD1 w)) from congrArg _ ((mixL_range _ _ _).symm)]) ?_
              refine g_lstore_n X rfl dX6_digest_58 [(1, .long (mixL ((List.range (t + 1)).map (fun j => nI (w.2.2 j))) (dgD1 w))), (0, .ref (B.2.1 0 0 0)), (3, .int (nI t))] rfl (gnl_lt hnL (by decide)) ?_
              refine g_iinc X 2 rfl (nI (t + 1)) (iinc_1 _) dX6_digest_59 [(3, .int (nI (t + 1))), (1, .long (mixL ((List.range (t + 1)).map (fun j => nI (w.2.2 j))) (dgD1 w))), (0, .ref (B.2.1 0 0 0))] rfl (gnl_lt hnL (by decide)) ?_
              refine g_goto X 39 (by decide) dX6_digest_62 ?_
              refine gG_L [2, 1, 0] (L' := [(0, .ref (B.2.1 0 0 0)), (1, .long (mixL ((List.range (t + 1)).map (fun j => nI (w.2.2 j))) (dgD1 w))), (3, .int (nI (t + 1)))]) rfl ?_
              refine ih (t + 1) (by omega)
        exact loop2 20 0 (by omega)
      · first | exact absurd (nI_le (a := 11) (by omega) (by omega)) c1 | exact absurd c1 (nI_le (a := 11) (by omega) (by omega))
    | succ f ih =>
      intro k  hf 
      refine g_iload_n X 2 rfl dX6_digest_6 ?_
      refine g_bipush X 11 (by decide) dX6_digest_7 ?_
      refine g_icmp_ge X 28 (by decide) dX6_digest_9 (fun c13 => ?_) (fun c13 => ?_)
      · first | exact absurd (nI_ge (b := 11) (by omega) (by decide)) c13 | exact absurd c13 (nI_ge (b := 11) (by omega) (by decide))
      · refine g_lload_n X 1 rfl dX6_digest_12 ?_
        refine g_aload_n X 0 rfl dX6_digest_13 ?_
        refine g_iload_n X 2 rfl dX6_digest_14 ?_
        refine g_callV X hR (rest := [.long (mixL ((List.range k).map (cntV w)) 683)]) mX6_countOf lX6_217 (k_countOf hI V w k hQ hw (by omega)) rfl rfl (Nat.le_of_ble_eq_true rfl) ⟨by decide, by decide⟩ rfl rfl rfl ⟨Nat.le_of_ble_eq_true rfl, Nat.le_of_ble_eq_true rfl, Nat.le_of_ble_eq_true rfl, Nat.le_of_ble_eq_true rfl⟩ dX6_digest_15 (fun r14 V15 hz_16 => ?_)
        refine gG_ret hz_16.1 hz_16.2 ?_
        refine gG_st [.int (cntV w k), .long (mixL ((List.range k).map (cntV w)) 683)] rfl ?_
        refine g_callS X hR (As := [.long (mixL ((List.range k).map (cntV w)) 683), .int (cntV w k)]) (rest := []) mX6_mixed lX6_241 (k_mixed hI V (mixL ((List.range k).map (cntV w)) 683) (cntV w k) ) rfl rfl (Nat.le_of_ble_eq_true rfl) ⟨Nat.le_of_ble_eq_true rfl, Nat.le_of_ble_eq_true rfl, Nat.le_of_ble_eq_true rfl, Nat.le_of_ble_eq_true rfl⟩ dX6_digest_18 (fun r17 V18 hz_19 => ?_)
        refine gG_ret hz_19.1 hz_19.2 ?_
        refine gG_st [.long (mix1 (mixL ((List.range k).map (cntV w)) 683) (cntV w k))] rfl ?_
        refine gG_st [.long (mixL ((List.range (k + 1)).map (cntV w)) 683)] (by rw [show (Value.long (mix1 (mixL ((List.range k).map (cntV w)) 683) (cntV w k))) = .long (mixL ((List.range (k + 1)).map (cntV w)) 683) from congrArg _ ((mixL_range _ _ _).symm)]) ?_
        refine g_lstore_n X rfl dX6_digest_21 [(1, .long (mixL ((List.range (k + 1)).map (cntV w)) 683)), (0, .ref (B.2.1 0 0 0)), (3, .int (nI k))] rfl (gnl_lt hnL (by decide)) ?_
        refine g_iinc X 2 rfl (nI (k + 1)) (iinc_1 _) dX6_digest_22 [(3, .int (nI (k + 1))), (1, .long (mixL ((List.range (k + 1)).map (cntV w)) 683)), (0, .ref (B.2.1 0 0 0))] rfl (gnl_lt hnL (by decide)) ?_
        refine g_goto X 6 (by decide) dX6_digest_25 ?_
        refine gG_L [2, 1, 0] (L' := [(0, .ref (B.2.1 0 0 0)), (1, .long (mixL ((List.range (k + 1)).map (cntV w)) 683)), (3, .int (nI (k + 1)))]) rfl ?_
        refine ih (k + 1) (by omega)
  exact loop 11 0 (by omega)
theorem AbsC.new {V V' : gMem} {S : gSt} {e ax wt pc cn ch : Nat} (h : AbsC V 0 S) (hn : S.1 6 < 16) (h6 : V' 10 0 0 6 = nI (S.1 6 + 1)) (h10 : ∀ k, k < 6 → V' 10 0 0 k = V 10 0 0 k) (hr : RowIs V' 0 e (S.2.1 e ++ [S.1 6])) (hro : ∀ r, r < 3 → r ≠ e → V' 13 0 r = V 13 0 r ∧ V' 14 0 r = V 14 0 r)
    (h12 : ∀ x, x < 2 → V' 12 0 x = V 12 0 x) (hc : ∀ k, 1 ≤ k → k ≤ 9 → V' 15 0 (S.1 6) k = nI (nwC e ax wt pc cn ch k)) (h1 : V' 15 0 (S.1 6) 10 = -1) (h0 : V' 15 0 (S.1 6) 0 = nI (S.1 6)) (ho : ∀ i, i ≠ S.1 6 → V' 15 0 i = V 15 0 i) : AbsC V' 0 (sNew S e ax wt pc cn ch) := by
  refine ⟨fun k hk => ?_, fun r hr3 => ?_, fun x hx k k1 k2 => ?_, fun i hi k k1 k2 => ?_, fun i hi => ?_, fun i hi => ?_, fun h00 i hi1 hi2 => ?_⟩
  · show _ = nI (if k = 6 then S.1 6 + 1 else S.1 k)
    by_cases hk6 : k = 6
    · rw [hk6, if_pos rfl]; exact h6
    · rw [if_neg hk6, h10 k (by omega)]; exact h.1 k hk
  · show RowIs V' 0 r (if r = e then S.2.1 e ++ [S.1 6] else S.2.1 r)
    by_cases hre : r = e
    · rw [if_pos hre, hre]; exact hr
    · rw [if_neg hre]; exact (h.2.1 r hr3).same (hro r hr3 hre).1 (hro r hr3 hre).2
  · rw [h12 x hx]; exact h.2.2.1 x hx k k1 k2
  · have hi : i < S.1 6 + 1 := hi
    show _ = nI (if i = S.1 6 then nwC e ax wt pc cn ch k else S.2.2.2.1 i k)
    by_cases hin : i = S.1 6
    · rw [hin, if_pos rfl]; exact hc k k1 k2
    · rw [if_neg hin, ho i hin]; exact h.2.2.2.1 i (by omega) k k1 k2
  · have hi : i < S.1 6 + 1 := hi
    show _ = (if i = S.1 6 then -1 else S.2.2.2.2 i)
    by_cases hin : i = S.1 6
    · rw [hin, if_pos rfl]; exact h1
    · rw [if_neg hin, ho i hin]; exact h.2.2.2.2.1 i (by omega)
  · by_cases hin : i = S.1 6
    · rw [hin]; exact h0
    · rw [ho i hin]; exact h.2.2.2.2.2.1 i hi
  · have hi1 : S.1 6 + 1 ≤ i := hi1
    have hin : i ≠ S.1 6 := by omega
    rw [ho i hin]
    have q := h.2.2.2.2.2.2 rfl i (by omega) hi2
    refine ⟨fun k k1 k2 => ?_, ?_⟩
    · show _ = nI (if i = S.1 6 then nwC e ax wt pc cn ch k else S.2.2.2.1 i k)
      rw [if_neg hin]; exact q.1 k k1 k2
    · show _ = (if i = S.1 6 then -1 else S.2.2.2.2 i)
      rw [if_neg hin]; exact q.2
def oCount (w : gWd) (x : Int32) : gOu := if ixB x 11 then (0, cntV w x.toNatClampNeg, w) else (1, 0, w)
theorem WF.qlen {S : gSt} (h : WF S) {e : Nat} (he : e < 2) : (S.2.1 e).length ≤ S.1 6 := nodup_le (S.1 6) _ (h.2.2.1 e he).1 (fun x hx => (h.qmem he hx).1)
abbrev opo (w : gWd) (o : gOu) (V : gMem) : Option Value → gMem → Prop := fun v V' => v = some (.int o.2.1) ∧ o.1 = 0 ∧ COk V' o.2.2 ∧ N15 V' ∧ cmod V V'
theorem AbsC.fr {V V' : gMem} {S : gSt} (h : AbsC V 0 S) (hm : ∀ K b i, 10 ≤ K → K ≤ 15 → V' K b i = V K b i) : AbsC V' 0 S :=
  ⟨fun k hk => by rw [hm 10 0 0 (by decide) (by decide)]; exact h.1 k hk, fun r hr => (h.2.1 r hr).same (hm _ _ _ (by decide) (by decide)) (hm _ _ _ (by decide) (by decide)), fun x hx k h1 h2 => by rw [hm 12 0 x (by decide) (by decide)]; exact h.2.2.1 x hx k h1 h2, fun i hi k h1 h2 => by rw [hm 15 0 i (by decide) (by decide)]; exact h.2.2.2.1 i hi k h1 h2, fun i hi => by rw [hm 15 0 i (by decide) (by decide)]; exact h.2.2.2.2.1 i hi, fun i hi => by rw [hm 15 0 i (by decide) (by decide)]; exact h.2.2.2.2.2.1 i hi, fun h0 i h1 h2 => by rw [hm 15 0 i (by decide) (by decide)]; exact h.2.2.2.2.2.2 h0 i h1 h2⟩
theorem N15.fr {V V' : gMem} (h : N15 V) (hm : ∀ b i, V' 15 b i = V 15 b i) : N15 V' := fun b hb j hj => by rw [hm]; exact h b hb j hj
def frS (n : Nat) (S T : gSt) : Prop := ∀ i, n ≤ i → T.2.2.2.1 i = S.2.2.2.1 i ∧ T.2.2.2.2 i = S.2.2.2.2 i
theorem frS.rf {n : Nat} {S : gSt} : frS n S S := fun _ _ => ⟨rfl, rfl⟩
theorem frS.trans {n : Nat} {S T U : gSt} (h : frS n S T) (h2 : frS n T U) : frS n S U := fun i hi => ⟨(h2 i hi).1.trans (h i hi).1, (h2 i hi).2.trans (h i hi).2⟩
theorem frS.sC {n : Nat} (S : gSt) {i : Nat} (k v : Nat) (hi : i < n) : frS n S (sC S i k v) := fun j hj => ⟨funext fun k' => if_neg (fun q => by omega), rfl⟩
theorem frS.sO {n : Nat} (S : gSt) {i : Nat} (v : Int32) (hi : i < n) : frS n S (sO S i v) := fun j hj => ⟨rfl, if_neg (fun q => by omega)⟩
theorem frS.sQ {n : Nat} (S : gSt) (r : Nat) (xs : List Nat) : frS n S (sQ S r xs) := fun _ _ => ⟨rfl, rfl⟩
theorem frS.sN {n : Nat} (S : gSt) (k v : Nat) : frS n S (sN S k v) := fun _ _ => ⟨rfl, rfl⟩
theorem goOnL_fr (pl tk n : Nat) : ∀ (is : List Nat) (lim : Nat) (S : gSt), (∀ i ∈ is, i < n) → frS n S (goOnL pl tk is lim S).1 := by
  intro is
  induction is with
  | nil => intro lim S _; exact frS.rf
  | cons i is ih =>
    intro lim S h
    have hi := h i List.mem_cons_self
    have hr : ∀ j ∈ is, j < n := fun j hj => h j (List.mem_cons_of_mem _ hj)
    unfold goOnL
    split
    · exact (frS.sC S 9 _ hi).trans (ih _ _ hr)
    · exact ((frS.sC S 8 2 hi).trans (frS.sO _ _ hi)).trans (ih _ _ hr)
theorem backL_fr (n : Nat) : ∀ (is : List Nat) (S : gSt), (∀ i ∈ is, i < n) → frS n S (backL is S) := by
  intro is
  induction is with
  | nil => intro S _; exact frS.rf
  | cons i is ih =>
    intro S h
    exact (frS.sC S 9 _ (h i List.mem_cons_self)).trans (ih _ (fun j hj => h j (List.mem_cons_of_mem _ hj)))
theorem sLeave_fr {n : Nat} (S : gSt) {l : Nat} (ys : List Nat) (hl : l < n) : frS n S (sLeave S l ys) := ((frS.sC S 8 0 hl).trans (frS.sQ _ _ _)).trans (frS.sQ _ _ _)
theorem sGoBack_fr {S : gSt} (h : WF S) : frS (S.1 6) S (sGoBack S) := by
  have hm : ∀ i ∈ (S.2.1 2).reverse, i < S.1 6 := fun i hi => h.mem (List.mem_reverse.mp hi)
  unfold sGoBack
  split
  · exact frS.rf
  · rename_i l rs e
    rw [e] at hm
    split
    · exact (sLeave_fr S rs.reverse (hm l List.mem_cons_self)).trans (backL_fr _ _ _ (fun j hj => hm j (List.mem_cons_of_mem _ hj)))
    · exact backL_fr _ _ _ hm
theorem sMove_fr {S : gSt} (h : WF S) : frS (S.1 6) S (sMove S).1 := by
  unfold sMove
  split
  · exact frS.rf
  · split
    · exact (goOnL_fr _ _ _ _ _ S (fun i hi => h.mem hi)).trans (frS.sQ _ _ _)
    · exact sGoBack_fr h
theorem sTake_fr {n : Nat} (S : gSt) (e i pd hn : Nat) : frS n S (sTake S e i pd hn) := fun _ _ => ⟨rfl, rfl⟩
theorem sPay_fr {n : Nat} (S : gSt) (e : Nat) {i : Nat} (hi : i < n) : frS n S (sPay S e i) := ((frS.sC S 5 _ hi).trans (frS.sC _ 7 1 hi)).trans (sTake_fr _ _ _ _ _)
theorem sCome_fr {S : gSt} (h : WF S) : frS (S.1 6) S (sCome S) := by
  have hd : S.1 1 < 2 := by have := h.1.1; omega
  unfold sCome
  split
  · exact frS.rf
  · rename_i i ys e
    have hi : i < S.1 6 := (h.qmem hd (by rw [e]; exact List.mem_cons_self)).1
    split
    · simp only
      split
      · exact (frS.sQ S _ ys).trans (frS.sC _ 8 3 hi)
      · refine (frS.sQ S (S.1 1) ys).trans ?_
        refine frS.trans ?_ (((frS.sC _ 8 1 hi).trans (frS.sC _ 9 0 hi)).trans (frS.sQ _ _ _))
        split
        · exact sPay_fr _ _ hi
        · exact frS.rf
    · exact frS.rf
def Fr (S : gSt) : Prop := ∀ i, S.1 6 ≤ i → i < 16 → S.2.2.2.1 i 7 = 0 ∧ S.2.2.2.1 i 8 = 0 ∧ S.2.2.2.1 i 9 = 0 ∧ S.2.2.2.2 i = -1
theorem Fr.of {S T : gSt} (h : Fr S) (h6 : T.1 6 = S.1 6) (hf : frS (S.1 6) S T) : Fr T := fun i hi h16 => by
  rw [h6] at hi
  rw [(hf i hi).1, (hf i hi).2]
  exact h i hi h16
theorem Fr.tick {S : gSt} (h : Fr S) (hw : WF S) : Fr (sTick S).1 := by
  have h1 := h.of (congrFun (sMove_num hw) 6) (sMove_fr hw)
  have h2 := h1.of (congrFun (sCome_num _) 6) (sCome_fr hw.move)
  exact h2.of rfl (frS.sN _ _ _)
theorem Fr.run : ∀ (n : Nat) {S : gSt}, Fr S → WF S → Fr (sRun n S).1
  | 0, _, h, _ => h
  | n + 1, _, h, hw => Fr.run n (h.tick hw) hw.tick
/-- the world is well, carts to come included -/
def vOk (w : gWd) : Prop := wOk w ∧ Fr w.1
theorem vOk.build {w : gWd} (h : vOk w) (p q : Int32) : vOk (oBuild w p q).2.2 := ⟨h.1.build p q, by unfold oBuild; split <;> (try split) <;> exact h.2⟩
theorem vOk.toll {w : gWd} (h : vOk w) (p q : Int32) : vOk (oToll w p q).2.2 := ⟨h.1.toll p q, by unfold oToll; split <;> exact h.2⟩
theorem vOk.turn {w : gWd} (h : vOk w) : vOk (sTurn w.1, w.2) := ⟨h.1.turn, h.2⟩
theorem vOk.box {w : gWd} (h : vOk w) (x q : Int32) : vOk (oBox w x q).2.2 := ⟨h.1.box x q, by unfold oBox; split <;> exact h.2⟩
theorem vOk.empty {w : gWd} (h : vOk w) (e : Int32) : vOk (oEmpty w e).2.2 := ⟨h.1.empty e, by unfold oEmpty; split <;> exact h.2⟩
theorem vOk.pass {w : gWd} (h : vOk w) (x : Int32) : vOk (oPass w x).2.2 := ⟨h.1.pass x, by unfold oPass; split <;> first | exact h.2.run _ h.1.1 | exact h.2⟩
theorem Fr.new {S : gSt} (h : Fr S) (e ax wt pc cn ch : Nat) : Fr (sNew S e ax wt pc cn ch) := fun i hi h16 => by
  have hi : S.1 6 + 1 ≤ i := hi
  have hin : i ≠ S.1 6 := by omega
  have e1 : ∀ k, (sNew S e ax wt pc cn ch).2.2.2.1 i k = S.2.2.2.1 i k := fun k => if_neg hin
  have e2 : (sNew S e ax wt pc cn ch).2.2.2.2 i = S.2.2.2.2 i := if_neg hin
  rw [e1, e1, e1, e2]
  exact h i (by omega) h16
theorem vOk.come {w : gWd} (h : vOk w) (e ax wt pc cn : Int32) {c : Nat} (hc : c ≤ 1) : vOk (oCome w e ax wt pc cn (nI c)).2.2 := ⟨h.1.come e ax wt pc cn hc, by
  unfold oCome
  split
  · split
    · exact h.2
    · exact h.2.new _ _ _ _ _ _
  · exact h.2⟩
theorem sMove_0 {S : gSt} (h : WF S) : (sMove S).1.1 0 = S.1 0 := congrFun (sMove_num h) 0
theorem sTick_0 {S : gSt} (h : WF S) : (sTick S).1.1 0 = S.1 0 + 1 := by
  show (sCome (sMove S).1).1 0 + 1 = _
  rw [congrFun (sCome_num _) 0, sMove_0 h]
theorem sRun_0 : ∀ (n : Nat) {S : gSt}, WF S → (sRun n S).1.1 0 = S.1 0 + n
  | 0, _, _ => rfl
  | n + 1, S, h => by
    show (sRun n (sTick S).1).1.1 0 = _
    rw [sRun_0 n h.tick, sTick_0 h]
    omega
end
section
/-! the class's calls, on valid arguments -/
abbrev rmX6_rebuild : Room := { frames := 1, cells := 0, slots := 0, locals := 22 }
set_option maxRecDepth 20000 in
theorem p_rebuild {l : Launch} {B : gB} (hI : gI B) (V : gMem) (w : gWd) (p : Int32) (q : Int32) (hQ : COk V w) (hw : wOk w) (hN : N15 V) (v1 : inB p 4 30) (v2 : inB q 10 500) (v3 : w.1.2.1 2 = []) : gM l B yX6_rebuild cX6_rebuild 4 (some .int) rmX6_rebuild [.ref (B.2.1 0 0 0), .int p, .int q] V (opo w (oBuild w p q) V) := by
  refine gM_of (own := RX6) (L := [(0, .ref (B.2.1 0 0 0)), (1, .int p), (2, .int q)]) (by decide +kernel) rfl hI (Nat.le_of_ble_eq_true rfl) rfl ?_
  intro Z hnL hR X F
  have hl16 : (w.1.2.1 2).length ≤ 16 := hQ.1.bnd (by decide)
  refine g_iload_n X 1 rfl dX6_rebuild_0 ?_
  refine g_iconst X 4 (by decide) dX6_rebuild_1 ?_
  refine g_bipush X 30 (by decide) dX6_rebuild_2 ?_
  refine g_callS X hR (As := [.int p, .int 4, .int 30]) (rest := []) mX6_isBetween lX6_39 (k_isBetween hI V p 4 30 ) rfl rfl (Nat.le_of_ble_eq_true rfl) ⟨Nat.le_of_ble_eq_true rfl, Nat.le_of_ble_eq_true rfl, Nat.le_of_ble_eq_true rfl, Nat.le_of_ble_eq_true rfl⟩ dX6_rebuild_4 (fun r1 V2 hz_3 => ?_)
  refine gG_ret hz_3.1 hz_3.2 ?_
  refine gG_st [.int (if inB p 4 30 then 1 else 0)] rfl ?_
  by_cases hP : inB p 4 30
  · refine gG_top 1 (if_pos (hP)) ?_
    refine g_if_eq X 22 (by decide) dX6_rebuild_7 (fun c4 => ?_) (fun c4 => ?_)
    ·  exact absurd c4 (by decide)
    · refine g_iload_n X 2 rfl dX6_rebuild_10 ?_
      refine g_bipush X 10 (by decide) dX6_rebuild_11 ?_
      refine g_sipush X 500 (by decide) dX6_rebuild_13 ?_
      refine g_callS X hR (As := [.int q, .int 10, .int 500]) (rest := []) mX6_isBetween lX6_39 (k_isBetween hI V q 10 500 ) rfl rfl (Nat.le_of_ble_eq_true rfl) ⟨Nat.le_of_ble_eq_true rfl, Nat.le_of_ble_eq_true rfl, Nat.le_of_ble_eq_true rfl, Nat.le_of_ble_eq_true rfl⟩ dX6_rebuild_16 (fun r5 V6 hz_7 => ?_)
      refine gG_ret hz_7.1 hz_7.2 ?_
      refine gG_st [.int (if inB q 10 500 then 1 else 0)] rfl ?_
      by_cases hW : inB q 10 500
      · refine gG_top 1 (if_pos (hW)) ?_
        refine g_if_ne X 32 (by decide) dX6_rebuild_19 (fun c8 => ?_) (fun c8 => ?_)
        · obtain ⟨j, j1, j2, jx⟩ := (inB_iff (a := 4) (n := 30) (by decide) (by decide)).mp hP
          subst jx
          obtain ⟨z, z1, z2, zx⟩ := (inB_iff (a := 10) (n := 500) (by decide) (by decide)).mp hW
          subst zx
          refine g_aload_n X 0 rfl dX6_rebuild_32 ?_
          refine gg_X6_bridge X ⟨by decide, by decide⟩ fX6_23 dX6_rebuild_33 ?_
          refine gg_X0_crossing X ⟨by decide, by decide⟩ fX6_110 dX6_rebuild_36 ?_
          refine gg_X5_size X ⟨by decide, by decide⟩ fX6_114 dX6_rebuild_39 ?_
          refine gG_top (nI (w.1.2.1 2).length) ((hQ.1.2.1 2 (by first | decide | omega)).1) ?_
          by_cases hon : w.1.2.1 2 = []
          · refine gG_top 0 (by rw [hon]; rfl) ?_
            refine g_if_le X 55 (by decide) dX6_rebuild_42 (fun c9 => ?_) (fun c9 => ?_)
            · refine g_aload_n X 0 rfl dX6_rebuild_55 ?_
              refine gg_X6_bridge X ⟨by decide, by decide⟩ fX6_23 dX6_rebuild_56 ?_
              refine gg_X0_bears X ⟨by decide, by decide⟩ fX6_119 dX6_rebuild_59 ?_
              refine gG_top (nI (w.1.1 3)) (hQ.1.1 3 (by decide)) ?_
              refine g_istore_n X rfl dX6_rebuild_62 [(3, .int (nI (w.1.1 3))), (0, .ref (B.2.1 0 0 0)), (1, .int (nI j)), (2, .int (nI z))] rfl (gnl_lt hnL (by decide)) ?_
              refine g_aload_n X 1 rfl dX6_rebuild_63 ?_
              refine gg_X6_bridge X ⟨by decide, by decide⟩ fX6_23 dX6_rebuild_64 ?_
              refine g_iload_n X 2 rfl dX6_rebuild_67 ?_
              refine gp_X0_places X ⟨by decide, by decide⟩ fX6_122 dX6_rebuild_68 ?_
              refine gG_nm (fun V10 hV10 => ?_)
              obtain ⟨S11, eS11⟩ : ∃ y, y = sN w.1 2 j := ⟨_, rfl⟩
              have hS11 : AbsC V10 0 S11 := by rw [eS11, hV10]; exact hQ.1.setN 2 j (by decide)
              have mS11 : brmod V V10 0 := by rw [hV10]; exact brmod.rf.up (by decide) (by decide)
              refine g_aload_n X 1 rfl dX6_rebuild_71 ?_
              refine gg_X6_bridge X ⟨by decide, by decide⟩ fX6_23 dX6_rebuild_72 ?_
              refine g_iload_n X 3 rfl dX6_rebuild_75 ?_
              refine gp_X0_bears X ⟨by decide, by decide⟩ fX6_119 dX6_rebuild_76 ?_
              refine gG_nm (fun V12 hV12 => ?_)
              obtain ⟨S13, eS13⟩ : ∃ y, y = sN S11 3 z := ⟨_, rfl⟩
              have hS13 : AbsC V12 0 S13 := by rw [eS13, hV12]; exact hS11.setN 3 z (by decide)
              have mS13 : brmod V V12 0 := by rw [hV12]; exact mS11.up (by decide) (by decide)
              refine g_iload_n X 0 rfl dX6_rebuild_79 ?_
              refine g_iret X F ?_ rfl dX6_rebuild_80
              have heq : S13 = sPB w.1 j z := by subst eS13 eS11; rfl
              rw [show oBuild w (nI j) (nI z) = (0, nI (w.1.1 3), (sPB w.1 j z, w.2)) from by unfold oBuild; rw [if_pos ⟨hP, hW⟩, if_pos hon, nI_clamp (by omega), nI_clamp (by omega)]]
              rw [heq] at hS13
              exact ⟨rfl, rfl, hQ.br mS13 hS13, hN.br mS13 hS13, mS13.cm⟩
            ·  exact absurd c9 (by decide)
          · skip
            refine g_if_le X 55 (by decide) dX6_rebuild_42 (fun c14 => ?_) (fun c14 => ?_)
            · first | exact absurd (nI_nle (List.length_pos_iff.mpr hon) (by omega)) c14 | exact absurd c14 (nI_nle (List.length_pos_iff.mpr hon) (by omega))
            · first | exact absurd v1 hP | exact absurd v2 hW | exact absurd v3 hon
        ·  exact absurd c8 (by decide)
      · refine gG_top 0 (if_neg (hW)) ?_
        refine g_if_ne X 32 (by decide) dX6_rebuild_19 (fun c15 => ?_) (fun c15 => ?_)
        ·  exact absurd c15 (by decide)
        · first | exact absurd v1 hP | exact absurd v2 hW | exact absurd v3 hon
  · refine gG_top 0 (if_neg (hP)) ?_
    refine g_if_eq X 22 (by decide) dX6_rebuild_7 (fun c16 => ?_) (fun c16 => ?_)
    · first | exact absurd v1 hP | exact absurd v2 hW | exact absurd v3 hon
    ·  exact absurd c16 (by decide)

abbrev rmX6_setToll : Room := { frames := 1, cells := 0, slots := 0, locals := 22 }
set_option maxRecDepth 20000 in
theorem p_setToll {l : Launch} {B : gB} (hI : gI B) (V : gMem) (w : gWd) (p : Int32) (q : Int32) (hQ : COk V w) (hw : wOk w) (hN : N15 V) (v1 : inB p 0 9) (v2 : inB q 0 9) : gM l B yX6_setToll cX6_setToll 4 (some .int) rmX6_setToll [.ref (B.2.1 0 0 0), .int p, .int q] V (opo w (oToll w p q) V) := by
  refine gM_of (own := RX6) (L := [(0, .ref (B.2.1 0 0 0)), (1, .int p), (2, .int q)]) (by decide +kernel) rfl hI (Nat.le_of_ble_eq_true rfl) rfl ?_
  intro Z hnL hR X F
  refine g_iload_n X 1 rfl dX6_setToll_0 ?_
  refine g_iconst X 0 (by decide) dX6_setToll_1 ?_
  refine g_bipush X 9 (by decide) dX6_setToll_2 ?_
  refine g_callS X hR (As := [.int p, .int 0, .int 9]) (rest := []) mX6_isBetween lX6_39 (k_isBetween hI V p 0 9 ) rfl rfl (Nat.le_of_ble_eq_true rfl) ⟨Nat.le_of_ble_eq_true rfl, Nat.le_of_ble_eq_true rfl, Nat.le_of_ble_eq_true rfl, Nat.le_of_ble_eq_true rfl⟩ dX6_setToll_4 (fun r1 V2 hz_3 => ?_)
  refine gG_ret hz_3.1 hz_3.2 ?_
  refine gG_st [.int (if inB p 0 9 then 1 else 0)] rfl ?_
  by_cases hP : inB p 0 9
  · refine gG_top 1 (if_pos (hP)) ?_
    refine g_if_eq X 20 (by decide) dX6_setToll_7 (fun c4 => ?_) (fun c4 => ?_)
    ·  exact absurd c4 (by decide)
    · refine g_iload_n X 2 rfl dX6_setToll_10 ?_
      refine g_iconst X 0 (by decide) dX6_setToll_11 ?_
      refine g_bipush X 9 (by decide) dX6_setToll_12 ?_
      refine g_callS X hR (As := [.int q, .int 0, .int 9]) (rest := []) mX6_isBetween lX6_39 (k_isBetween hI V q 0 9 ) rfl rfl (Nat.le_of_ble_eq_true rfl) ⟨Nat.le_of_ble_eq_true rfl, Nat.le_of_ble_eq_true rfl, Nat.le_of_ble_eq_true rfl, Nat.le_of_ble_eq_true rfl⟩ dX6_setToll_14 (fun r5 V6 hz_7 => ?_)
      refine gG_ret hz_7.1 hz_7.2 ?_
      refine gG_st [.int (if inB q 0 9 then 1 else 0)] rfl ?_
      by_cases hW : inB q 0 9
      · refine gG_top 1 (if_pos (hW)) ?_
        refine g_if_ne X 30 (by decide) dX6_setToll_17 (fun c8 => ?_) (fun c8 => ?_)
        · obtain ⟨j, j1, j2, jx⟩ := (inB_iff (a := 0) (n := 9) (by decide) (by decide)).mp hP
          subst jx
          obtain ⟨z, z1, z2, zx⟩ := (inB_iff (a := 0) (n := 9) (by decide) (by decide)).mp hW
          subst zx
          refine g_bipush X 10 (by decide) dX6_setToll_30 ?_
          refine g_aload_n X 0 rfl dX6_setToll_32 ?_
          refine gg_X6_bridge X ⟨by decide, by decide⟩ fX6_23 dX6_setToll_33 ?_
          refine gg_X0_axleToll X ⟨by decide, by decide⟩ fX6_127 dX6_setToll_36 ?_
          refine gG_top (nI (w.1.1 4)) (hQ.1.1 4 (by decide)) ?_
          refine g_imul X dX6_setToll_39 ?_
          refine gG_top (nI (10 * (w.1.1 4))) (pk_mul 10 (w.1.1 4)) ?_
          refine g_aload_n X 0 rfl dX6_setToll_40 ?_
          refine gg_X6_bridge X ⟨by decide, by decide⟩ fX6_23 dX6_setToll_41 ?_
          refine gg_X0_tenToll X ⟨by decide, by decide⟩ fX6_130 dX6_setToll_44 ?_
          refine gG_top (nI (w.1.1 5)) (hQ.1.1 5 (by decide)) ?_
          refine g_iadd X dX6_setToll_47 ?_
          refine gG_top (nI ((10 * (w.1.1 4)) + (w.1.1 5))) (nI_add (10 * (w.1.1 4)) (w.1.1 5)) ?_
          refine g_istore_n X rfl dX6_setToll_48 [(3, .int (nI ((10 * (w.1.1 4)) + (w.1.1 5)))), (0, .ref (B.2.1 0 0 0)), (1, .int (nI j)), (2, .int (nI z))] rfl (gnl_lt hnL (by decide)) ?_
          refine g_aload_n X 1 rfl dX6_setToll_49 ?_
          refine gg_X6_bridge X ⟨by decide, by decide⟩ fX6_23 dX6_setToll_50 ?_
          refine g_iload_n X 2 rfl dX6_setToll_53 ?_
          refine gp_X0_axleToll X ⟨by decide, by decide⟩ fX6_127 dX6_setToll_54 ?_
          refine gG_nm (fun V9 hV9 => ?_)
          obtain ⟨S10, eS10⟩ : ∃ y, y = sN w.1 4 j := ⟨_, rfl⟩
          have hS10 : AbsC V9 0 S10 := by rw [eS10, hV9]; exact hQ.1.setN 4 j (by decide)
          have mS10 : brmod V V9 0 := by rw [hV9]; exact brmod.rf.up (by decide) (by decide)
          refine g_aload_n X 1 rfl dX6_setToll_57 ?_
          refine gg_X6_bridge X ⟨by decide, by decide⟩ fX6_23 dX6_setToll_58 ?_
          refine g_iload_n X 3 rfl dX6_setToll_61 ?_
          refine gp_X0_tenToll X ⟨by decide, by decide⟩ fX6_130 dX6_setToll_62 ?_
          refine gG_nm (fun V11 hV11 => ?_)
          obtain ⟨S12, eS12⟩ : ∃ y, y = sN S10 5 z := ⟨_, rfl⟩
          have hS12 : AbsC V11 0 S12 := by rw [eS12, hV11]; exact hS10.setN 5 z (by decide)
          have mS12 : brmod V V11 0 := by rw [hV11]; exact mS10.up (by decide) (by decide)
          refine g_iload_n X 0 rfl dX6_setToll_65 ?_
          refine g_iret X F ?_ rfl dX6_setToll_66
          have heq : S12 = sN (sN w.1 4 j) 5 z := by subst eS12 eS10; rfl
          rw [show oToll w (nI j) (nI z) = (0, nI (10 * w.1.1 4 + w.1.1 5), (sN (sN w.1 4 j) 5 z, w.2)) from by unfold oToll; rw [if_pos ⟨hP, hW⟩, nI_clamp (by omega), nI_clamp (by omega)]]
          rw [heq] at hS12
          exact ⟨rfl, rfl, hQ.br mS12 hS12, hN.br mS12 hS12, mS12.cm⟩
        ·  exact absurd c8 (by decide)
      · refine gG_top 0 (if_neg (hW)) ?_
        refine g_if_ne X 30 (by decide) dX6_setToll_17 (fun c13 => ?_) (fun c13 => ?_)
        ·  exact absurd c13 (by decide)
        · first | exact absurd v1 hP | exact absurd v2 hW
  · refine gG_top 0 (if_neg (hP)) ?_
    refine g_if_eq X 20 (by decide) dX6_setToll_7 (fun c14 => ?_) (fun c14 => ?_)
    · first | exact absurd v1 hP | exact absurd v2 hW
    ·  exact absurd c14 (by decide)

abbrev rmX6_cart : Room := { frames := 2, cells := 0, slots := 0, locals := 44 }
set_option maxRecDepth 20000 in
theorem p_cart {l : Launch} {B : gB} (hI : gI B) (V : gMem) (w : gWd) (p : Int32) (q : Int32) (hQ : COk V w) (hw : wOk w) (hN : N15 V) (v1 : ixB p (nI (w.1.1 6))) (v2 : ixB q 9) : gM l B yX6_cart cX6_cart 4 (some .int) rmX6_cart [.ref (B.2.1 0 0 0), .int p, .int q] V (opo w (oCart w p q) V) := by
  refine gM_of (own := RX6) (L := [(0, .ref (B.2.1 0 0 0)), (1, .int p), (2, .int q)]) (by decide +kernel) rfl hI (Nat.le_of_ble_eq_true rfl) rfl ?_
  intro Z hnL hR X F
  have hN6 : w.1.1 6 ≤ 16 := hw.1.1.2.2.2.2.2
  refine g_aload_n X 0 rfl dX6_cart_0 ?_
  refine gg_X6_bridge X ⟨by decide, by decide⟩ fX6_23 dX6_cart_1 ?_
  refine g_iload_n X 1 rfl dX6_cart_4 ?_
  by_cases hP : ixB p (nI (w.1.1 6))
  · obtain ⟨j, j1, jx⟩ := (ixB_iff (n := w.1.1 6) (by omega)).mp hP
    subst jx
    refine g_callV X hR (rest := []) mX0_cartAt lX6_184 (k_cartAt hI V 0 w.1 j (by decide) hQ.1 hN6 j1) rfl rfl (Nat.le_of_ble_eq_true rfl) ⟨by decide, by decide⟩ rfl rfl rfl ⟨Nat.le_of_ble_eq_true rfl, Nat.le_of_ble_eq_true rfl, Nat.le_of_ble_eq_true rfl, Nat.le_of_ble_eq_true rfl⟩ dX6_cart_5 (fun r1 V2 hz_3 => ?_)
    refine gG_ret hz_3.1 hz_3.2 ?_
    refine gG_st [.ref (B.2.1 15 0 j)] rfl ?_
    refine g_astore_n X rfl dX6_cart_8 [(3, .ref (B.2.1 15 0 j)), (0, .ref (B.2.1 0 0 0)), (1, .int (nI j)), (2, .int q)] rfl (gnl_lt hnL (by decide)) ?_
    refine g_aload_n X 0 rfl dX6_cart_9 ?_
    refine g_ifnull X dX6_cart_10 ?_
    refine g_iload_n X 3 rfl dX6_cart_13 ?_
    refine g_bipush X 9 (by decide) dX6_cart_14 ?_
    refine g_callS X hR (As := [.int q, .int 9]) (rest := []) mX6_isIndex lX6_68 (k_isIndexD hI V q 9 ) rfl rfl (Nat.le_of_ble_eq_true rfl) ⟨Nat.le_of_ble_eq_true rfl, Nat.le_of_ble_eq_true rfl, Nat.le_of_ble_eq_true rfl, Nat.le_of_ble_eq_true rfl⟩ dX6_cart_16 (fun r4 V5 hz_6 => ?_)
    refine gG_ret hz_6.1 hz_6.2 ?_
    refine gG_st [.int (if ixB q 9 then 1 else 0)] rfl ?_
    by_cases hW : ixB q 9
    · refine gG_top 1 (if_pos (hW)) ?_
      refine g_if_ne X 32 (by decide) dX6_cart_19 (fun c7 => ?_) (fun c7 => ?_)
      · obtain ⟨z, z1, zx⟩ := (ixB_iff (n := 9) (by first | decide | omega)).mp hW
        subst zx
        refine g_aload_n X 1 rfl dX6_cart_32 ?_
        refine gg_X6_bridge X ⟨by decide, by decide⟩ fX6_23 dX6_cart_33 ?_
        refine g_aload_n X 0 rfl dX6_cart_36 ?_
        refine g_iload_n X 3 rfl dX6_cart_37 ?_
        refine g_callV X hR (rest := []) mX0_tellCart lX6_190 (k_tellCart hI V 0 w.1 j z (by decide) hQ.1 hN6 j1 (hw.1.2.1 j j1) (fun h8 => hw.1.2.2.2.2.2.1 j (hw.1.on j1 h8)) z1) rfl rfl (Nat.le_of_ble_eq_true rfl) ⟨by decide, by decide⟩ rfl rfl rfl ⟨Nat.le_of_ble_eq_true rfl, Nat.le_of_ble_eq_true rfl, Nat.le_of_ble_eq_true rfl, Nat.le_of_ble_eq_true rfl⟩ dX6_cart_38 (fun r8 V9 hz_10 => ?_)
        refine gG_ret hz_10.1 hz_10.2 ?_
        refine gG_st [.int (sTell w.1 j z)] rfl ?_
        refine g_iret X F ?_ rfl dX6_cart_41
        rw [show oCart w (nI j) (nI z) = (0, sTell w.1 j z, w) from by unfold oCart; rw [if_pos ⟨hP, hW⟩, nI_clamp (by omega), nI_clamp (by omega)]]
        exact ⟨rfl, rfl, hQ, hN, cmod.rf⟩
      ·  exact absurd c7 (by decide)
    · refine gG_top 0 (if_neg (hW)) ?_
      refine g_if_ne X 32 (by decide) dX6_cart_19 (fun c11 => ?_) (fun c11 => ?_)
      ·  exact absurd c11 (by decide)
      · first | exact absurd v1 hP | exact absurd v2 hW
  · skip
    refine g_callV X hR (rest := []) mX0_cartAt lX6_184 (k_cartAtout hI V 0 w.1 p (by decide) hQ.1 hN6 hP) rfl rfl (Nat.le_of_ble_eq_true rfl) ⟨by decide, by decide⟩ rfl rfl rfl ⟨Nat.le_of_ble_eq_true rfl, Nat.le_of_ble_eq_true rfl, Nat.le_of_ble_eq_true rfl, Nat.le_of_ble_eq_true rfl⟩ dX6_cart_5 (fun r12 V13 hz_14 => ?_)
    refine gG_ret hz_14.1 hz_14.2 ?_
    refine gG_st [.null] rfl ?_
    refine g_astore_nN X rfl dX6_cart_8 [(3, .null), (0, .ref (B.2.1 0 0 0)), (1, .int p), (2, .int q)] rfl (gnl_lt hnL (by decide)) ?_
    refine g_aload_nN X 0 rfl dX6_cart_9 ?_
    refine g_ifnullN X 22 (by decide) dX6_cart_10 ?_
    first | exact absurd v1 hP | exact absurd v2 hW

abbrev rmX6_queue : Room := { frames := 2, cells := 0, slots := 0, locals := 42 }
set_option maxRecDepth 20000 in
theorem p_queue {l : Launch} {B : gB} (hI : gI B) (V : gMem) (w : gWd) (p : Int32) (q : Int32) (hQ : COk V w) (hw : wOk w) (hN : N15 V) (v1 : ixB p 2) (v2 : ixB q (nI (w.1.2.1 p.toNatClampNeg).length)) : gM l B yX6_queue cX6_queue 3 (some .int) rmX6_queue [.ref (B.2.1 0 0 0), .int p, .int q] V (opo w (oQueue w p q) V) := by
  refine gM_of (own := RX6) (L := [(0, .ref (B.2.1 0 0 0)), (1, .int p), (2, .int q)]) (by decide +kernel) rfl hI (Nat.le_of_ble_eq_true rfl) rfl ?_
  intro Z hnL hR X F
  refine g_iload_n X 1 rfl dX6_queue_0 ?_
  refine g_iconst X 2 (by decide) dX6_queue_1 ?_
  refine g_callS X hR (As := [.int p, .int 2]) (rest := []) mX6_isIndex lX6_68 (k_isIndexD hI V p 2 ) rfl rfl (Nat.le_of_ble_eq_true rfl) ⟨Nat.le_of_ble_eq_true rfl, Nat.le_of_ble_eq_true rfl, Nat.le_of_ble_eq_true rfl, Nat.le_of_ble_eq_true rfl⟩ dX6_queue_2 (fun r1 V2 hz_3 => ?_)
  refine gG_ret hz_3.1 hz_3.2 ?_
  refine gG_st [.int (if ixB p 2 then 1 else 0)] rfl ?_
  by_cases hP : ixB p 2
  · refine gG_top 1 (if_pos (hP)) ?_
    refine g_if_eq X 29 (by decide) dX6_queue_5 (fun c4 => ?_) (fun c4 => ?_)
    ·  exact absurd c4 (by decide)
    · obtain ⟨j, j1, jx⟩ := (ixB_iff (n := 2) (by first | decide | omega)).mp hP
      subst jx
      have hl16 : (w.1.2.1 j).length ≤ 16 := hQ.1.bnd (by omega)
      refine g_iload_n X 2 rfl dX6_queue_8 ?_
      refine g_aload_n X 0 rfl dX6_queue_9 ?_
      refine gg_X6_bridge X ⟨by decide, by decide⟩ fX6_23 dX6_queue_10 ?_
      refine g_iload_n X 1 rfl dX6_queue_13 ?_
      refine g_callV X hR (rest := [.int q]) mX0_gateAt lX6_168 (k_gateAt hI V 0 j (by decide) j1) rfl rfl (Nat.le_of_ble_eq_true rfl) ⟨by decide, by decide⟩ rfl rfl rfl ⟨Nat.le_of_ble_eq_true rfl, Nat.le_of_ble_eq_true rfl, Nat.le_of_ble_eq_true rfl, Nat.le_of_ble_eq_true rfl⟩ dX6_queue_14 (fun r5 V6 hz_7 => ?_)
      refine gG_ret hz_7.1 hz_7.2 ?_
      refine gG_st [.ref (B.2.1 12 0 j), .int q] rfl ?_
      refine gg_X3_waiting X (gP_12 (by first | assumption | decide | omega) (by first | assumption | decide | omega)) fX6_172 dX6_queue_17 ?_
      refine gg_X5_size X (gP_13 (by first | assumption | decide | omega) (by first | assumption | decide | omega)) fX6_114 dX6_queue_20 ?_
      refine gG_top (nI (w.1.2.1 j).length) ((hQ.1.2.1 j (by first | decide | omega)).1) ?_
      refine g_callS X hR (As := [.int q, .int (nI (w.1.2.1 j).length)]) (rest := []) mX6_isIndex lX6_68 (k_isIndexD hI V q (nI (w.1.2.1 j).length) ) rfl rfl (Nat.le_of_ble_eq_true rfl) ⟨Nat.le_of_ble_eq_true rfl, Nat.le_of_ble_eq_true rfl, Nat.le_of_ble_eq_true rfl, Nat.le_of_ble_eq_true rfl⟩ dX6_queue_23 (fun r8 V9 hz_10 => ?_)
      refine gG_ret hz_10.1 hz_10.2 ?_
      refine gG_st [.int (if ixB q (nI (w.1.2.1 j).length) then 1 else 0)] rfl ?_
      by_cases hW : ixB q (nI (w.1.2.1 j).length)
      · refine gG_top 1 (if_pos (hW)) ?_
        refine g_if_ne X 39 (by decide) dX6_queue_26 (fun c11 => ?_) (fun c11 => ?_)
        · obtain ⟨z, z1, zx⟩ := (ixB_iff (n := (w.1.2.1 j).length) (by first | decide | omega)).mp hW
          subst zx
          refine g_aload_n X 0 rfl dX6_queue_39 ?_
          refine gg_X6_bridge X ⟨by decide, by decide⟩ fX6_23 dX6_queue_40 ?_
          refine g_iload_n X 1 rfl dX6_queue_43 ?_
          refine g_callV X hR (rest := []) mX0_gateAt lX6_168 (k_gateAt hI V 0 j (by decide) j1) rfl rfl (Nat.le_of_ble_eq_true rfl) ⟨by decide, by decide⟩ rfl rfl rfl ⟨Nat.le_of_ble_eq_true rfl, Nat.le_of_ble_eq_true rfl, Nat.le_of_ble_eq_true rfl, Nat.le_of_ble_eq_true rfl⟩ dX6_queue_44 (fun r12 V13 hz_14 => ?_)
          refine gG_ret hz_14.1 hz_14.2 ?_
          refine gG_st [.ref (B.2.1 12 0 j)] rfl ?_
          refine gg_X3_waiting X (gP_12 (by first | assumption | decide | omega) (by first | assumption | decide | omega)) fX6_172 dX6_queue_47 ?_
          refine g_iload_n X 2 rfl dX6_queue_50 ?_
          refine g_callV X hR (rest := []) mX5_at lX6_196 (k_at hI V 0 j (w.1.2.1 j) z (by decide) (by omega) (hQ.1.2.1 j (by omega)) (by omega)) rfl rfl (Nat.le_of_ble_eq_true rfl) (gP_13 (by first | assumption | decide | omega) (by first | assumption | decide | omega)) rfl rfl rfl ⟨Nat.le_of_ble_eq_true rfl, Nat.le_of_ble_eq_true rfl, Nat.le_of_ble_eq_true rfl, Nat.le_of_ble_eq_true rfl⟩ dX6_queue_51 (fun r15 V16 hz_17 => ?_)
          refine gG_ret hz_17.1 hz_17.2 ?_
          refine gG_st [.int (lat (w.1.2.1 j) z)] rfl ?_
          refine gG_top (nI ((w.1.2.1 j)[z]?.getD 0)) (by rw [lat_in z1, List.getElem?_eq_getElem z1]; rfl) ?_
          refine g_iret X F ?_ rfl dX6_queue_54
          rw [show oQueue w (nI j) (nI z) = (0, nI ((w.1.2.1 j)[z]?.getD 0), w) from by unfold oQueue; rw [nI_clamp (n := j) (by omega), if_pos ⟨hP, hW⟩, nI_clamp (by omega)]]
          exact ⟨rfl, rfl, hQ, hN, cmod.rf⟩
        ·  exact absurd c11 (by decide)
      · refine gG_top 0 (if_neg (hW)) ?_
        refine g_if_ne X 39 (by decide) dX6_queue_26 (fun c18 => ?_) (fun c18 => ?_)
        ·  exact absurd c18 (by decide)
        · first | exact absurd v1 hP | (rw [nI_clamp (by omega)] at v2; exact absurd v2 hW)
  · refine gG_top 0 (if_neg (hP)) ?_
    refine g_if_eq X 29 (by decide) dX6_queue_5 (fun c19 => ?_) (fun c19 => ?_)
    · first | exact absurd v1 hP | (rw [nI_clamp (by omega)] at v2; exact absurd v2 hW)
    ·  exact absurd c19 (by decide)

abbrev rmX6_box : Room := { frames := 1, cells := 0, slots := 0, locals := 21 }
set_option maxRecDepth 20000 in
theorem p_box {l : Launch} {B : gB} (hI : gI B) (V : gMem) (w : gWd) (p : Int32) (q : Int32) (hQ : COk V w) (hw : wOk w) (hN : N15 V) (v1 : ixB p 2) (v2 : ixB q 4) : gM l B yX6_box cX6_box 3 (some .int) rmX6_box [.ref (B.2.1 0 0 0), .int p, .int q] V (opo w (oBox w p q) V) := by
  refine gM_of (own := RX6) (L := [(0, .ref (B.2.1 0 0 0)), (1, .int p), (2, .int q)]) (by decide +kernel) rfl hI (Nat.le_of_ble_eq_true rfl) rfl ?_
  intro Z hnL hR X F
  refine g_iload_n X 1 rfl dX6_box_0 ?_
  refine g_iconst X 2 (by decide) dX6_box_1 ?_
  refine g_callS X hR (As := [.int p, .int 2]) (rest := []) mX6_isIndex lX6_68 (k_isIndexD hI V p 2 ) rfl rfl (Nat.le_of_ble_eq_true rfl) ⟨Nat.le_of_ble_eq_true rfl, Nat.le_of_ble_eq_true rfl, Nat.le_of_ble_eq_true rfl, Nat.le_of_ble_eq_true rfl⟩ dX6_box_2 (fun r1 V2 hz_3 => ?_)
  refine gG_ret hz_3.1 hz_3.2 ?_
  refine gG_st [.int (if ixB p 2 then 1 else 0)] rfl ?_
  by_cases hP : ixB p 2
  · refine gG_top 1 (if_pos (hP)) ?_
    refine g_if_eq X 16 (by decide) dX6_box_5 (fun c4 => ?_) (fun c4 => ?_)
    ·  exact absurd c4 (by decide)
    · obtain ⟨j, j1, jx⟩ := (ixB_iff (n := 2) (by first | decide | omega)).mp hP
      subst jx
      refine g_iload_n X 2 rfl dX6_box_8 ?_
      refine g_iconst X 4 (by decide) dX6_box_9 ?_
      refine g_callS X hR (As := [.int q, .int 4]) (rest := []) mX6_isIndex lX6_68 (k_isIndexD hI V q 4 ) rfl rfl (Nat.le_of_ble_eq_true rfl) ⟨Nat.le_of_ble_eq_true rfl, Nat.le_of_ble_eq_true rfl, Nat.le_of_ble_eq_true rfl, Nat.le_of_ble_eq_true rfl⟩ dX6_box_10 (fun r5 V6 hz_7 => ?_)
      refine gG_ret hz_7.1 hz_7.2 ?_
      refine gG_st [.int (if ixB q 4 then 1 else 0)] rfl ?_
      by_cases hW : ixB q 4
      · refine gG_top 1 (if_pos (hW)) ?_
        refine g_if_ne X 26 (by decide) dX6_box_13 (fun c8 => ?_) (fun c8 => ?_)
        · obtain ⟨z, z1, zx⟩ := (ixB_iff (n := 4) (by first | decide | omega)).mp hW
          subst zx
          refine g_aload_n X 0 rfl dX6_box_26 ?_
          refine gg_X6_bridge X ⟨by decide, by decide⟩ fX6_23 dX6_box_27 ?_
          refine g_iload_n X 1 rfl dX6_box_30 ?_
          refine g_callV X hR (rest := []) mX0_gateAt lX6_168 (k_gateAt hI V 0 j (by decide) j1) rfl rfl (Nat.le_of_ble_eq_true rfl) ⟨by decide, by decide⟩ rfl rfl rfl ⟨Nat.le_of_ble_eq_true rfl, Nat.le_of_ble_eq_true rfl, Nat.le_of_ble_eq_true rfl, Nat.le_of_ble_eq_true rfl⟩ dX6_box_31 (fun r9 V10 hz_11 => ?_)
          refine gG_ret hz_11.1 hz_11.2 ?_
          refine gG_st [.ref (B.2.1 12 0 j)] rfl ?_
          refine g_iload_n X 2 rfl dX6_box_34 ?_
          refine g_callV X hR (rest := []) mX3_tell lX6_201 (k_gtell hI V 0 w.1 j z (by decide) hQ.1 j1 z1) rfl rfl (Nat.le_of_ble_eq_true rfl) (gP_12 (by first | assumption | decide | omega) (by first | assumption | decide | omega)) rfl rfl rfl ⟨Nat.le_of_ble_eq_true rfl, Nat.le_of_ble_eq_true rfl, Nat.le_of_ble_eq_true rfl, Nat.le_of_ble_eq_true rfl⟩ dX6_box_35 (fun r12 V13 hz_14 => ?_)
          refine gG_ret hz_14.1 hz_14.2 ?_
          refine gG_st [.int (gTell w.1 j z)] rfl ?_
          refine g_iret X F ?_ rfl dX6_box_38
          rw [show oBox w (nI j) (nI z) = (0, gTell w.1 j z, w) from by unfold oBox; rw [if_pos ⟨hP, hW⟩, nI_clamp (by omega), nI_clamp (by omega)]]
          exact ⟨rfl, rfl, hQ, hN, cmod.rf⟩
        ·  exact absurd c8 (by decide)
      · refine gG_top 0 (if_neg (hW)) ?_
        refine g_if_ne X 26 (by decide) dX6_box_13 (fun c15 => ?_) (fun c15 => ?_)
        ·  exact absurd c15 (by decide)
        · first | exact absurd v1 hP | exact absurd v2 hW
  · refine gG_top 0 (if_neg (hP)) ?_
    refine g_if_eq X 16 (by decide) dX6_box_5 (fun c16 => ?_) (fun c16 => ?_)
    · first | exact absurd v1 hP | exact absurd v2 hW
    ·  exact absurd c16 (by decide)

abbrev rmX6_empty : Room := { frames := 1, cells := 0, slots := 0, locals := 21 }
set_option maxRecDepth 20000 in
theorem p_empty {l : Launch} {B : gB} (hI : gI B) (V : gMem) (w : gWd) (p : Int32) (hQ : COk V w) (hw : wOk w) (hN : N15 V) (v1 : ixB p 2) : gM l B yX6_empty cX6_empty 4 (some .int) rmX6_empty [.ref (B.2.1 0 0 0), .int p] V (opo w (oEmpty w p) V) := by
  refine gM_of (own := RX6) (L := [(0, .ref (B.2.1 0 0 0)), (1, .int p)]) (by decide +kernel) rfl hI (Nat.le_of_ble_eq_true rfl) rfl ?_
  intro Z hnL hR X F
  refine g_iload_n X 1 rfl dX6_empty_0 ?_
  refine g_iconst X 2 (by decide) dX6_empty_1 ?_
  refine g_callS X hR (As := [.int p, .int 2]) (rest := []) mX6_isIndex lX6_68 (k_isIndexD hI V p 2 ) rfl rfl (Nat.le_of_ble_eq_true rfl) ⟨Nat.le_of_ble_eq_true rfl, Nat.le_of_ble_eq_true rfl, Nat.le_of_ble_eq_true rfl, Nat.le_of_ble_eq_true rfl⟩ dX6_empty_2 (fun r1 V2 hz_3 => ?_)
  refine gG_ret hz_3.1 hz_3.2 ?_
  refine gG_st [.int (if ixB p 2 then 1 else 0)] rfl ?_
  by_cases hP : ixB p 2
  · refine gG_top 1 (if_pos (hP)) ?_
    refine g_if_ne X 18 (by decide) dX6_empty_5 (fun c4 => ?_) (fun c4 => ?_)
    · obtain ⟨j, j1, jx⟩ := (ixB_iff (n := 2) (by first | decide | omega)).mp hP
      subst jx
      refine g_aload_n X 0 rfl dX6_empty_18 ?_
      refine gg_X6_bridge X ⟨by decide, by decide⟩ fX6_23 dX6_empty_19 ?_
      refine g_iload_n X 1 rfl dX6_empty_22 ?_
      refine g_callV X hR (rest := []) mX0_gateAt lX6_168 (k_gateAt hI V 0 j (by decide) j1) rfl rfl (Nat.le_of_ble_eq_true rfl) ⟨by decide, by decide⟩ rfl rfl rfl ⟨Nat.le_of_ble_eq_true rfl, Nat.le_of_ble_eq_true rfl, Nat.le_of_ble_eq_true rfl, Nat.le_of_ble_eq_true rfl⟩ dX6_empty_23 (fun r5 V6 hz_7 => ?_)
      refine gG_ret hz_7.1 hz_7.2 ?_
      refine gG_st [.ref (B.2.1 12 0 j)] rfl ?_
      refine g_astore_n X rfl dX6_empty_26 [(2, .ref (B.2.1 12 0 j)), (0, .ref (B.2.1 0 0 0)), (1, .int (nI j))] rfl (gnl_lt hnL (by decide)) ?_
      refine g_aload_n X 0 rfl dX6_empty_27 ?_
      refine gg_X3_keptByCheats X (gP_12 (by first | assumption | decide | omega) (by first | assumption | decide | omega)) fX6_206 dX6_empty_28 ?_
      refine gG_top (nI (w.1.2.2.1 j 4)) (hQ.1.2.2.1 j (by first | assumption | decide | omega) 4 (by decide) (by decide)) ?_
      refine g_istore_n X rfl dX6_empty_31 [(3, .int (nI (w.1.2.2.1 j 4))), (2, .ref (B.2.1 12 0 j)), (0, .ref (B.2.1 0 0 0)), (1, .int (nI j))] rfl (gnl_lt hnL (by decide)) ?_
      refine g_aload_n X 1 rfl dX6_empty_32 ?_
      refine g_iconst X 0 (by decide) dX6_empty_33 ?_
      refine gp_X3_coins X (gP_12 (by first | assumption | decide | omega) (by first | assumption | decide | omega)) fX6_209 dX6_empty_34 ?_
      refine gG_nm (fun V8 hV8 => ?_)
      obtain ⟨S9, eS9⟩ : ∃ y, y = sG w.1 j 1 0 := ⟨_, rfl⟩
      have hS9 : AbsC V8 0 S9 := by rw [eS9, hV8]; exact hQ.1.setG j 1 0
      have mS9 : brmod V V8 0 := by rw [hV8]; exact brmod.rf.up (by decide) (by decide)
      have nS9 : S9.1 = w.1.1 := by rw [eS9]; exact rfl
      refine g_aload_n X 1 rfl dX6_empty_37 ?_
      refine g_iconst X 0 (by decide) dX6_empty_38 ?_
      refine gp_X3_keptByCheats X (gP_12 (by first | assumption | decide | omega) (by first | assumption | decide | omega)) fX6_206 dX6_empty_39 ?_
      refine gG_nm (fun V10 hV10 => ?_)
      obtain ⟨S11, eS11⟩ : ∃ y, y = sG S9 j 4 0 := ⟨_, rfl⟩
      have hS11 : AbsC V10 0 S11 := by rw [eS11, hV10]; exact hS9.setG j 4 0
      have mS11 : brmod V V10 0 := by rw [hV10]; exact mS9.up (by decide) (by decide)
      have nS11 : S11.1 = w.1.1 := by rw [eS11]; exact nS9
      refine g_iload_n X 0 rfl dX6_empty_42 ?_
      refine g_iret X F ?_ rfl dX6_empty_43
      have heq : S11 = sG (sG w.1 j 1 0) j 4 0 := by subst eS11 eS9; rfl
      rw [show oEmpty w (nI j) = (0, nI (w.1.2.2.1 j 4), (sG (sG w.1 j 1 0) j 4 0, w.2)) from by unfold oEmpty; rw [if_pos hP, nI_clamp (by omega)]]
      rw [heq] at hS11
      exact ⟨rfl, rfl, hQ.br mS11 hS11, hN.br mS11 hS11, mS11.cm⟩
    ·  exact absurd c4 (by decide)
  · refine gG_top 0 (if_neg (hP)) ?_
    refine g_if_ne X 18 (by decide) dX6_empty_5 (fun c12 => ?_) (fun c12 => ?_)
    ·  exact absurd c12 (by decide)
    · exact absurd v1 hP

abbrev rmX6_pass : Room := { frames := 6, cells := 0, slots := 0, locals := 133 }
set_option maxRecDepth 20000 in
theorem p_pass {l : Launch} {B : gB} (hI : gI B) (V : gMem) (w : gWd) (x : Int32) (hQ : COk V w) (hw : wOk w) (hN : N15 V) (v1 : inB x 1 200) : gM l B yX6_pass cX6_pass 2 (some .int) rmX6_pass [.ref (B.2.1 0 0 0), .int x] V (opo w (oPass w x) V) := by
  refine gM_of (own := RX6) (L := [(0, .ref (B.2.1 0 0 0)), (1, .int x)]) (by decide +kernel) rfl hI (Nat.le_of_ble_eq_true rfl) rfl ?_
  intro Z hnL hR X F
  refine g_iload_n X 1 rfl dX6_pass_0 ?_
  refine g_iconst X 1 (by decide) dX6_pass_1 ?_
  refine g_sipush X 200 (by decide) dX6_pass_2 ?_
  refine g_callS X hR (As := [.int x, .int 1, .int 200]) (rest := []) mX6_isBetween lX6_39 (k_isBetween hI V x 1 200 ) rfl rfl (Nat.le_of_ble_eq_true rfl) ⟨Nat.le_of_ble_eq_true rfl, Nat.le_of_ble_eq_true rfl, Nat.le_of_ble_eq_true rfl, Nat.le_of_ble_eq_true rfl⟩ dX6_pass_5 (fun r1 V2 hz_3 => ?_)
  refine gG_ret hz_3.1 hz_3.2 ?_
  refine gG_st [.int (if inB x 1 200 then 1 else 0)] rfl ?_
  by_cases hP : inB x 1 200
  · refine gG_top 1 (if_pos (hP)) ?_
    refine g_if_ne X 21 (by decide) dX6_pass_8 (fun c4 => ?_) (fun c4 => ?_)
    · obtain ⟨j, j1, j2, jx⟩ := (inB_iff (a := 1) (n := 200) (by decide) (by decide)).mp hP
      subst jx
      refine g_aload_n X 0 rfl dX6_pass_21 ?_
      refine gg_X6_bridge X ⟨by decide, by decide⟩ fX6_23 dX6_pass_22 ?_
      refine g_iload_n X 1 rfl dX6_pass_25 ?_
      refine g_callV X hR (rest := []) mX0_run lX6_212 (k_run hI V 0 w.1 j (by decide) hQ.1 hw.1 (by omega)) rfl rfl (Nat.le_of_ble_eq_true rfl) ⟨by decide, by decide⟩ rfl rfl rfl ⟨Nat.le_of_ble_eq_true rfl, Nat.le_of_ble_eq_true rfl, Nat.le_of_ble_eq_true rfl, Nat.le_of_ble_eq_true rfl⟩ dX6_pass_26 (fun r5 V6 hz_7 => ?_)
      refine gG_rv hz_7.1 ?_
      obtain ⟨-, haV6, hbV6⟩ := hz_7
      refine gG_st [.int (nI (sRun j w.1).2)] rfl ?_
      refine g_iret X F ?_ rfl dX6_pass_29
      rw [show oPass w (nI j) = (0, nI (sRun j w.1).2, ((sRun j w.1).1, w.2)) from by unfold oPass; rw [if_pos hP, nI_clamp (by omega)]]
      exact ⟨rfl, rfl, hQ.br hbV6 haV6, hN.br hbV6 haV6, hbV6.cm⟩
    ·  exact absurd c4 (by decide)
  · refine gG_top 0 (if_neg (hP)) ?_
    refine g_if_ne X 21 (by decide) dX6_pass_8 (fun c8 => ?_) (fun c8 => ?_)
    ·  exact absurd c8 (by decide)
    · exact absurd v1 hP

abbrev rmX6_count : Room := { frames := 4, cells := 0, slots := 0, locals := 87 }
set_option maxRecDepth 20000 in
theorem p_count {l : Launch} {B : gB} (hI : gI B) (V : gMem) (w : gWd) (x : Int32) (hQ : COk V w) (hw : wOk w) (hN : N15 V) (v1 : ixB x 11) : gM l B yX6_count cX6_count 2 (some .int) rmX6_count [.ref (B.2.1 0 0 0), .int x] V (opo w (oCount w x) V) := by
  refine gM_of (own := RX6) (L := [(0, .ref (B.2.1 0 0 0)), (1, .int x)]) (by decide +kernel) rfl hI (Nat.le_of_ble_eq_true rfl) rfl ?_
  intro Z hnL hR X F
  refine g_iload_n X 1 rfl dX6_count_0 ?_
  refine g_bipush X 11 (by decide) dX6_count_1 ?_
  refine g_callS X hR (As := [.int x, .int 11]) (rest := []) mX6_isIndex lX6_68 (k_isIndexD hI V x 11 ) rfl rfl (Nat.le_of_ble_eq_true rfl) ⟨Nat.le_of_ble_eq_true rfl, Nat.le_of_ble_eq_true rfl, Nat.le_of_ble_eq_true rfl, Nat.le_of_ble_eq_true rfl⟩ dX6_count_3 (fun r1 V2 hz_3 => ?_)
  refine gG_ret hz_3.1 hz_3.2 ?_
  refine gG_st [.int (if ixB x 11 then 1 else 0)] rfl ?_
  by_cases hP : ixB x 11
  · refine gG_top 1 (if_pos (hP)) ?_
    refine g_if_ne X 19 (by decide) dX6_count_6 (fun c4 => ?_) (fun c4 => ?_)
    · obtain ⟨j, j1, jx⟩ := (ixB_iff (n := 11) (by first | decide | omega)).mp hP
      subst jx
      refine g_aload_n X 0 rfl dX6_count_19 ?_
      refine g_iload_n X 1 rfl dX6_count_20 ?_
      refine g_callV X hR (rest := []) mX6_countOf lX6_217 (k_countOf hI V w j hQ hw j1) rfl rfl (Nat.le_of_ble_eq_true rfl) ⟨by decide, by decide⟩ rfl rfl rfl ⟨Nat.le_of_ble_eq_true rfl, Nat.le_of_ble_eq_true rfl, Nat.le_of_ble_eq_true rfl, Nat.le_of_ble_eq_true rfl⟩ dX6_count_21 (fun r5 V6 hz_7 => ?_)
      refine gG_ret hz_7.1 hz_7.2 ?_
      refine gG_st [.int (cntV w j)] rfl ?_
      refine g_iret X F ?_ rfl dX6_count_24
      rw [show oCount w (nI j) = (0, cntV w j, w) from by unfold oCount; rw [if_pos hP, nI_clamp (by omega)]]
      exact ⟨rfl, rfl, hQ, hN, cmod.rf⟩
    ·  exact absurd c4 (by decide)
  · refine gG_top 0 (if_neg (hP)) ?_
    refine g_if_ne X 19 (by decide) dX6_count_6 (fun c8 => ?_) (fun c8 => ?_)
    ·  exact absurd c8 (by decide)
    · exact absurd v1 hP
end
section
/-! a cart comes -/
abbrev rmX6_come : Room := { frames := 3, cells := 0, slots := 0, locals := 62 }
set_option maxRecDepth 20000 in
theorem p_come {l : Launch} {B : gB} (hI : gI B) (V : gMem) (w : gWd) (e : Int32) (ax : Int32) (wt : Int32) (pc : Int32) (cn : Int32) (c : Nat) (hQ : COk V w) (hw : wOk w) (hN : N15 V) (hc : c ≤ 1) (hfr : Fr w.1) (v1 : ixB e 2) (v2 : inB ax 1 4) (v3 : inB wt 1 200) (v4 : inB pc 1 3) (v5 : inB cn 0 100) (v6 : w.1.1 6 < 16) : gM l B yX6_come cX6_come 8 (some .int) rmX6_come [.ref (B.2.1 0 0 0), .int e, .int ax, .int wt, .int pc, .int cn, .int (nI c)] V (opo w (oCome w e ax wt pc cn (nI c)) V) := by
  refine gM_of (own := RX6) (L := [(0, .ref (B.2.1 0 0 0)), (1, .int e), (2, .int ax), (3, .int wt), (4, .int pc), (5, .int cn), (6, .int (nI c))]) (by decide +kernel) rfl hI (Nat.le_of_ble_eq_true rfl) rfl ?_
  intro Z hnL hR X F
  have hN6 : w.1.1 6 ≤ 16 := hw.1.1.2.2.2.2.2
  refine g_iload_n X 1 rfl dX6_come_0 ?_
  refine g_iconst X 2 (by decide) dX6_come_1 ?_
  refine g_callS X hR (As := [.int e, .int 2]) (rest := []) mX6_isIndex lX6_68 (k_isIndexD hI V e 2 ) rfl rfl (Nat.le_of_ble_eq_true rfl) ⟨Nat.le_of_ble_eq_true rfl, Nat.le_of_ble_eq_true rfl, Nat.le_of_ble_eq_true rfl, Nat.le_of_ble_eq_true rfl⟩ dX6_come_2 (fun r1 V2 hz_3 => ?_)
  refine gG_ret hz_3.1 hz_3.2 ?_
  refine gG_st [.int (if ixB e 2 then 1 else 0)] rfl ?_
  by_cases h1 : ixB e 2
  · refine gG_top 1 (if_pos (h1)) ?_
    refine g_if_eq X 49 (by decide) dX6_come_5 (fun c4 => ?_) (fun c4 => ?_)
    ·  exact absurd c4 (by decide)
    · refine g_iload_n X 2 rfl dX6_come_8 ?_
      refine g_iconst X 1 (by decide) dX6_come_9 ?_
      refine g_iconst X 4 (by decide) dX6_come_10 ?_
      refine g_callS X hR (As := [.int ax, .int 1, .int 4]) (rest := []) mX6_isBetween lX6_39 (k_isBetween hI V ax 1 4 ) rfl rfl (Nat.le_of_ble_eq_true rfl) ⟨Nat.le_of_ble_eq_true rfl, Nat.le_of_ble_eq_true rfl, Nat.le_of_ble_eq_true rfl, Nat.le_of_ble_eq_true rfl⟩ dX6_come_11 (fun r5 V6 hz_7 => ?_)
      refine gG_ret hz_7.1 hz_7.2 ?_
      refine gG_st [.int (if inB ax 1 4 then 1 else 0)] rfl ?_
      by_cases h2 : inB ax 1 4
      · refine gG_top 1 (if_pos (h2)) ?_
        refine g_if_eq X 49 (by decide) dX6_come_14 (fun c8 => ?_) (fun c8 => ?_)
        ·  exact absurd c8 (by decide)
        · refine g_iload_n X 3 rfl dX6_come_17 ?_
          refine g_iconst X 1 (by decide) dX6_come_18 ?_
          refine g_sipush X 200 (by decide) dX6_come_19 ?_
          refine g_callS X hR (As := [.int wt, .int 1, .int 200]) (rest := []) mX6_isBetween lX6_39 (k_isBetween hI V wt 1 200 ) rfl rfl (Nat.le_of_ble_eq_true rfl) ⟨Nat.le_of_ble_eq_true rfl, Nat.le_of_ble_eq_true rfl, Nat.le_of_ble_eq_true rfl, Nat.le_of_ble_eq_true rfl⟩ dX6_come_22 (fun r9 V10 hz_11 => ?_)
          refine gG_ret hz_11.1 hz_11.2 ?_
          refine gG_st [.int (if inB wt 1 200 then 1 else 0)] rfl ?_
          by_cases h3 : inB wt 1 200
          · refine gG_top 1 (if_pos (h3)) ?_
            refine g_if_eq X 49 (by decide) dX6_come_25 (fun c12 => ?_) (fun c12 => ?_)
            ·  exact absurd c12 (by decide)
            · refine g_iload X 4 rfl dX6_come_28 ?_
              refine g_iconst X 1 (by decide) dX6_come_30 ?_
              refine g_iconst X 3 (by decide) dX6_come_31 ?_
              refine g_callS X hR (As := [.int pc, .int 1, .int 3]) (rest := []) mX6_isBetween lX6_39 (k_isBetween hI V pc 1 3 ) rfl rfl (Nat.le_of_ble_eq_true rfl) ⟨Nat.le_of_ble_eq_true rfl, Nat.le_of_ble_eq_true rfl, Nat.le_of_ble_eq_true rfl, Nat.le_of_ble_eq_true rfl⟩ dX6_come_32 (fun r13 V14 hz_15 => ?_)
              refine gG_ret hz_15.1 hz_15.2 ?_
              refine gG_st [.int (if inB pc 1 3 then 1 else 0)] rfl ?_
              by_cases h4 : inB pc 1 3
              · refine gG_top 1 (if_pos (h4)) ?_
                refine g_if_eq X 49 (by decide) dX6_come_35 (fun c16 => ?_) (fun c16 => ?_)
                ·  exact absurd c16 (by decide)
                · refine g_iload X 5 rfl dX6_come_38 ?_
                  refine g_iconst X 0 (by decide) dX6_come_40 ?_
                  refine g_bipush X 100 (by decide) dX6_come_41 ?_
                  refine g_callS X hR (As := [.int cn, .int 0, .int 100]) (rest := []) mX6_isBetween lX6_39 (k_isBetween hI V cn 0 100 ) rfl rfl (Nat.le_of_ble_eq_true rfl) ⟨Nat.le_of_ble_eq_true rfl, Nat.le_of_ble_eq_true rfl, Nat.le_of_ble_eq_true rfl, Nat.le_of_ble_eq_true rfl⟩ dX6_come_43 (fun r17 V18 hz_19 => ?_)
                  refine gG_ret hz_19.1 hz_19.2 ?_
                  refine gG_st [.int (if inB cn 0 100 then 1 else 0)] rfl ?_
                  by_cases h5 : inB cn 0 100
                  · refine gG_top 1 (if_pos (h5)) ?_
                    refine g_if_ne X 59 (by decide) dX6_come_46 (fun c20 => ?_) (fun c20 => ?_)
                    · obtain ⟨j1, a1, q1⟩ := (ixB_iff (n := 2) (by decide)).mp h1
                      obtain ⟨j2, b1, b2, q2⟩ := (inB_iff (a := 1) (n := 4) (by decide) (by decide)).mp h2
                      obtain ⟨j3, c1, c2, q3⟩ := (inB_iff (a := 1) (n := 200) (by decide) (by decide)).mp h3
                      obtain ⟨j4, d1, d2, q4⟩ := (inB_iff (a := 1) (n := 3) (by decide) (by decide)).mp h4
                      obtain ⟨j5, e1, e2, q5⟩ := (inB_iff (a := 0) (n := 100) (by decide) (by decide)).mp h5
                      subst q1; subst q2; subst q3; subst q4; subst q5
                      refine g_aload_n X 0 rfl dX6_come_59 ?_
                      refine gg_X6_bridge X ⟨by decide, by decide⟩ fX6_23 dX6_come_60 ?_
                      by_cases h16 : w.1.1 6 = 16
                      · skip
                        refine g_callV X hR (rest := []) mX0_newCart lX6_141 (k_newCart16 hI V 0 w.1 (by decide) hQ.1 h16) rfl rfl (Nat.le_of_ble_eq_true rfl) ⟨by decide, by decide⟩ rfl rfl rfl ⟨Nat.le_of_ble_eq_true rfl, Nat.le_of_ble_eq_true rfl, Nat.le_of_ble_eq_true rfl, Nat.le_of_ble_eq_true rfl⟩ dX6_come_63 (fun r21 V22 hz_23 => ?_)
                        refine gG_ret hz_23.1 hz_23.2 ?_
                        refine gG_st [.null] rfl ?_
                        refine g_astoreN X dX6_come_66 [(7, .null), (0, .ref (B.2.1 0 0 0)), (1, .int (nI j1)), (2, .int (nI j2)), (3, .int (nI j3)), (4, .int (nI j4)), (5, .int (nI j5)), (6, .int (nI c))] rfl (gnl_lt hnL (by decide)) ?_
                        refine g_aloadN X 0 rfl dX6_come_68 ?_
                        refine g_ifnonnullN X dX6_come_70 ?_
                        first | exact absurd v1 h1 | exact absurd v2 h2 | exact absurd v3 h3 | exact absurd v4 h4 | exact absurd v5 h5 | omega
                      · have hn16 : w.1.1 6 < 16 := by omega
                        have hql := hw.1.qlen a1
                        refine g_callV X hR (rest := []) mX0_newCart lX6_141 (k_newCart hI V 0 w.1 (by decide) hQ.1 hn16) rfl rfl (Nat.le_of_ble_eq_true rfl) ⟨by decide, by decide⟩ rfl rfl rfl ⟨Nat.le_of_ble_eq_true rfl, Nat.le_of_ble_eq_true rfl, Nat.le_of_ble_eq_true rfl, Nat.le_of_ble_eq_true rfl⟩ dX6_come_63 (fun r24 V25 hz_26 => ?_)
                        refine gG_rv hz_26.1 ?_
                        have hV25 := hz_26.2
                        refine gG_st [.ref (B.2.1 15 0 (w.1.1 6))] rfl ?_
                        refine g_astore X dX6_come_66 [(7, .ref (B.2.1 15 0 (w.1.1 6))), (0, .ref (B.2.1 0 0 0)), (1, .int (nI j1)), (2, .int (nI j2)), (3, .int (nI j3)), (4, .int (nI j4)), (5, .int (nI j5)), (6, .int (nI c))] rfl (gnl_lt hnL (by decide)) ?_
                        refine g_aload X 0 rfl dX6_come_68 ?_
                        refine g_ifnonnull X 83 (by decide) dX6_come_70 ?_
                        refine g_aload X 0 rfl dX6_come_83 ?_
                        refine g_iload_n X 2 rfl dX6_come_85 ?_
                        refine gp_X1_end X (gP_15 (by first | assumption | decide | omega) (by first | assumption | decide | omega)) fX6_147 dX6_come_86 ?_
                        refine gG_nm (fun V27 hV27 => ?_)
                        refine g_aload X 0 rfl dX6_come_89 ?_
                        refine g_iload_n X 3 rfl dX6_come_91 ?_
                        refine gp_X1_axles X (gP_15 (by first | assumption | decide | omega) (by first | assumption | decide | omega)) fX6_152 dX6_come_92 ?_
                        refine gG_nm (fun V28 hV28 => ?_)
                        refine g_aload X 0 rfl dX6_come_95 ?_
                        refine g_iload_n X 4 rfl dX6_come_97 ?_
                        refine gp_X1_weight X (gP_15 (by first | assumption | decide | omega) (by first | assumption | decide | omega)) fX6_155 dX6_come_98 ?_
                        refine gG_nm (fun V29 hV29 => ?_)
                        refine g_aload X 0 rfl dX6_come_101 ?_
                        refine g_iload X 5 rfl dX6_come_103 ?_
                        refine gp_X1_pace X (gP_15 (by first | assumption | decide | omega) (by first | assumption | decide | omega)) fX6_158 dX6_come_105 ?_
                        refine gG_nm (fun V30 hV30 => ?_)
                        refine g_aload X 0 rfl dX6_come_108 ?_
                        refine g_iload X 6 rfl dX6_come_110 ?_
                        refine gp_X1_coins X (gP_15 (by first | assumption | decide | omega) (by first | assumption | decide | omega)) fX6_161 dX6_come_112 ?_
                        refine gG_nm (fun V31 hV31 => ?_)
                        refine g_aload X 0 rfl dX6_come_115 ?_
                        refine g_iload X 7 rfl dX6_come_117 ?_
                        refine gp_X1_isCheat X (boolN hc).1 (boolN hc).2 (gP_15 (by first | assumption | decide | omega) (by first | assumption | decide | omega)) fX6_164 dX6_come_119 ?_
                        refine gG_nm (fun V32 hV32 => ?_)
                        refine g_aload_n X 1 rfl dX6_come_122 ?_
                        refine gg_X6_bridge X ⟨by decide, by decide⟩ fX6_23 dX6_come_123 ?_
                        refine g_iload_n X 2 rfl dX6_come_126 ?_
                        refine g_callV X hR (rest := []) mX0_gateAt lX6_168 (k_gateAt hI V32 0 j1 (by decide) a1) rfl rfl (Nat.le_of_ble_eq_true rfl) ⟨by decide, by decide⟩ rfl rfl rfl ⟨Nat.le_of_ble_eq_true rfl, Nat.le_of_ble_eq_true rfl, Nat.le_of_ble_eq_true rfl, Nat.le_of_ble_eq_true rfl⟩ dX6_come_127 (fun r33 V34 hz_35 => ?_)
                        refine gG_ret hz_35.1 hz_35.2 ?_
                        refine gG_st [.ref (B.2.1 12 0 j1)] rfl ?_
                        refine gg_X3_waiting X (gP_12 (by first | assumption | decide | omega) (by first | assumption | decide | omega)) fX6_172 dX6_come_130 ?_
                        refine g_aload X 0 rfl dX6_come_133 ?_
                        refine gg_X1_number X (gP_15 (by first | assumption | decide | omega) (by first | assumption | decide | omega)) fX6_177 dX6_come_135 ?_
                        refine gG_top (nI (w.1.1 6)) (by rw [hV32, gup_ne (by simp), hV31, gup_ne (by simp), hV30, gup_ne (by simp), hV29, gup_ne (by simp), hV28, gup_ne (by simp), hV27, gup_ne (by simp), hV25, gup_ne (by simp)]; exact hQ.1.2.2.2.2.2.1 _ hn16) ?_
                        refine g_callV X hR (rest := []) mX5_addLast lX6_180 (k_addLast hI V32 0 j1 (w.1.2.1 j1) (w.1.1 6) (by decide) (by omega) ((hQ.1.2.1 j1 (by omega)).same (by rw [hV32, gup_off _ _ (by simp), hV31, gup_off _ _ (by simp), hV30, gup_off _ _ (by simp), hV29, gup_off _ _ (by simp), hV28, gup_off _ _ (by simp), hV27, gup_off _ _ (by simp), hV25, gup_off _ _ (by simp)]) (by rw [hV32, gup_off _ _ (by simp), hV31, gup_off _ _ (by simp), hV30, gup_off _ _ (by simp), hV29, gup_off _ _ (by simp), hV28, gup_off _ _ (by simp), hV27, gup_off _ _ (by simp), hV25, gup_off _ _ (by simp)])) (by omega)) rfl rfl (Nat.le_of_ble_eq_true rfl) (gP_13 (by first | assumption | decide | omega) (by first | assumption | decide | omega)) rfl rfl rfl ⟨Nat.le_of_ble_eq_true rfl, Nat.le_of_ble_eq_true rfl, Nat.le_of_ble_eq_true rfl, Nat.le_of_ble_eq_true rfl⟩ dX6_come_138 (fun r36 V37 hz_38 => ?_)
                        refine gG_rv hz_38.1 ?_
                        obtain ⟨-, hrow, hrmod⟩ := hz_38
                        refine gG_st [] rfl ?_
                        refine g_aload X 0 rfl dX6_come_141 ?_
                        refine gg_X1_number X (gP_15 (by first | assumption | decide | omega) (by first | assumption | decide | omega)) fX6_177 dX6_come_143 ?_
                        refine gG_top (nI (w.1.1 6)) (by rw [hrmod 15 0 (w.1.1 6) (by simp), hV32, gup_ne (by simp), hV31, gup_ne (by simp), hV30, gup_ne (by simp), hV29, gup_ne (by simp), hV28, gup_ne (by simp), hV27, gup_ne (by simp), hV25, gup_ne (by simp)]; exact hQ.1.2.2.2.2.2.1 _ hn16) ?_
                        refine g_iret X F ?_ rfl dX6_come_146
                        have hop : oCome w (nI j1) (nI j2) (nI j3) (nI j4) (nI j5) (nI c) = (0, nI (w.1.1 6), (sNew w.1 j1 j2 j3 j4 j5 c, w.2)) := by
                          unfold oCome
                          rw [if_pos ⟨h1, h2, h3, h4, h5⟩, if_neg h16, nI_clamp (by omega), nI_clamp (by omega), nI_clamp (by omega), nI_clamp (by omega), nI_clamp (by omega), nI_clamp (by omega)]
                        rw [hop]
                        have ko : ∀ K b i, ¬ (K = 10 ∧ b = 0 ∧ i = 0) → ¬ (K = 15 ∧ b = 0 ∧ i = w.1.1 6) → V32 K b i = V K b i := fun K b i k1 k2 => by rw [hV32, gup_off _ _ (by omega), hV31, gup_off _ _ (by omega), hV30, gup_off _ _ (by omega), hV29, gup_off _ _ (by omega), hV28, gup_off _ _ (by omega), hV27, gup_off _ _ (by omega), hV25, gup_off _ _ (by omega)]
                        have kf : ∀ K b i, ¬ ((K = 13 ∨ K = 14) ∧ b = 0 ∧ i = j1) → V37 K b i = V32 K b i := hrmod
                        obtain ⟨f7, f8, f9, f10⟩ := hfr (w.1.1 6) (Nat.le_refl _) hn16
                        obtain ⟨g1, g2⟩ := hQ.1.2.2.2.2.2.2 rfl (w.1.1 6) (Nat.le_refl _) hn16
                        have hfin : AbsC V37 0 (sNew w.1 j1 j2 j3 j4 j5 c) := by
                          refine hQ.1.new hn16 ?_ (fun k hk => ?_) hrow (fun r hr hne => ⟨?_, ?_⟩) (fun x hx => ?_) (fun k k1 k2 => ?_) ?_ ?_ (fun i hi => ?_)
                          · rw [kf 10 0 0 (by simp), hV32, gup_off _ _ (by simp), hV31, gup_off _ _ (by simp), hV30, gup_off _ _ (by simp), hV29, gup_off _ _ (by simp), hV28, gup_off _ _ (by simp), hV27, gup_off _ _ (by simp), hV25, gup_eq]
                          · rw [kf 10 0 0 (by simp), hV32, gup_off _ _ (by simp), hV31, gup_off _ _ (by simp), hV30, gup_off _ _ (by simp), hV29, gup_off _ _ (by simp), hV28, gup_off _ _ (by simp), hV27, gup_off _ _ (by simp), hV25, gup_ne (by omega)]
                          · rw [kf 13 0 r (by omega), ko 13 0 r (by simp) (by simp)]
                          · rw [kf 14 0 r (by omega), ko 14 0 r (by simp) (by simp)]
                          · rw [kf 12 0 x (by simp), ko 12 0 x (by simp) (by simp)]
                          · rw [kf 15 0 _ (by simp)]
                            rcases (show k = 1 ∨ k = 2 ∨ k = 3 ∨ k = 4 ∨ k = 5 ∨ k = 6 ∨ k = 7 ∨ k = 8 ∨ k = 9 by omega) with rfl | rfl | rfl | rfl | rfl | rfl | rfl | rfl | rfl
                            all_goals (rw [hV32, hV31, hV30, hV29, hV28, hV27, hV25]; simp only [gup, nwC])
                            all_goals first
                              | (simp; done)
                              | (simp; rw [g1 7 (by decide) (by decide), f7]; done)
                              | (simp; rw [g1 8 (by decide) (by decide), f8]; done)
                              | (simp; rw [g1 9 (by decide) (by decide), f9]; done)
                          · rw [kf 15 0 _ (by simp), hV32, gup_ne (by simp), hV31, gup_ne (by simp), hV30, gup_ne (by simp), hV29, gup_ne (by simp), hV28, gup_ne (by simp), hV27, gup_ne (by simp), hV25, gup_ne (by simp), g2, f10]
                          · rw [kf 15 0 _ (by simp), hV32, gup_ne (by simp), hV31, gup_ne (by simp), hV30, gup_ne (by simp), hV29, gup_ne (by simp), hV28, gup_ne (by simp), hV27, gup_ne (by simp), hV25, gup_ne (by simp)]; exact hQ.1.2.2.2.2.2.1 _ hn16
                          · rw [kf 15 0 i (by simp), ko 15 0 i (by simp) (by omega)]
                        refine ⟨rfl, rfl, ⟨hfin, ⟨?_, fun k hk => ?_⟩, fun k hk => ?_⟩, fun b hb i hi => ?_, fun K b i hn => ?_⟩
                        · rw [kf 1 0 0 (by simp), ko 1 0 0 (by simp) (by simp)]; exact hQ.2.1.1
                        · rw [kf 2 0 0 (by simp), ko 2 0 0 (by simp) (by simp)]; exact hQ.2.1.2 k hk
                        · rw [kf 4 0 0 (by simp), ko 4 0 0 (by simp) (by simp)]; exact hQ.2.2 k hk
                        · by_cases hb0 : b = 0
                          · rw [hb0]; exact hfin.2.2.2.2.2.1 i hi
                          · rw [kf 15 b i (by simp), ko 15 b i (by simp) (by omega)]; exact hN b hb i hi
                        · rw [kf K b i (by omega), ko K b i (by omega) (by omega)]
                    ·  exact absurd c20 (by decide)
                  · refine gG_top 0 (if_neg (h5)) ?_
                    refine g_if_ne X 59 (by decide) dX6_come_46 (fun c39 => ?_) (fun c39 => ?_)
                    ·  exact absurd c39 (by decide)
                    · first | exact absurd v1 h1 | exact absurd v2 h2 | exact absurd v3 h3 | exact absurd v4 h4 | exact absurd v5 h5 | omega
              · refine gG_top 0 (if_neg (h4)) ?_
                refine g_if_eq X 49 (by decide) dX6_come_35 (fun c40 => ?_) (fun c40 => ?_)
                · first | exact absurd v1 h1 | exact absurd v2 h2 | exact absurd v3 h3 | exact absurd v4 h4 | exact absurd v5 h5 | omega
                ·  exact absurd c40 (by decide)
          · refine gG_top 0 (if_neg (h3)) ?_
            refine g_if_eq X 49 (by decide) dX6_come_25 (fun c41 => ?_) (fun c41 => ?_)
            · first | exact absurd v1 h1 | exact absurd v2 h2 | exact absurd v3 h3 | exact absurd v4 h4 | exact absurd v5 h5 | omega
            ·  exact absurd c41 (by decide)
      · refine gG_top 0 (if_neg (h2)) ?_
        refine g_if_eq X 49 (by decide) dX6_come_14 (fun c42 => ?_) (fun c42 => ?_)
        · first | exact absurd v1 h1 | exact absurd v2 h2 | exact absurd v3 h3 | exact absurd v4 h4 | exact absurd v5 h5 | omega
        ·  exact absurd c42 (by decide)
  · refine gG_top 0 (if_neg (h1)) ?_
    refine g_if_eq X 49 (by decide) dX6_come_5 (fun c43 => ?_) (fun c43 => ?_)
    · first | exact absurd v1 h1 | exact absurd v2 h2 | exact absurd v3 h3 | exact absurd v4 h4 | exact absurd v5 h5 | omega
    ·  exact absurd c43 (by decide)
end
section
/-! looking ahead -/
abbrev rmX6_over : Room := { frames := 6, cells := 0, slots := 0, locals := 133 }
set_option maxRecDepth 20000 in
theorem p_over {l : Launch} {B : gB} (hI : gI B) (V : gMem) (w : gWd) (x : Int32) (hQ : COk V w) (hw : wOk w) (hN : N15 V) (v1 : ixB x (nI (w.1.1 6))) : gM l B yX6_over cX6_over 3 (some .int) rmX6_over [.ref (B.2.1 0 0 0), .int x] V (opo w (oOver w x) V) := by
  refine gM_of (own := RX6) (L := [(0, .ref (B.2.1 0 0 0)), (1, .int x)]) (by decide +kernel) rfl hI (Nat.le_of_ble_eq_true rfl) rfl ?_
  intro Z hnL hR X F
  have hN6 : w.1.1 6 ≤ 16 := hw.1.1.2.2.2.2.2
  refine g_aload_n X 0 rfl dX6_over_0 ?_
  refine gg_X6_bridge X ⟨by decide, by decide⟩ fX6_23 dX6_over_1 ?_
  refine g_iload_n X 1 rfl dX6_over_4 ?_
  by_cases hP : ixB x (nI (w.1.1 6))
  · obtain ⟨j, j1, jx⟩ := (ixB_iff (n := w.1.1 6) (by omega)).mp hP
    subst jx
    refine g_callV X hR (rest := []) mX0_cartAt lX6_184 (k_cartAt hI V 0 w.1 j (by decide) hQ.1 hN6 j1) rfl rfl (Nat.le_of_ble_eq_true rfl) ⟨by decide, by decide⟩ rfl rfl rfl ⟨Nat.le_of_ble_eq_true rfl, Nat.le_of_ble_eq_true rfl, Nat.le_of_ble_eq_true rfl, Nat.le_of_ble_eq_true rfl⟩ dX6_over_5 (fun r1 V2 hz_3 => ?_)
    refine gG_ret hz_3.1 hz_3.2 ?_
    refine gG_st [.ref (B.2.1 15 0 j)] rfl ?_
    refine g_ifnonnull X 21 (by decide) dX6_over_8 ?_
    refine g_aload_n X 0 rfl dX6_over_21 ?_
    refine gg_X6_ahead X ⟨by decide, by decide⟩ fX6_27 dX6_over_22 ?_
    refine g_aload_n X 0 rfl dX6_over_25 ?_
    refine gg_X6_bridge X ⟨by decide, by decide⟩ fX6_23 dX6_over_26 ?_
    refine g_callV X hR (rest := []) mX0_copyFrom lX6_222 (k_copyFrom hI V 1 0 w.1 (by decide) (by decide) (by decide) hQ.1 hw.1.1.2.2.2.2.2 hw.1.2.1 (hN 1 (by decide)) (by decide)) rfl rfl (Nat.le_of_ble_eq_true rfl) ⟨by decide, by decide⟩ rfl rfl rfl ⟨Nat.le_of_ble_eq_true rfl, Nat.le_of_ble_eq_true rfl, Nat.le_of_ble_eq_true rfl, Nat.le_of_ble_eq_true rfl⟩ dX6_over_29 (fun r4 V5 hz_6 => ?_)
    refine gG_rv hz_6.1 ?_
    obtain ⟨-, haV5, hbV5⟩ := hz_6
    refine gG_st [] rfl ?_
    have bV5 : b12 V V5 := b12.rf.br hbV5 (Or.inl rfl)
    have nV5 : N15 V5 := hN.br hbV5 haV5
    refine g_iconst X 0 (by decide) dX6_over_32 ?_
    refine g_istore_n X rfl dX6_over_33 [(2, .int 0), (0, .ref (B.2.1 0 0 0)), (1, .int (nI j))] rfl (gnl_lt hnL (by decide)) ?_
    refine gG_L [1, 2, 0] (L' := [(0, .ref (B.2.1 0 0 0)), (1, .int (nI j)), (2, .int 0)]) rfl ?_
    have loop : ∀ (f : Nat) (k : Nat) (Vp : gMem) (S1 : gSt), k + f = 201 → AbsC Vp 1 S1 → WF S1 → S1.1 6 = w.1.1 6 → b12 V Vp → N15 Vp → ovF j 201 0 w.1 = ovF j f k S1 → gG Z B (0, 0) Vp 34 [(0, .ref (B.2.1 0 0 0)), (1, .int (nI j)), (2, .int (nI k))] [] := by
      intro f
      induction f with
      | zero =>
        intro k Vp S1 hf hA hw1 hn6 hbp hnp hF
        refine g_iload_n X 2 rfl dX6_over_34 ?_
        refine g_sipush X 200 (by decide) dX6_over_35 ?_
        refine g_icmp_gt X 69 (by decide) dX6_over_38 (fun c7 => ?_) (fun c7 => ?_)
        · refine g_iconst X (-1) (by decide) dX6_over_69 ?_
          refine g_iret X F ?_ rfl dX6_over_70
          have hov : ovF j 201 0 w.1 = (-1) := by rw [hF]; rfl
          rw [show oOver w (nI j) = (0, (-1), w) from by unfold oOver; rw [if_pos hP, nI_clamp (by omega), hov]]
          exact ⟨rfl, rfl, hQ.b12 hbp, hnp, hbp.cm⟩
        · first | exact absurd (nI_lt (a := 200) (by omega) (by omega)) c7 | exact absurd c7 (nI_lt (a := 200) (by omega) (by omega))
      | succ f ih =>
        intro k Vp S1 hf hA hw1 hn6 hbp hnp hF
        refine g_iload_n X 2 rfl dX6_over_34 ?_
        refine g_sipush X 200 (by decide) dX6_over_35 ?_
        refine g_icmp_gt X 69 (by decide) dX6_over_38 (fun c8 => ?_) (fun c8 => ?_)
        · first | exact absurd (nI_nlt (b := k) (a := 200) (by omega) (by omega)) c8 | exact absurd c8 (nI_nlt (b := k) (a := 200) (by omega) (by omega))
        · refine g_aload_n X 0 rfl dX6_over_41 ?_
          refine gg_X6_ahead X ⟨by decide, by decide⟩ fX6_27 dX6_over_42 ?_
          refine g_iload_n X 1 rfl dX6_over_45 ?_
          refine g_callV X hR (rest := []) mX0_isOver lX6_226 (k_isOver hI Vp 1 S1 j (by decide) hA (by rw [hn6]; omega) (by rw [hn6]; exact j1) (hw1.2.1 j (by rw [hn6]; exact j1)).2.2.2.2.2.2.2) rfl rfl (Nat.le_of_ble_eq_true rfl) ⟨by decide, by decide⟩ rfl rfl rfl ⟨Nat.le_of_ble_eq_true rfl, Nat.le_of_ble_eq_true rfl, Nat.le_of_ble_eq_true rfl, Nat.le_of_ble_eq_true rfl⟩ dX6_over_46 (fun r9 V10 hz_11 => ?_)
          refine gG_ret hz_11.1 hz_11.2 ?_
          refine gG_st [.int (if S1.2.2.2.1 j 8 = 2 then 1 else 0)] rfl ?_
          by_cases h2 : S1.2.2.2.1 j 8 = 2
          · refine gG_top 1 (if_pos (h2)) ?_
            refine g_if_eq X 54 (by decide) dX6_over_49 (fun c12 => ?_) (fun c12 => ?_)
            ·  exact absurd c12 (by decide)
            · refine g_iload_n X 2 rfl dX6_over_52 ?_
              refine g_iret X F ?_ rfl dX6_over_53
              have hov : ovF j 201 0 w.1 = nI k := by rw [hF, ovF, if_pos h2]
              rw [show oOver w (nI j) = (0, nI k, w) from by unfold oOver; rw [if_pos hP, nI_clamp (by omega), hov]]
              exact ⟨rfl, rfl, hQ.b12 hbp, hnp, hbp.cm⟩
          · refine gG_top 0 (if_neg (h2)) ?_
            refine g_if_eq X 54 (by decide) dX6_over_49 (fun c13 => ?_) (fun c13 => ?_)
            · refine g_aload_n X 0 rfl dX6_over_54 ?_
              refine gg_X6_ahead X ⟨by decide, by decide⟩ fX6_27 dX6_over_55 ?_
              refine g_iconst X 1 (by decide) dX6_over_58 ?_
              refine g_callV X hR (rest := []) mX0_run lX6_212 (k_run hI Vp 1 S1 1 (by decide) hA hw1 (by decide)) rfl rfl (Nat.le_of_ble_eq_true rfl) ⟨by decide, by decide⟩ rfl rfl rfl ⟨Nat.le_of_ble_eq_true rfl, Nat.le_of_ble_eq_true rfl, Nat.le_of_ble_eq_true rfl, Nat.le_of_ble_eq_true rfl⟩ dX6_over_59 (fun r14 V15 hz_16 => ?_)
              refine gG_rv hz_16.1 ?_
              obtain ⟨-, haV15, hbV15⟩ := hz_16
              refine gG_st [.int (nI (sRun 1 S1).2)] rfl ?_
              refine g_pop X rfl dX6_over_62 ?_
              refine g_iinc X 2 rfl (nI (k + 1)) (iinc_1 _) dX6_over_63 [(2, .int (nI (k + 1))), (0, .ref (B.2.1 0 0 0)), (1, .int (nI j))] rfl (gnl_lt hnL (by decide)) ?_
              refine g_goto X 34 (by decide) dX6_over_66 ?_
              refine gG_L [1, 2, 0] (L' := [(0, .ref (B.2.1 0 0 0)), (1, .int (nI j)), (2, .int (nI (k + 1)))]) rfl ?_
              refine ih (k + 1) V15 (sTick S1).1 (by omega) haV15 hw1.tick (by rw [sTick_6 hw1]; exact hn6) (hbp.br hbV15 (Or.inl rfl)) (hnp.br hbV15 haV15) (by rw [hF, ovF, if_neg h2])
            ·  exact absurd c13 (by decide)
    exact loop 201 0 V5 w.1 (by omega) haV5 hw.1 rfl bV5 nV5 rfl
  · skip
    refine g_callV X hR (rest := []) mX0_cartAt lX6_184 (k_cartAtout hI V 0 w.1 x (by decide) hQ.1 hN6 hP) rfl rfl (Nat.le_of_ble_eq_true rfl) ⟨by decide, by decide⟩ rfl rfl rfl ⟨Nat.le_of_ble_eq_true rfl, Nat.le_of_ble_eq_true rfl, Nat.le_of_ble_eq_true rfl, Nat.le_of_ble_eq_true rfl⟩ dX6_over_5 (fun r17 V18 hz_19 => ?_)
    refine gG_ret hz_19.1 hz_19.2 ?_
    refine gG_st [.null] rfl ?_
    refine g_ifnonnullN X dX6_over_8 ?_
    exact absurd v1 hP
end
section
/-! what is foreseen -/
abbrev rmX6_foresee : Room := { frames := 6, cells := 0, slots := 0, locals := 133 }
set_option maxRecDepth 20000 in
theorem p_foresee {l : Launch} {B : gB} (hI : gI B) (V : gMem) (w : gWd) (p : Int32) (q : Int32) (hQ : COk V w) (hw : wOk w) (hN : N15 V) (v1 : inB p 1 100) (v2 : inB q 0 2) : gM l B yX6_foresee cX6_foresee 4 (some .int) rmX6_foresee [.ref (B.2.1 0 0 0), .int p, .int q] V (opo w (oSee w p q) V) := by
  refine gM_of (own := RX6) (L := [(0, .ref (B.2.1 0 0 0)), (1, .int p), (2, .int q)]) (by decide +kernel) rfl hI (Nat.le_of_ble_eq_true rfl) rfl ?_
  intro Z hnL hR X F
  refine g_iload_n X 1 rfl dX6_foresee_0 ?_
  refine g_iconst X 1 (by decide) dX6_foresee_1 ?_
  refine g_bipush X 100 (by decide) dX6_foresee_2 ?_
  refine g_callS X hR (As := [.int p, .int 1, .int 100]) (rest := []) mX6_isBetween lX6_39 (k_isBetween hI V p 1 100 ) rfl rfl (Nat.le_of_ble_eq_true rfl) ⟨Nat.le_of_ble_eq_true rfl, Nat.le_of_ble_eq_true rfl, Nat.le_of_ble_eq_true rfl, Nat.le_of_ble_eq_true rfl⟩ dX6_foresee_4 (fun r1 V2 hz_3 => ?_)
  refine gG_ret hz_3.1 hz_3.2 ?_
  refine gG_st [.int (if inB p 1 100 then 1 else 0)] rfl ?_
  by_cases hP : inB p 1 100
  · refine gG_top 1 (if_pos (hP)) ?_
    refine g_if_ne X 20 (by decide) dX6_foresee_7 (fun c4 => ?_) (fun c4 => ?_)
    · refine g_iload_n X 2 rfl dX6_foresee_20 ?_
      refine g_iconst X 3 (by decide) dX6_foresee_21 ?_
      refine g_callS X hR (As := [.int q, .int 3]) (rest := []) mX6_isIndex lX6_68 (k_isIndexD hI V q 3 ) rfl rfl (Nat.le_of_ble_eq_true rfl) ⟨Nat.le_of_ble_eq_true rfl, Nat.le_of_ble_eq_true rfl, Nat.le_of_ble_eq_true rfl, Nat.le_of_ble_eq_true rfl⟩ dX6_foresee_22 (fun r5 V6 hz_7 => ?_)
      refine gG_ret hz_7.1 hz_7.2 ?_
      refine gG_st [.int (if ixB q 3 then 1 else 0)] rfl ?_
      by_cases hW : inB q 0 2
      · refine gG_top 1 (if_pos ((inB_ix (n := 2) (by decide)).mp hW)) ?_
        refine g_if_ne X 38 (by decide) dX6_foresee_25 (fun c8 => ?_) (fun c8 => ?_)
        · obtain ⟨j, j1, j2, jx⟩ := (inB_iff (a := 1) (n := 100) (by decide) (by decide)).mp hP
          subst jx
          obtain ⟨z, z1, z2, zx⟩ := (inB_iff (a := 0) (n := 2) (by decide) (by decide)).mp hW
          subst zx
          refine g_aload_n X 0 rfl dX6_foresee_38 ?_
          refine gg_X6_ahead X ⟨by decide, by decide⟩ fX6_27 dX6_foresee_39 ?_
          refine g_aload_n X 0 rfl dX6_foresee_42 ?_
          refine gg_X6_bridge X ⟨by decide, by decide⟩ fX6_23 dX6_foresee_43 ?_
          refine g_callV X hR (rest := []) mX0_copyFrom lX6_222 (k_copyFrom hI V 1 0 w.1 (by decide) (by decide) (by decide) hQ.1 hw.1.1.2.2.2.2.2 hw.1.2.1 (hN 1 (by decide)) (by decide)) rfl rfl (Nat.le_of_ble_eq_true rfl) ⟨by decide, by decide⟩ rfl rfl rfl ⟨Nat.le_of_ble_eq_true rfl, Nat.le_of_ble_eq_true rfl, Nat.le_of_ble_eq_true rfl, Nat.le_of_ble_eq_true rfl⟩ dX6_foresee_46 (fun r9 V10 hz_11 => ?_)
          refine gG_rv hz_11.1 ?_
          obtain ⟨-, haV10, hbV10⟩ := hz_11
          refine gG_st [] rfl ?_
          have bV10 : b12 V V10 := b12.rf.br hbV10 (Or.inl rfl)
          have nV10 : N15 V10 := hN.br hbV10 haV10
          refine g_aload_n X 0 rfl dX6_foresee_49 ?_
          refine gg_X6_ahead X ⟨by decide, by decide⟩ fX6_27 dX6_foresee_50 ?_
          refine g_iload_n X 1 rfl dX6_foresee_53 ?_
          refine g_callV X hR (rest := []) mX0_run lX6_212 (k_run hI V10 1 w.1 j (by decide) haV10 hw.1 (by omega)) rfl rfl (Nat.le_of_ble_eq_true rfl) ⟨by decide, by decide⟩ rfl rfl rfl ⟨Nat.le_of_ble_eq_true rfl, Nat.le_of_ble_eq_true rfl, Nat.le_of_ble_eq_true rfl, Nat.le_of_ble_eq_true rfl⟩ dX6_foresee_54 (fun r12 V13 hz_14 => ?_)
          refine gG_rv hz_14.1 ?_
          obtain ⟨-, haV13, hbV13⟩ := hz_14
          refine gG_st [.int (nI (sRun j w.1).2)] rfl ?_
          have bV13 : b12 V V13 := bV10.br hbV13 (Or.inl rfl)
          have nV13 : N15 V13 := nV10.br hbV13 haV13
          refine g_istore_n X rfl dX6_foresee_57 [(3, .int (nI (sRun j w.1).2)), (0, .ref (B.2.1 0 0 0)), (1, .int (nI j)), (2, .int (nI z))] rfl (gnl_lt hnL (by decide)) ?_
          refine g_iload_n X 3 rfl dX6_foresee_58 ?_
          rcases (show z = 0 ∨ z = 1 ∨ z = 2 by omega) with rfl | rfl | rfl
          · refine gG_top 0 rfl ?_
            refine g_lookup X (25) 84 (by decide) (by decide) (by decide) dX6_foresee_59 ?_
            refine g_iload_n X 0 rfl dX6_foresee_84 ?_
            refine g_iret X F ?_ rfl dX6_foresee_85
            rw [show oSee w (nI j) (nI 0) = (0, fsV w.1 j 0, w) from by unfold oSee; rw [if_pos hP, if_pos hW, nI_clamp (by omega), nI_clamp (by decide)]]
            exact ⟨rfl, rfl, hQ.b12 bV13, nV13, bV13.cm⟩
          · refine gG_top 1 rfl ?_
            refine g_lookup X (27) 86 (by decide) (by decide) (by decide) dX6_foresee_59 ?_
            refine g_aload_n X 1 rfl dX6_foresee_86 ?_
            refine gg_X6_ahead X ⟨by decide, by decide⟩ fX6_27 dX6_foresee_87 ?_
            refine g_callV X hR (rest := []) mX0_coinsInBoxes lX6_231 (k_coins hI V13 1 (sRun j w.1).1 (by decide) haV13) rfl rfl (Nat.le_of_ble_eq_true rfl) ⟨by decide, by decide⟩ rfl rfl rfl ⟨Nat.le_of_ble_eq_true rfl, Nat.le_of_ble_eq_true rfl, Nat.le_of_ble_eq_true rfl, Nat.le_of_ble_eq_true rfl⟩ dX6_foresee_90 (fun r15 V16 hz_17 => ?_)
            refine gG_ret hz_17.1 hz_17.2 ?_
            refine gG_st [.int (nI ((sRun j w.1).1.2.2.1 0 1 + (sRun j w.1).1.2.2.1 1 1))] rfl ?_
            refine g_aload_n X 1 rfl dX6_foresee_93 ?_
            refine gg_X6_bridge X ⟨by decide, by decide⟩ fX6_23 dX6_foresee_94 ?_
            refine g_callV X hR (rest := [.int (nI ((sRun j w.1).1.2.2.1 0 1 + (sRun j w.1).1.2.2.1 1 1))]) mX0_coinsInBoxes lX6_231 (k_coins hI V13 0 w.1 (by decide) (bV13.A hQ.1)) rfl rfl (Nat.le_of_ble_eq_true rfl) ⟨by decide, by decide⟩ rfl rfl rfl ⟨Nat.le_of_ble_eq_true rfl, Nat.le_of_ble_eq_true rfl, Nat.le_of_ble_eq_true rfl, Nat.le_of_ble_eq_true rfl⟩ dX6_foresee_97 (fun r18 V19 hz_20 => ?_)
            refine gG_ret hz_20.1 hz_20.2 ?_
            refine gG_st [.int (nI (w.1.2.2.1 0 1 + w.1.2.2.1 1 1)), .int (nI ((sRun j w.1).1.2.2.1 0 1 + (sRun j w.1).1.2.2.1 1 1))] rfl ?_
            refine g_isub X dX6_foresee_100 ?_
            refine g_iret X F ?_ rfl dX6_foresee_101
            rw [show oSee w (nI j) (nI 1) = (0, fsV w.1 j 1, w) from by unfold oSee; rw [if_pos hP, if_pos hW, nI_clamp (by omega), nI_clamp (by decide)]]
            exact ⟨rfl, rfl, hQ.b12 bV13, nV13, bV13.cm⟩
          · refine gG_top 2 rfl ?_
            refine g_lookup X (43) 102 (by decide) (by decide) (by decide) dX6_foresee_59 ?_
            refine g_aload_n X 1 rfl dX6_foresee_102 ?_
            refine gg_X6_ahead X ⟨by decide, by decide⟩ fX6_27 dX6_foresee_103 ?_
            refine gg_X0_crossing X ⟨by decide, by decide⟩ fX6_110 dX6_foresee_106 ?_
            refine gg_X5_size X ⟨by decide, by decide⟩ fX6_114 dX6_foresee_109 ?_
            refine gG_top (nI ((sRun j w.1).1.2.1 2).length) ((haV13.2.1 2 (by decide)).1) ?_
            refine g_iret X F ?_ rfl dX6_foresee_112
            rw [show oSee w (nI j) (nI 2) = (0, fsV w.1 j 2, w) from by unfold oSee; rw [if_pos hP, if_pos hW, nI_clamp (by omega), nI_clamp (by decide)]]
            exact ⟨rfl, rfl, hQ.b12 bV13, nV13, bV13.cm⟩
        ·  exact absurd c8 (by decide)
      · refine gG_top 0 (if_neg (fun z => hW ((inB_ix (n := 2) (by decide)).mpr z))) ?_
        refine g_if_ne X 38 (by decide) dX6_foresee_25 (fun c21 => ?_) (fun c21 => ?_)
        ·  exact absurd c21 (by decide)
        · first | exact absurd v1 hP | exact absurd v2 hW
    ·  exact absurd c4 (by decide)
  · refine gG_top 0 (if_neg (hP)) ?_
    refine g_if_ne X 20 (by decide) dX6_foresee_7 (fun c22 => ?_) (fun c22 => ?_)
    ·  exact absurd c22 (by decide)
    · first | exact absurd v1 hP | exact absurd v2 hW
end
section
/-! ===== BEGIN words of one list among another's, by their places ===== -/
theorem goodIn_r {big : List Cond} (ws : List Cond) (ps : List Nat) (hp : ws = ps.filterMap (fun i => big[i]?)) (h : ws.all goodWord = true) : GoodIn big ws := by
  intro w hw
  have h1 := List.all_eq_true.mp h w hw
  rw [hp] at hw
  obtain ⟨i, -, hi⟩ := List.mem_filterMap.mp hw
  have hm : w ∈ big := by first | exact List.mem_of_getElem? hi | exact List.getElem?_mem hi
  exact ⟨hm, good_of_word h1⟩
theorem goodIn_app {big a b : List Cond} (ha : GoodIn big a) (hb : GoodIn big b) : GoodIn big (a ++ b) := fun w h => (List.mem_append.mp h).elim (ha w) (hb w)
theorem goodIn_ca {big a b : List Cond} {c : Cond} (ha : GoodIn big (c :: a)) (hb : GoodIn big b) : GoodIn big (c :: (a ++ b)) := fun w h => (List.mem_cons.mp h).elim (fun e => ha w (List.mem_cons.mpr (Or.inl e))) (fun h => (List.mem_append.mp h).elim (fun h => ha w (List.mem_cons.mpr (Or.inr h))) (hb w))
theorem goodIn_sub {big ws : List Cond} (hm : ∀ w ∈ ws, w ∈ big) (h : ws.all goodWord = true) : GoodIn big ws := fun w hw => ⟨hm w hw, good_of_word (List.all_eq_true.mp h w hw)⟩
/-! ===== END ===== -/

/-! ===== BEGIN exceptions that leave a method, and their catching by the caller (launches without stack traces) ===== -/
section VXA
/-! The laws vx_back, vx_callV, vx_callS, vx_callSW, vx_throw0, vx_throwS follow proofs of the library, with one case more: JvmDerived/Free/Laws.lean (Back.of_free), Shelf42/LK1.lean (callV, callS), Shelf/KitTraced.lean (throwNew0V, throwNewS). -/
/-- where a method has thrown q: the class by its name, the cell, what was written, the world -/
def vx_T (XC : String → State → State → Prop) (st : State) (q : Addr) (t : State) (mc ms : Nat) (free : Addr → Prop) : Prop :=
  ∃ (E : String) (ce : Cell) (L : List Loc), XC E st t ∧ t.heap[q]? = some ce ∧ ce.vm = .none ∧ st.vm.findClass E = some ce.cls ∧ st.WarmedH t.vm ∧ st.sameButNew ({ t with vm := st.vm } : State) L mc ms ∧ ∀ z ∈ L, free z.base
def vx_Q (Qc : Array Value → State → Outcome → State → Prop) (XC : String → State → State → Prop) (mc ms : Nat) (free : Addr → Prop) : Array Value → State → Outcome → State → Prop := fun a st o t =>
  (Qc a st o t ∧ ∃ L, FrameEnd st o t L mc ms ∧ ∀ q ∈ L, free q.base) ∨ ∃ q, o = .threw q ∧ vx_T XC st q t mc ms free
/-- a callee that returns or throws -/
def vx_Met (l : Launch) (y : MethodName) (ws : List Cond) (rm : Room) (Pc : Array Value → State → Prop) (Qc : Array Value → State → Outcome → State → Prop) (XC : String → State → State → Prop) (mc ms : Nat) (free : Addr → Prop) : Prop :=
  MetFree l y (headSpec ws rm) Pc (fun _ _ _ _ _ => True) (vx_Q Qc XC mc ms free)
def vx_Post (XC : String → State → State → Prop) (mc ms : Nat) (free : Addr → Prop) : Pt → Array Value → Addr → Pt → Prop := fun A a q B =>
  ∃ (g : JFrame) (mk : MethodId) (t : State) (L : List Loc) (E : String) (ce : Cell), B.U.heap = t.heap ∧ B.U.vm = t.vm ∧ XC E (A.U.calling g mk a) t ∧ t.heap[q]? = some ce ∧ ce.vm = .none ∧ A.U.vm.findClass E = some ce.cls ∧ B.locs = A.locs ++ L ∧ (∀ z ∈ L, free z.base) ∧ B.cells = A.cells + mc ∧ B.slots = A.slots + ms
def vx_Back (l : Launch) (R : Room) (p : Program) (e : Env) (below : List Frame) (s : State) (sargs : Array Value) (y : MethodName) (len W9 : Nat)
    (Pre : Pt → Array Value → Prop) (Post : Pt → Array Value → Option Value → Pt → Prop) (PostX : Pt → Array Value → Addr → Pt → Prop) : Prop :=
  ∀ (m : MethodId) (meth : Method) (c : Code) (A : Pt) (g : JFrame) (ig : Instr) (mk : MethodId) (a : Array Value),
    Stand p l e R s m sargs below meth c A.U A.locs A.cells A.slots → g.method = m → g.locals.size = c.maxLocals → decode c.code g.pc = .ok (ig, len) →
    2 * g.monitorRoom + (g.stack.map fun v => v.category).sum ≤ W9 → A.U.methodNamed? y = some mk → Pre A a →
    (∃ (v : Option Value) (B : Pt), Stand p l e R s m sargs below meth c B.U B.locs B.cells B.slots ∧ Post A a v B ∧
      Steps p.tables e below (doInvoke e (A.U.setTop g) [] mk a).1 (B.U.setTop { g with pc := g.pc + len, stack := v.toList ++ g.stack })) ∨
    (∃ (q : Addr) (B : Pt), Stand p l e R s m sargs below meth c B.U B.locs B.cells B.slots ∧ PostX A a q B ∧
      Steps p.tables e below (doInvoke e (A.U.setTop g) [] mk a).1 ((B.U.setTop g).pushFrame (.throwing q)))
section Payer
variable {l : Launch} {R : Room} {p : Program} {e : Env} {below : List Frame} {s : State} {sargs : Array Value} {y : MethodName} {len W9 : Nat}
theorem vx_back {ws : List Cond} {rm : Room} {Pc : Array Value → State → Prop} {Qc : Array Value → State → Outcome → State → Prop} {XC : String → State → State → Prop} {mc ms : Nat} {free : Addr → Prop} {bytes : ByteArray} {maxL : Nat} {ret : Option FieldType}
    (hM : vx_Met l y ws rm Pc Qc XC mc ms free) (hblind : FrameBlind Pc) (hrc : rm.cells = mc) (hrs : rm.slots = ms)
    (hframes : rm.frames + 1 ≤ R.frames) (hlocals : W9 + (maxL + 11) + rm.locals ≤ R.locals)
    (hws : ∀ w ∈ ws, ∀ a' U, s.WarmedH U.vm → w.before a' U = true) (hcode : Cond.code y bytes maxL ret ∈ ws) (hinit : ∀ a' U, s.WarmedH U.vm → (Cond.initialized y.cls).before a' U = true) :
    vx_Back l R p e below s sargs y len W9 (PreOf R mc ms Pc) (PostOf Qc mc ms free) (vx_Post XC mc ms free) := by
  intro m meth c A g ig mk a X hg hsize hdg hW hn hp
  have h1 : (headSpec ws rm).pre.before a A.U = true := atoms_intro fun w hw => hws w hw _ _ X.warmed
  have h2 : (Cond.code y bytes maxL ret).before a A.U = true := hws _ hcode _ _ X.warmed
  have h3 : (Cond.initialized y.cls).before a A.U = true := hinit _ _ X.warmed
  have h4 : A.cells + (headSpec ws rm).room.cells ≤ R.cells := by rw [show (headSpec ws rm).room.cells = mc from hrc]; exact hp.1
  have h5 : A.slots + (headSpec ws rm).room.slots ≤ R.slots := by rw [show (headSpec ws rm).room.slots = ms from hrs]; exact hp.2.1
  have hPc : Pc a (A.U.calling g mk a) := hblind _ _ _ _ hp.2.2
  obtain ⟨U, Ls, c0, s0⟩ := A
  dsimp only [Pt.U, Pt.locs, Pt.cells, Pt.slots] at h1 h2 h3 h4 h5 X hn hPc ⊢
  obtain ⟨methY, cY, hmY, hcY, -, hlY, -, -, -, -⟩ := Cond.code_spec hn h2
  obtain ⟨kY, hkY, -⟩ := className_of_methodNamed hn
  have hinitY : kY.init = .initialized := Cond.initialized_spec (findClass_of_methodNamed hn) hkY h3
  have h : At U g.method c below := by rw [hg]; exact X.here
  have hlocals9 : W9 + (maxL + 11) + (headSpec ws rm).room.locals ≤ R.locals := hlocals
  have happ : (headSpec ws rm).appliesLoose y e.platform (U.calling g mk a) = true :=
    Spec.appliesLoose_calling (g := g) h hdg hn hkY hinitY
      (X.room_calling (g := g) (R' := (headSpec ws rm).room) hsize hmY hcY hframes (by rw [hlY]; omega) h4 h5) h1
  obtain ⟨mid, hmid⟩ := h.above
  have hfr : (U.setTop g).frames = (.java g :: mid) ++ below := by rw [State.frames_setTop' g h.top, hmid]; rfl
  obtain ⟨o, s₂, hsteps, -, hend, hq⟩ := Steps.callFree hM p X.admits X.cas X.clock (acts := []) hfr happ hPc trivial
  have hq' : vx_Q Qc XC mc ms free a (U.calling g mk a) o s₂ := hq
  rw [State.frames_setTop' g h.top] at hend
  obtain ⟨g₀, hg0⟩ := Option.isSome_iff_exists.mp h.top
  obtain ⟨r, hr⟩ := State.topJava?_eq_some.mp hg0
  have hr' : (({ U with heap := s₂.heap, slotsUsed := s₂.slotsUsed } : State).setVm s₂.vm).frames = .java g₀ :: r := hr
  rcases hq' with ⟨hqc, L, hfe, hL⟩ | ⟨q, rfl, E, ce, L, hx, hce, hcv, hcl, hW₂, hsm, hL⟩
  · obtain ⟨⟨v, rfl⟩, hW₂, e2, q2, q3, q4, q5, q6⟩ := id hfe
    have e3 : s₂ = ({ (U.calling g mk a).setFrames s₂.frames with heap := s₂.heap, slotsUsed := s₂.slotsUsed } : State).setVm s₂.vm := by
      have : s₂ = ({ s₂ with vm := (U.calling g mk a).vm } : State).setVm s₂.vm := rfl
      rw [e2] at this
      exact this
    obtain ⟨c₂, i₂, len₂, hc₂, hd₂, hf₂⟩ := hend
    have hW' : U.WarmedH s₂.vm := hW₂
    have hcc : c₂ = c := by
      have h1 : s₂.code? g.method = U.code? g.method := by
        rw [State.code?_eq, State.code?_eq, hW'.alike.method?]
      exact Option.some.inj (hc₂.symm.trans (h1.trans h.code))
    subst hcc
    have hlen : len₂ = len := by rw [hdg] at hd₂; cases hd₂; rfl
    subst hlen
    have hs₂ : s₂ = (({ U with heap := s₂.heap, slotsUsed := s₂.slotsUsed } : State).setVm s₂.vm).setTop { g with pc := g.pc + len₂, stack := v.toList ++ g.stack } := by
      refine e3.trans ?_
      rw [hf₂, State.calling_eq h.top, State.setFrames_setFrames, State.setTop_of_frames _ hr', hr]
      rfl
    have hsame : U.sameButNew ({ U with heap := s₂.heap, slotsUsed := s₂.slotsUsed } : State) L mc ms := by
      refine ⟨?_, q2, q3, q4, q5, q6⟩
      obtain ⟨t, ht, -⟩ := State.frames_cons hr
      show ({ U with heap := s₂.heap, slotsUsed := s₂.slotsUsed } : State) = { U.setFrames U.frames with heap := s₂.heap, slotsUsed := s₂.slotsUsed }
      rw [State.setFrames_self ht]
    subst hg
    refine Or.inl ⟨v, ⟨(({ U with heap := s₂.heap, slotsUsed := s₂.slotsUsed } : State).setVm s₂.vm), Ls ++ L, c0 + mc, s0 + ms⟩,
      ⟨X.admits, X.cas, X.clock, X.frames, X.room, X.hears, X.method, X.code, (X.here.setHeapUsed s₂.heap s₂.slotsUsed).setVm hW'.alike, X.tail, State.WarmedH.trans X.warmed hW', X.limits, X.bytes, X.same.trans (hsame.setVm s.vm)⟩,
      ⟨g, mk, s₂, L, rfl, rfl, hqc, rfl, hL, rfl, rfl⟩, ?_⟩
    show Steps p.tables e below _ ((({ U with heap := s₂.heap, slotsUsed := s₂.slotsUsed } : State).setVm s₂.vm).setTop { g with pc := g.pc + len₂, stack := v.toList ++ g.stack })
    rw [← hs₂]
    exact hsteps
  · obtain ⟨e2, q2, q3, q4, q5, q6⟩ := id hsm
    have e3 : s₂ = ({ (U.calling g mk a).setFrames s₂.frames with heap := s₂.heap, slotsUsed := s₂.slotsUsed } : State).setVm s₂.vm := by
      have : s₂ = ({ s₂ with vm := (U.calling g mk a).vm } : State).setVm s₂.vm := rfl
      rw [e2] at this
      exact this
    have hf₂ : s₂.frames = .throwing q :: .java g :: U.frames.tail := hend
    have hW' : U.WarmedH s₂.vm := hW₂
    have hs₂ : s₂ = ((({ U with heap := s₂.heap, slotsUsed := s₂.slotsUsed } : State).setVm s₂.vm).setTop g).pushFrame (.throwing q) := by
      refine e3.trans ?_
      rw [hf₂, State.calling_eq h.top, State.setFrames_setFrames, State.pushFrame, State.frames_setTop _ hr', State.setTop_of_frames _ hr', State.setFrames_setFrames, hr]
      rfl
    have hsame : U.sameButNew ({ U with heap := s₂.heap, slotsUsed := s₂.slotsUsed } : State) L mc ms := by
      refine ⟨?_, q2, q3, q4, q5, q6⟩
      obtain ⟨t, ht, -⟩ := State.frames_cons hr
      show ({ U with heap := s₂.heap, slotsUsed := s₂.slotsUsed } : State) = { U.setFrames U.frames with heap := s₂.heap, slotsUsed := s₂.slotsUsed }
      rw [State.setFrames_self ht]
    subst hg
    refine Or.inr ⟨q, ⟨(({ U with heap := s₂.heap, slotsUsed := s₂.slotsUsed } : State).setVm s₂.vm), Ls ++ L, c0 + mc, s0 + ms⟩,
      ⟨X.admits, X.cas, X.clock, X.frames, X.room, X.hears, X.method, X.code, (X.here.setHeapUsed s₂.heap s₂.slotsUsed).setVm hW'.alike, X.tail, State.WarmedH.trans X.warmed hW', X.limits, X.bytes, X.same.trans (hsame.setVm s.vm)⟩,
      ⟨g, mk, s₂, L, E, ce, rfl, rfl, hx, hce, hcv, hcl, rfl, hL, rfl, rfl⟩, ?_⟩
    show Steps p.tables e below _ (((({ U with heap := s₂.heap, slotsUsed := s₂.slotsUsed } : State).setVm s₂.vm).setTop g).pushFrame (.throwing q))
    rw [← hs₂]
    exact hsteps
end Payer
section Calls
variable {p : Program} {l : Launch} {e : Env} {R : Room} {s : State} {m : MethodId} {args : Array Value} {below : List Frame} {meth : Method} {c : Code} {T : State} {locs : List Loc} {cells slots : Nat}
theorem vx_callV (X : Stand p l e R s m args below meth c T locs cells slots) (hexec : p.tables.exec = Jvm.exec) {own C : String} {index : Nat} {y : MethodName} {bytes : ByteArray} {maxL : Nat} {ret : Option FieldType}
    (hown : s.vm.findClass own = some m.cls) (hlink : (Cond.methodLink own index y).before args s = true) (hinst : (Cond.instanceMethod y).before args s = true) (hsel : (Cond.selects C y y).before args s = true)
    (hcode : (Cond.code y bytes maxL ret).before args s = true) (hy : y.cls ≠ "java/lang/invoke/MethodHandle" ∧ y.cls ≠ "java/lang/invoke/VarHandle")
    {W9 : Nat} {Pre : Pt → Array Value → Prop} {Post : Pt → Array Value → Option Value → Pt → Prop} {PostX : Pt → Array Value → Addr → Pt → Prop} (hK : vx_Back l R p e below s args y 3 W9 Pre Post PostX)
    {b : Addr} {cellB : Cell} (hcell : T.heap[b]? = some cellB) (hobj : cellB.vm.isStatics = false) (hcls : s.vm.findClass C = some cellB.cls)
    {g : JFrame} (hg : g.method = m) (hsize : g.locals.size = c.maxLocals) {argsL rest : List Value} (hlen : ∀ sig, parseMethodDescriptor y.desc = some sig → argsL.length = sig.parameters.length)
    (hstack : g.stack = argsL.reverse ++ .ref b :: rest) (hW : 2 * g.monitorRoom + (rest.map fun v => v.category).sum ≤ W9) (hdg : decode c.code g.pc = .ok (.invokevirtual index, 3))
    (hpre : ∀ vm₁, s.WarmedH vm₁ → Pre ⟨T.setVm vm₁, locs, cells, slots⟩ (Value.ref b :: argsL).toArray) :
    (∃ (v : Option Value) (vm₁ : Vm) (B : Pt), s.WarmedH vm₁ ∧ Stand p l e R s m args below meth c B.U B.locs B.cells B.slots ∧ Post ⟨T.setVm vm₁, locs, cells, slots⟩ (Value.ref b :: argsL).toArray v B ∧
      ∀ target, Steps p.tables e below (B.U.setTop { g with pc := g.pc + 3, stack := v.toList ++ rest }) target → Steps p.tables e below (T.setTop g) target) ∨
    (∃ (q : Addr) (vm₁ : Vm) (B : Pt), s.WarmedH vm₁ ∧ Stand p l e R s m args below meth c B.U B.locs B.cells B.slots ∧ PostX ⟨T.setVm vm₁, locs, cells, slots⟩ (Value.ref b :: argsL).toArray q B ∧
      Steps p.tables e below (T.setTop g) ((B.U.setTop { g with stack := rest }).pushFrame (.throwing q))) := by
  obtain ⟨mk, methM, hnamed, hmethM, hstM, habM⟩ := Cond.instanceMethod_spec hinst
  obtain ⟨methM', cM, hmethM', -, -, -, -, -, -, hsigM⟩ := Cond.code_spec hnamed hcode
  cases hmethM.symm.trans hmethM'
  obtain ⟨c2, r2, m2, q1, q2, q3, q4, kP, hkP, hkPi⟩ := Cond.selects_spec hsel
  cases hcls.symm.trans q1
  cases (State.methodFound?_of_named hnamed hy).symm.trans q2
  cases hnamed.symm.trans q3
  have hselP : selectMethod e.platform s.vm cellB.cls mk = .method mk := by rw [Launch.admits_selectMethod X.admits]; exact q4
  obtain ⟨vm₁, X₁, hstep₁⟩ := X.invokevirtual hexec hown hlink hnamed hmethM hstM hkP hkPi hy (a := b) (cell := cellB) hcell
    (fun z h => by rw [h] at hobj; cases hobj) hselP hmethM habM hkP hkPi (g := g) hg (argsL := argsL) (rest := rest) (hlen _ hsigM) hstack hdg
  rcases hK m meth c ⟨T.setVm vm₁, locs, cells, slots⟩ { g with stack := rest } (.invokevirtual index) mk (Value.ref b :: argsL).toArray X₁ hg hsize hdg hW (X₁.named hnamed) (hpre vm₁ X₁.warmed) with ⟨v, B, X', hpost, hsteps⟩ | ⟨q, B, X', hpost, hsteps⟩
  · exact Or.inl ⟨v, vm₁, B, X₁.warmed, X', hpost, fun target h => hstep₁ _ fun acts => by rw [doInvoke_state]; exact hsteps.trans h⟩
  · exact Or.inr ⟨q, vm₁, B, X₁.warmed, X', hpost, hstep₁ _ fun acts => by rw [doInvoke_state]; exact hsteps⟩
theorem vx_callS (X : Stand p l e R s m args below meth c T locs cells slots) (hexec : p.tables.exec = Jvm.exec) {own : String} {index : Nat} {y : MethodName} {bytes : ByteArray} {maxL : Nat} {ret : Option FieldType}
    (hown : s.vm.findClass own = some m.cls) (hlink : (Cond.methodLink own index y).before args s = true) (hstat : (Cond.static y).before args s = true) (hinit : (Cond.initialized y.cls).before args s = true)
    (hcode : (Cond.code y bytes maxL ret).before args s = true) (hy : y.cls ≠ "java/lang/invoke/MethodHandle" ∧ y.cls ≠ "java/lang/invoke/VarHandle")
    {W9 : Nat} {Pre : Pt → Array Value → Prop} {Post : Pt → Array Value → Option Value → Pt → Prop} {PostX : Pt → Array Value → Addr → Pt → Prop} (hK : vx_Back l R p e below s args y 3 W9 Pre Post PostX)
    {g : JFrame} (hg : g.method = m) (hsize : g.locals.size = c.maxLocals) {argsL rest : List Value} (hlen : ∀ sig, parseMethodDescriptor y.desc = some sig → argsL.length = sig.parameters.length)
    (hstack : g.stack = argsL.reverse ++ rest) (hW : 2 * g.monitorRoom + (rest.map fun v => v.category).sum ≤ W9) (hdg : decode c.code g.pc = .ok (.invokestatic index, 3))
    (hpre : ∀ vm₁, s.WarmedH vm₁ → Pre ⟨T.setVm vm₁, locs, cells, slots⟩ argsL.toArray) :
    (∃ (v : Option Value) (vm₁ : Vm) (B : Pt), s.WarmedH vm₁ ∧ Stand p l e R s m args below meth c B.U B.locs B.cells B.slots ∧ Post ⟨T.setVm vm₁, locs, cells, slots⟩ argsL.toArray v B ∧
      ∀ target, Steps p.tables e below (B.U.setTop { g with pc := g.pc + 3, stack := v.toList ++ rest }) target → Steps p.tables e below (T.setTop g) target) ∨
    (∃ (q : Addr) (vm₁ : Vm) (B : Pt), s.WarmedH vm₁ ∧ Stand p l e R s m args below meth c B.U B.locs B.cells B.slots ∧ PostX ⟨T.setVm vm₁, locs, cells, slots⟩ argsL.toArray q B ∧
      Steps p.tables e below (T.setTop g) ((B.U.setTop { g with stack := rest }).pushFrame (.throwing q))) := by
  obtain ⟨mk, hnamed⟩ := Cond.code_named hcode
  obtain ⟨methM, cM, hmethM, -, -, -, -, -, -, hsigM⟩ := Cond.code_spec hnamed hcode
  have hstatic : methM.isStatic = true := Cond.static_spec hnamed hmethM hstat
  obtain ⟨kP, hkP, -⟩ := className_of_methodNamed hnamed
  have hinitP : kP.init = .initialized := Cond.initialized_spec (findClass_of_methodNamed hnamed) hkP hinit
  obtain ⟨vm₁, X₁, hstep₁⟩ := X.invokestatic hexec hown hlink hnamed hmethM hstatic hkP hinitP hy (g := g) hg (argsL := argsL) (rest := rest) (hlen _ hsigM) hstack hdg
  rcases hK m meth c ⟨T.setVm vm₁, locs, cells, slots⟩ { g with stack := rest } (.invokestatic index) mk argsL.toArray X₁ hg hsize hdg hW (X₁.named hnamed) (hpre vm₁ X₁.warmed) with ⟨v, B, X', hpost, hsteps⟩ | ⟨q, B, X', hpost, hsteps⟩
  · exact Or.inl ⟨v, vm₁, B, X₁.warmed, X', hpost, fun target h => hstep₁ _ fun acts => by rw [doInvoke_state]; exact hsteps.trans h⟩
  · exact Or.inr ⟨q, vm₁, B, X₁.warmed, X', hpost, hstep₁ _ fun acts => by rw [doInvoke_state]; exact hsteps⟩
end Calls
theorem vx_cls {s : State} {T : State} {vm₁ : Vm} {E : String} {k : ClassId} (hW : s.WarmedH vm₁) (h : (T.setVm vm₁).vm.findClass E = some k) : s.vm.findClass E = some k := by
  have h1 : vm₁.findClass E = some k := h
  rw [hW.alike.findClass] at h1
  exact h1
/-- the method's frame g, with q thrown over it -/
def vx_W (p : Program) (l : Launch) (e : Env) (R : Room) (s : State) (m : MethodId) (args : Array Value) (below : List Frame) (meth : Method) (c : Code) (H : Heap) (locs : List Loc) (cells slots : Nat) (Q : State → Prop) (g : JFrame) (q : Addr) : Prop :=
  ∀ T : State, T.heap = H → Stand p l e R s m args below meth c T locs cells slots → ∃ t, Steps p.tables e below ((T.setTop g).pushFrame (.throwing q)) t ∧ Q t
def vx_Run (p : Program) (l : Launch) (e : Env) (R : Room) (s : State) (m : MethodId) (args : Array Value) (below : List Frame) (meth : Method) (c : Code) (H : Heap) (locs : List Loc) (cells slots mc ms : Nat) (g : JFrame) (rest : List Value) (Qa : State → Outcome → State → Prop) (XC : String → State → State → Prop) (free : Addr → Prop) : Prop :=
  ∀ T : State, T.heap = H → Stand p l e R s m args below meth c T locs cells slots →
    (∃ (v : Option Value) (st₀ t T' : State) (L : List Loc), st₀.heap = H ∧ Stand p l e R s m args below meth c T' (locs ++ L) (cells + mc) (slots + ms) ∧ (∀ q ∈ L, free q.base) ∧ T'.heap = t.heap ∧ T'.vm = t.vm ∧ Qa st₀ (.returned v) t ∧
      Goes p e below T g T' { g with pc := g.pc + 3, stack := v.toList ++ rest }) ∨
    (∃ (q : Addr) (st₀ t T' : State) (L : List Loc) (E : String) (ce : Cell), st₀.heap = H ∧ Stand p l e R s m args below meth c T' (locs ++ L) (cells + mc) (slots + ms) ∧ (∀ z ∈ L, free z.base) ∧ T'.heap = t.heap ∧ T'.vm = t.vm ∧ XC E st₀ t ∧ t.heap[q]? = some ce ∧ ce.vm = .none ∧ s.vm.findClass E = some ce.cls ∧
      Steps p.tables e below (T.setTop g) ((T'.setTop { g with stack := rest }).pushFrame (.throwing q)))
def vx_X {S : Type} (px : S → Prop) (B : String → S → State → Prop) (A : Nat → Prop) : String → State → State → Prop := fun E st t => ∃ u : S, px u ∧ B E u t ∧ va_F A st t
section Runs
variable {p : Program} {l : Launch} {e : Env} {R : Room} {s : State} {m : MethodId} {args : Array Value} {below : List Frame} {meth : Method} {c : Code} {H : Heap} {locs : List Loc} {cells slots : Nat}
variable {y : MethodName} {bytes cc : ByteArray} {maxL nL mc ms n index : Nat} {ret : Option FieldType} {ws : List Cond} {rm : Room} {Pc : Array Value → State → Prop} {Qc : Array Value → State → Outcome → State → Prop} {XC : String → State → State → Prop} {free : Addr → Prop} {Ts : List Cond} {own C : String} {b : Addr} {As rest : List Value} {g : JFrame}
theorem vx_callBack (cb : CallB R s args own index y bytes maxL ret ws rm mc ms n) (hM : vx_Met l y ws rm Pc Qc XC mc ms free) (hbl : FrameBlind Pc) : vx_Back l R p e below s args y 3 8 (PreOf R mc ms Pc) (PostOf Qc mc ms free) (vx_Post XC mc ms free) := by
  obtain ⟨hrc, hrs, hfr, hlo, hws, hcw, -, hini, -⟩ := cb
  exact vx_back (bytes := bytes) (maxL := maxL) (ret := ret) hM hbl hrc hrs hfr hlo hws hcw (fun a' U hW => word_at hW (Or.inl (by first | rfl | simp [Cond.onTables, Cond.keeps, Cond.steady])) hini)
theorem vx_runV (S : CallFix p m c cc nL s args Ts own) (hM : vx_Met l y ws rm Pc Qc XC mc ms free) (cw : CallW R s args own C index y bytes maxL ret ws rm mc ms n) (hp : PreV s H C b Pc As)
    (hg : g.method = m) (hn : As.length = n) (hsize : g.locals.size = nL) (hstack : g.stack = As.reverse ++ .ref b :: rest) (hW : 2 * g.monitorRoom + (rest.map fun v => v.category).sum ≤ 8) (hdg : decode cc g.pc = .ok (.invokevirtual index, 3)) (hf : cells + mc ≤ R.cells ∧ slots + ms ≤ R.slots) :
    vx_Run p l e R s m args below meth c H locs cells slots mc ms g rest (Qc (Value.ref b :: As).toArray) XC free := by
  have hK : vx_Back l R p e below s args y 3 8 (PreOf R mc ms Pc) (PostOf Qc mc ms free) (vx_Post XC mc ms free) := vx_callBack cw.1 hM hp.1
  obtain ⟨⟨-, -, -, -, -, -, hcode, -, hy, hlen, hl⟩, hin, hse⟩ := cw
  obtain ⟨hx, hb, hml, ho, -⟩ := S
  obtain ⟨-, ⟨cellB, hcB, hoB, hclB⟩, hPc⟩ := hp
  intro T hT X
  rcases vx_callV X hx (C := C) (bytes := bytes) (maxL := maxL) (ret := ret) ho hl hin hse hcode hy hK (by rw [hT]; exact hcB) hoB hclB hg (hsize.trans hml.symm) (argsL := As) (rest := rest) (fun sig h => hn.trans (hlen sig h)) hstack hW (by rw [hb]; exact hdg)
    (fun vm₁ hW₁ => ⟨hf.1, hf.2, hPc (T.setVm vm₁) hT hW₁⟩) with ⟨v, vm₁, ⟨U', l2, c2, s2⟩, hW₁, X', ⟨g', mk, t, L, e1, e2, hq, h1, hL, h2, h3⟩, st⟩ | ⟨q, vm₁, ⟨U', l2, c2, s2⟩, hW₁, X', ⟨g', mk, t, L, E, ce, e1, e2, hq, hce, hcv, hcl, h1, hL, h2, h3⟩, st⟩
  · dsimp only [Pt.U, Pt.locs, Pt.cells, Pt.slots] at X' e1 e2 h1 h2 h3 st
    subst h1; subst h2; subst h3
    exact Or.inl ⟨v, (T.setVm vm₁).calling g' mk (Value.ref b :: As).toArray, t, U', L, hT, X', hL, e1, e2, hq, st⟩
  · dsimp only [Pt.U, Pt.locs, Pt.cells, Pt.slots] at X' e1 e2 h1 h2 h3 st hcl
    subst h1; subst h2; subst h3
    exact Or.inr ⟨q, (T.setVm vm₁).calling g' mk (Value.ref b :: As).toArray, t, U', L, E, ce, hT, X', hL, e1, e2, hq, hce, hcv, vx_cls hW₁ hcl, st⟩
theorem vx_runS (S : CallFix p m c cc nL s args Ts own) (hM : vx_Met l y ws rm Pc Qc XC mc ms free) (cw : CallB R s args own index y bytes maxL ret ws rm mc ms n ∧ (Cond.static y).before args s = true) (hp : PreS s H Pc As)
    (hg : g.method = m) (hn : As.length = n) (hsize : g.locals.size = nL) (hstack : g.stack = As.reverse ++ rest) (hW : 2 * g.monitorRoom + (rest.map fun v => v.category).sum ≤ 8) (hdg : decode cc g.pc = .ok (.invokestatic index, 3)) (hf : cells + mc ≤ R.cells ∧ slots + ms ≤ R.slots) :
    vx_Run p l e R s m args below meth c H locs cells slots mc ms g rest (Qc As.toArray) XC free := by
  have hK : vx_Back l R p e below s args y 3 8 (PreOf R mc ms Pc) (PostOf Qc mc ms free) (vx_Post XC mc ms free) := vx_callBack cw.1 hM hp.1
  obtain ⟨⟨-, -, -, -, -, -, hcode, hini, hy, hlen, hl⟩, hstt⟩ := cw
  obtain ⟨hx, hb, hml, ho, -⟩ := S
  intro T hT X
  rcases vx_callS X hx (bytes := bytes) (maxL := maxL) (ret := ret) ho hl hstt hini hcode hy hK hg (hsize.trans hml.symm) (argsL := As) (rest := rest) (fun sig h => hn.trans (hlen sig h)) hstack hW (by rw [hb]; exact hdg)
    (fun vm₁ hW₁ => ⟨hf.1, hf.2, hp.2 (T.setVm vm₁) hT hW₁⟩) with ⟨v, vm₁, ⟨U', l2, c2, s2⟩, hW₁, X', ⟨g', mk, t, L, e1, e2, hq, h1, hL, h2, h3⟩, st⟩ | ⟨q, vm₁, ⟨U', l2, c2, s2⟩, hW₁, X', ⟨g', mk, t, L, E, ce, e1, e2, hq, hce, hcv, hcl, h1, hL, h2, h3⟩, st⟩
  · dsimp only [Pt.U, Pt.locs, Pt.cells, Pt.slots] at X' e1 e2 h1 h2 h3 st
    subst h1; subst h2; subst h3
    exact Or.inl ⟨v, (T.setVm vm₁).calling g' mk As.toArray, t, U', L, hT, X', hL, e1, e2, hq, st⟩
  · dsimp only [Pt.U, Pt.locs, Pt.cells, Pt.slots] at X' e1 e2 h1 h2 h3 st hcl
    subst h1; subst h2; subst h3
    exact Or.inr ⟨q, (T.setVm vm₁).calling g' mk As.toArray, t, U', L, E, ce, hT, X', hL, e1, e2, hq, hce, hcv, vx_cls hW₁ hcl, st⟩
end Runs
section Rows
variable {p : Program} {l : Launch} {e : Env} {R : Room} {s : State} {m : MethodId} {args : Array Value} {below : List Frame} {meth : Method} {c : Code} {H : Heap} {locs : List Loc} {cells slots : Nat} {Q : State → Prop}
variable {mc ms : Nat} {free : Addr → Prop} {A0 A1 : Nat → Prop} {H0 : Heap} {a : Array Value} {pc : Nat} {ls : Array Slot} {st0 rest : List Value}
theorem vx_keep {st₀ t T' : State} {L : List Loc} (h0 : st₀.heap = H) (e1 : T'.heap = t.heap) (hS : va_S A0 H0 H locs) (hA : ∀ q, q < H.size → A1 q → A0 q) (hf : ∀ q, free q → A0 q) (hL : ∀ q ∈ L, free q.base) (hF : va_F A1 st₀ t) :
    H.size ≤ T'.heap.size ∧ (∀ q : Nat, q < H.size → ¬ A1 q → T'.heap[q]? = H[q]?) ∧ va_S A0 H0 T'.heap (locs ++ L) := by
  obtain ⟨hz, hk⟩ := hF
  rw [h0] at hz hk
  exact ⟨by rw [e1]; exact hz, fun q h1 h2 => by rw [e1]; exact hk q h1 h2,
    ⟨Nat.le_trans hS.1 (by rw [e1]; exact hz), fun q h1 h2 => by rw [e1, hk q (Nat.lt_of_lt_of_le h1 hS.1) (fun z => h2 (hA q (Nat.lt_of_lt_of_le h1 hS.1) z))]; exact hS.2.1 q h1 h2, fun q hq => by
      rcases List.mem_append.mp hq with h | h
      · exact hS.2.2 q h
      · exact hf _ (hL q h)⟩⟩
theorem vx_calli {S SX : Type} {post : Int32 → S → Prop} {px : SX → Prop} {B : S → State → Prop} {BX : String → SX → State → Prop} {AX : Nat → Prop} (hr : vx_Run p l e R s m args below meth c H locs cells slots mc ms (F0 m pc ls st0) rest (va_Qi post B A1 a) (vx_X px BX AX) free) (hS : va_S A0 H0 H locs) (hA : ∀ q, q < H.size → A1 q → A0 q) (hf : ∀ q, free q → A0 q) (hAX : ∀ q, q < H.size → AX q → A0 q)
    (kx : ∀ (E : String) (ce : Cell) (q9 : Addr) (u : SX) (t : State) (H1 : Heap) (locs1 : List Loc), t.heap = H1 → s.vm.Alike t.vm → px u → BX E u t → H.size ≤ H1.size → (∀ q : Nat, q < H.size → ¬ AX q → H1[q]? = H[q]?) → va_S A0 H0 H1 locs1 → H1[q9]? = some ce → ce.vm = .none → s.vm.findClass E = some ce.cls → vx_W p l e R s m args below meth c H1 locs1 (cells + mc) (slots + ms) Q (F0 m pc ls rest) q9)
    (kk : ∀ (r : Int32) (u : S) (t : State) (H1 : Heap) (locs1 : List Loc), t.heap = H1 → s.vm.Alike t.vm → post r u → B u t → H.size ≤ H1.size → (∀ q : Nat, q < H.size → ¬ A1 q → H1[q]? = H[q]?) → va_S A0 H0 H1 locs1 → W p l e R s m args below meth c H1 locs1 (cells + mc) (slots + ms) Q (F0 m (pc + 3) ls (.int r :: rest))) : W p l e R s m args below meth c H locs cells slots Q (F0 m pc ls st0) := by
  intro T hT X
  rcases hr T hT X with ⟨v, st₀, t, T', L, h0, X', hL, e1, e2, ⟨⟨r, u, hv, hp, hb⟩, hF⟩, st⟩ | ⟨q, st₀, t, T', L, E, ce, h0, X', hL, e1, e2, ⟨u, hp, hb, hF⟩, hce, hcv, hcl, st⟩
  · cases hv
    obtain ⟨k1, k2, k3⟩ := vx_keep h0 e1 hS hA hf hL hF
    obtain ⟨t2, a1, b1⟩ := kk r u t T'.heap (locs ++ L) e1.symm (by rw [← e2]; exact X'.warmed.alike) hp hb k1 k2 k3 T' rfl X'
    exact ⟨t2, st t2 a1, b1⟩
  · obtain ⟨k1, k2, k3⟩ := vx_keep h0 e1 hS hAX hf hL hF
    obtain ⟨t2, a1, b1⟩ := kx E ce q u t T'.heap (locs ++ L) e1.symm (by rw [← e2]; exact X'.warmed.alike) hp hb k1 k2 k3 (by rw [e1]; exact hce) hcv hcl T' rfl X'
    exact ⟨t2, st.trans a1, b1⟩
theorem vx_calll {S SX : Type} {post : Int64 → S → Prop} {px : SX → Prop} {B : S → State → Prop} {BX : String → SX → State → Prop} {AX : Nat → Prop} (hr : vx_Run p l e R s m args below meth c H locs cells slots mc ms (F0 m pc ls st0) rest (va_Ql post B A1 a) (vx_X px BX AX) free) (hS : va_S A0 H0 H locs) (hA : ∀ q, q < H.size → A1 q → A0 q) (hf : ∀ q, free q → A0 q) (hAX : ∀ q, q < H.size → AX q → A0 q)
    (kx : ∀ (E : String) (ce : Cell) (q9 : Addr) (u : SX) (t : State) (H1 : Heap) (locs1 : List Loc), t.heap = H1 → s.vm.Alike t.vm → px u → BX E u t → H.size ≤ H1.size → (∀ q : Nat, q < H.size → ¬ AX q → H1[q]? = H[q]?) → va_S A0 H0 H1 locs1 → H1[q9]? = some ce → ce.vm = .none → s.vm.findClass E = some ce.cls → vx_W p l e R s m args below meth c H1 locs1 (cells + mc) (slots + ms) Q (F0 m pc ls rest) q9)
    (kk : ∀ (r : Int64) (u : S) (t : State) (H1 : Heap) (locs1 : List Loc), t.heap = H1 → s.vm.Alike t.vm → post r u → B u t → H.size ≤ H1.size → (∀ q : Nat, q < H.size → ¬ A1 q → H1[q]? = H[q]?) → va_S A0 H0 H1 locs1 → W p l e R s m args below meth c H1 locs1 (cells + mc) (slots + ms) Q (F0 m (pc + 3) ls (.long r :: rest))) : W p l e R s m args below meth c H locs cells slots Q (F0 m pc ls st0) := by
  intro T hT X
  rcases hr T hT X with ⟨v, st₀, t, T', L, h0, X', hL, e1, e2, ⟨⟨r, u, hv, hp, hb⟩, hF⟩, st⟩ | ⟨q, st₀, t, T', L, E, ce, h0, X', hL, e1, e2, ⟨u, hp, hb, hF⟩, hce, hcv, hcl, st⟩
  · cases hv
    obtain ⟨k1, k2, k3⟩ := vx_keep h0 e1 hS hA hf hL hF
    obtain ⟨t2, a1, b1⟩ := kk r u t T'.heap (locs ++ L) e1.symm (by rw [← e2]; exact X'.warmed.alike) hp hb k1 k2 k3 T' rfl X'
    exact ⟨t2, st t2 a1, b1⟩
  · obtain ⟨k1, k2, k3⟩ := vx_keep h0 e1 hS hAX hf hL hF
    obtain ⟨t2, a1, b1⟩ := kx E ce q u t T'.heap (locs ++ L) e1.symm (by rw [← e2]; exact X'.warmed.alike) hp hb k1 k2 k3 (by rw [e1]; exact hce) hcv hcl T' rfl X'
    exact ⟨t2, st.trans a1, b1⟩
theorem vx_callf {S SX : Type} {post : UInt32 → S → Prop} {px : SX → Prop} {B : S → State → Prop} {BX : String → SX → State → Prop} {AX : Nat → Prop} (hr : vx_Run p l e R s m args below meth c H locs cells slots mc ms (F0 m pc ls st0) rest (va_Qf post B A1 a) (vx_X px BX AX) free) (hS : va_S A0 H0 H locs) (hA : ∀ q, q < H.size → A1 q → A0 q) (hf : ∀ q, free q → A0 q) (hAX : ∀ q, q < H.size → AX q → A0 q)
    (kx : ∀ (E : String) (ce : Cell) (q9 : Addr) (u : SX) (t : State) (H1 : Heap) (locs1 : List Loc), t.heap = H1 → s.vm.Alike t.vm → px u → BX E u t → H.size ≤ H1.size → (∀ q : Nat, q < H.size → ¬ AX q → H1[q]? = H[q]?) → va_S A0 H0 H1 locs1 → H1[q9]? = some ce → ce.vm = .none → s.vm.findClass E = some ce.cls → vx_W p l e R s m args below meth c H1 locs1 (cells + mc) (slots + ms) Q (F0 m pc ls rest) q9)
    (kk : ∀ (r : UInt32) (u : S) (t : State) (H1 : Heap) (locs1 : List Loc), t.heap = H1 → s.vm.Alike t.vm → post r u → B u t → H.size ≤ H1.size → (∀ q : Nat, q < H.size → ¬ A1 q → H1[q]? = H[q]?) → va_S A0 H0 H1 locs1 → W p l e R s m args below meth c H1 locs1 (cells + mc) (slots + ms) Q (F0 m (pc + 3) ls (.float r :: rest))) : W p l e R s m args below meth c H locs cells slots Q (F0 m pc ls st0) := by
  intro T hT X
  rcases hr T hT X with ⟨v, st₀, t, T', L, h0, X', hL, e1, e2, ⟨⟨r, u, hv, hp, hb⟩, hF⟩, st⟩ | ⟨q, st₀, t, T', L, E, ce, h0, X', hL, e1, e2, ⟨u, hp, hb, hF⟩, hce, hcv, hcl, st⟩
  · cases hv
    obtain ⟨k1, k2, k3⟩ := vx_keep h0 e1 hS hA hf hL hF
    obtain ⟨t2, a1, b1⟩ := kk r u t T'.heap (locs ++ L) e1.symm (by rw [← e2]; exact X'.warmed.alike) hp hb k1 k2 k3 T' rfl X'
    exact ⟨t2, st t2 a1, b1⟩
  · obtain ⟨k1, k2, k3⟩ := vx_keep h0 e1 hS hAX hf hL hF
    obtain ⟨t2, a1, b1⟩ := kx E ce q u t T'.heap (locs ++ L) e1.symm (by rw [← e2]; exact X'.warmed.alike) hp hb k1 k2 k3 (by rw [e1]; exact hce) hcv hcl T' rfl X'
    exact ⟨t2, st.trans a1, b1⟩
theorem vx_calld {S SX : Type} {post : UInt64 → S → Prop} {px : SX → Prop} {B : S → State → Prop} {BX : String → SX → State → Prop} {AX : Nat → Prop} (hr : vx_Run p l e R s m args below meth c H locs cells slots mc ms (F0 m pc ls st0) rest (va_Qd post B A1 a) (vx_X px BX AX) free) (hS : va_S A0 H0 H locs) (hA : ∀ q, q < H.size → A1 q → A0 q) (hf : ∀ q, free q → A0 q) (hAX : ∀ q, q < H.size → AX q → A0 q)
    (kx : ∀ (E : String) (ce : Cell) (q9 : Addr) (u : SX) (t : State) (H1 : Heap) (locs1 : List Loc), t.heap = H1 → s.vm.Alike t.vm → px u → BX E u t → H.size ≤ H1.size → (∀ q : Nat, q < H.size → ¬ AX q → H1[q]? = H[q]?) → va_S A0 H0 H1 locs1 → H1[q9]? = some ce → ce.vm = .none → s.vm.findClass E = some ce.cls → vx_W p l e R s m args below meth c H1 locs1 (cells + mc) (slots + ms) Q (F0 m pc ls rest) q9)
    (kk : ∀ (r : UInt64) (u : S) (t : State) (H1 : Heap) (locs1 : List Loc), t.heap = H1 → s.vm.Alike t.vm → post r u → B u t → H.size ≤ H1.size → (∀ q : Nat, q < H.size → ¬ A1 q → H1[q]? = H[q]?) → va_S A0 H0 H1 locs1 → W p l e R s m args below meth c H1 locs1 (cells + mc) (slots + ms) Q (F0 m (pc + 3) ls (.double r :: rest))) : W p l e R s m args below meth c H locs cells slots Q (F0 m pc ls st0) := by
  intro T hT X
  rcases hr T hT X with ⟨v, st₀, t, T', L, h0, X', hL, e1, e2, ⟨⟨r, u, hv, hp, hb⟩, hF⟩, st⟩ | ⟨q, st₀, t, T', L, E, ce, h0, X', hL, e1, e2, ⟨u, hp, hb, hF⟩, hce, hcv, hcl, st⟩
  · cases hv
    obtain ⟨k1, k2, k3⟩ := vx_keep h0 e1 hS hA hf hL hF
    obtain ⟨t2, a1, b1⟩ := kk r u t T'.heap (locs ++ L) e1.symm (by rw [← e2]; exact X'.warmed.alike) hp hb k1 k2 k3 T' rfl X'
    exact ⟨t2, st t2 a1, b1⟩
  · obtain ⟨k1, k2, k3⟩ := vx_keep h0 e1 hS hAX hf hL hF
    obtain ⟨t2, a1, b1⟩ := kx E ce q u t T'.heap (locs ++ L) e1.symm (by rw [← e2]; exact X'.warmed.alike) hp hb k1 k2 k3 (by rw [e1]; exact hce) hcv hcl T' rfl X'
    exact ⟨t2, st.trans a1, b1⟩
theorem vx_callv {S SX : Type} {post : S → Prop} {px : SX → Prop} {B : S → State → Prop} {BX : String → SX → State → Prop} {AX : Nat → Prop} (hr : vx_Run p l e R s m args below meth c H locs cells slots mc ms (F0 m pc ls st0) rest (va_Qv post B A1 a) (vx_X px BX AX) free) (hS : va_S A0 H0 H locs) (hA : ∀ q, q < H.size → A1 q → A0 q) (hf : ∀ q, free q → A0 q) (hAX : ∀ q, q < H.size → AX q → A0 q)
    (kx : ∀ (E : String) (ce : Cell) (q9 : Addr) (u : SX) (t : State) (H1 : Heap) (locs1 : List Loc), t.heap = H1 → s.vm.Alike t.vm → px u → BX E u t → H.size ≤ H1.size → (∀ q : Nat, q < H.size → ¬ AX q → H1[q]? = H[q]?) → va_S A0 H0 H1 locs1 → H1[q9]? = some ce → ce.vm = .none → s.vm.findClass E = some ce.cls → vx_W p l e R s m args below meth c H1 locs1 (cells + mc) (slots + ms) Q (F0 m pc ls rest) q9)
    (kk : ∀ (u : S) (t : State) (H1 : Heap) (locs1 : List Loc), t.heap = H1 → s.vm.Alike t.vm → post u → B u t → H.size ≤ H1.size → (∀ q : Nat, q < H.size → ¬ A1 q → H1[q]? = H[q]?) → va_S A0 H0 H1 locs1 → W p l e R s m args below meth c H1 locs1 (cells + mc) (slots + ms) Q (F0 m (pc + 3) ls (rest))) : W p l e R s m args below meth c H locs cells slots Q (F0 m pc ls st0) := by
  intro T hT X
  rcases hr T hT X with ⟨v, st₀, t, T', L, h0, X', hL, e1, e2, ⟨⟨u, hv, hp, hb⟩, hF⟩, st⟩ | ⟨q, st₀, t, T', L, E, ce, h0, X', hL, e1, e2, ⟨u, hp, hb, hF⟩, hce, hcv, hcl, st⟩
  · cases hv
    obtain ⟨k1, k2, k3⟩ := vx_keep h0 e1 hS hA hf hL hF
    obtain ⟨t2, a1, b1⟩ := kk u t T'.heap (locs ++ L) e1.symm (by rw [← e2]; exact X'.warmed.alike) hp hb k1 k2 k3 T' rfl X'
    exact ⟨t2, st t2 a1, b1⟩
  · obtain ⟨k1, k2, k3⟩ := vx_keep h0 e1 hS hAX hf hL hF
    obtain ⟨t2, a1, b1⟩ := kx E ce q u t T'.heap (locs ++ L) e1.symm (by rw [← e2]; exact X'.warmed.alike) hp hb k1 k2 k3 (by rw [e1]; exact hce) hcv hcl T' rfl X'
    exact ⟨t2, st.trans a1, b1⟩
/-- caught by the row x of this method's table; the rows ahead don't take it -/
theorem vx_catch {own name : String} {E : String} {ce : Cell} {q : Addr} (hown : s.vm.findClass own = some m.cls) (pre : List ExceptionTableEntry) (x : ExceptionTableEntry) (suf : List ExceptionTableEntry) (hsplit : c.exceptionTable.toList = pre ++ x :: suf)
    (hpass : ∀ z ∈ pre, covers z pc = false ∨ (z.catchType ≠ 0 ∧ ∃ nm : String, (Cond.classLink own z.catchType nm).before args s = true ∧ va_Nc E nm s)) (hx : covers x pc = true) (h0 : x.catchType ≠ 0)
    (hlink : (Cond.classLink own x.catchType name).before args s = true) (hcast : (Cond.castable E name).before args s = true) (hcell : H[q]? = some ce) (hv : ce.vm = .none) (hcl : s.vm.findClass E = some ce.cls)
    (kk : W p l e R s m args below meth c H locs cells slots Q (F0 m x.handlerPc ls [.ref q])) : vx_W p l e R s m args below meth c H locs cells slots Q (F0 m pc ls rest) q := by
  intro T hT X
  have hpl : e.platform.magicAccessors = ({} : Platform).magicAccessors := by rw [X.admits.platform]
  obtain ⟨c3, c4, hc3, hc4, hasg⟩ := Cond.castable_spec hcast
  cases Option.some.inj (hc3.symm.trans hcl)
  obtain ⟨c5, hc5, hcl5⟩ := Cond.classLink_spec hown hlink e.platform hpl
  cases Option.some.inj (hc4.symm.trans hc5)
  obtain ⟨vm', X', st⟩ := X.thenCaughtThrough q (g := F0 m pc ls rest) rfl (Steps.refl _) (by rw [hT]; exact hcell) (by rw [hv]; rfl) (by obtain ⟨k9, h9, -⟩ := Vm.findClass_spec hcl; exact ⟨k9, h9⟩) pre x suf hsplit
    (fun z hz => by
      rcases hpass z hz with h | ⟨hz0, nm, hl1, hn1⟩
      · exact Or.inl h
      · obtain ⟨c6, hc6, hcl6⟩ := Cond.classLink_spec hown hl1 e.platform hpl
        obtain ⟨a8, b8, h1, h2, h3⟩ := hn1
        cases Option.some.inj (h1.symm.trans hcl)
        cases Option.some.inj (h2.symm.trans hc6)
        exact Or.inr ⟨hz0, _, hcl6, h3⟩) hx (Or.inr ⟨h0, c4, hcl5, hasg⟩)
  obtain ⟨t, a1, b1⟩ := kk (T.setVm vm') hT X'
  exact ⟨t, st.trans a1, b1⟩
end Rows
section Ends
variable {p : Program} {l : Launch} {e : Env} {R : Room} {s : State} {m : MethodId} {args : Array Value} {below : List Frame} {meth : Method} {c : Code} {H : Heap} {locs : List Loc} {cells slots : Nat} {Q : State → Prop}
variable {mc ms : Nat} {free : Addr → Prop} {A0 A1 : Nat → Prop} {H0 : Heap} {a : Array Value} {ls : Array Slot} {st0 rest : List Value}
variable {Qc : Array Value → State → Outcome → State → Prop} {XC : String → State → State → Prop}
/-- what a body that may throw owes at its end -/
def vx_MQ (below : List Frame) (Qc : Array Value → State → Outcome → State → Prop) (XC : String → State → State → Prop) (a : Array Value) (s : State) (mc ms : Nat) (free : Addr → Prop) : State → Prop := fun t =>
  ∃ o, t.status = .running ∧ Ended t below o ∧ vx_Q Qc XC mc ms free a s o t
theorem vx_ret {g : JFrame} {mc ms : Nat} (k : W p l e R s m args below meth c H locs cells slots (MQ below Qc args s mc ms free) g) : W p l e R s m args below meth c H locs cells slots (vx_MQ below Qc XC args s mc ms free) g := by
  intro T hT X
  obtain ⟨t, a1, o, b1, b2, b3, b4⟩ := k T hT X
  exact ⟨t, a1, o, b1, b2, Or.inl ⟨b3, b4⟩⟩
/-- not caught here: it goes on to the caller -/
theorem vx_widen {g : JFrame} {q : Addr} {k n : Nat} (h1 : cells ≤ k) (h2 : slots ≤ n) (kk : vx_W p l e R s m args below meth c H locs k n Q g q) : vx_W p l e R s m args below meth c H locs cells slots Q g q := fun T hT X => kk T hT (stand_widen X h1 h2)
theorem vx_out {pc : Nat} {E : String} {ce : Cell} {q : Addr} {mc ms : Nat} (hout : ∀ x ∈ c.exceptionTable.toList, covers x pc = false) (hlocks : meth.locks = false) (hcell : H[q]? = some ce) (hv : ce.vm = .none) (hcl : s.vm.findClass E = some ce.cls)
    (hx : ∀ t : State, t.heap = H → s.vm.Alike t.vm → XC E s t) (hf : ∀ z ∈ locs, free z.base) (hc : cells ≤ mc) (hs : slots ≤ ms) :
    vx_W p l e R s m args below meth c H locs cells slots (vx_MQ below Qc XC args s mc ms free) (F0 m pc ls rest) q := by
  intro T hT X
  obtain ⟨st1, hrun, hend, hW, hsm⟩ := X.leaveThrown q (g := F0 m pc ls rest) rfl rfl rfl hout hlocks
  have hcell9 : (T.setFrames (.throwing q :: below)).heap[q]? = some ce := by
    show T.heap[q]? = some ce
    rw [hT]; exact hcell
  exact ⟨_, st1, .threw q, hrun, hend, Or.inr ⟨q, rfl, E, ce, locs, hx _ hT hW.alike, hcell9, hv, hcl, hW, hsm.mono hc hs, hf⟩⟩
theorem vx_frame {U : State} {k n : Nat} (h : s.sameButNew ({ U with vm := s.vm } : State) locs k n) : s.heap.size ≤ U.heap.size ∧ ∀ q : Nat, q < s.heap.size → (∀ z ∈ locs, z.base ≠ q) → U.heap[q]? = s.heap[q]? := by
  obtain ⟨-, h2, -, -, -, h6⟩ := h
  refine ⟨h2, fun q hq hz => ?_⟩
  obtain ⟨c9, e1, e2, e3, e4⟩ := h6 q _ (Array.getElem?_eq_getElem hq)
  have hs : c9.slots = (s.heap[q]).slots := Array.ext_getElem? fun i => e4 i fun hm => hz _ hm rfl
  have h9 : c9 = s.heap[q] := by
    rw [hs] at e2
    exact e2
  have e5 : U.heap[q]? = some c9 := e1
  rw [e5, h9, Array.getElem?_eq_getElem hq]
/-- the words of a throw but the four that speak of the heap -/
def vx_no (w : Cond) : Bool := decide (w ≠ .isRef (.static Bundle.tN "UNASSIGNED_STACK" Bundle.steD)) && decide (w ≠ .isRef (.static Bundle.tN "SUPPRESSED_SENTINEL" Bundle.listD)) && decide (w ≠ .laysStatic Bundle.tN "UNASSIGNED_STACK" Bundle.steD) && decide (w ≠ .laysStatic Bundle.tN "SUPPRESSED_SENTINEL" Bundle.listD)
def vx_at0 (own : String) (ic : Nat) (X : String) (names : List String) : List Cond := (Bundle.ownAtoms0 own ic X names).filter vx_no
def vx_atS (own : String) (ic : Nat) (X : String) (names : List String) : List Cond := (Bundle.ownAtoms own ic X names).filter vx_no
/-- a word that the tables alone decide, or a good one -/
def vx_ot (w : Cond) : Bool := w.onTables || goodWord w
theorem vx_ot_at {args a' : Array Value} {s U : State} {w : Cond} (hW : s.WarmedH U.vm) (hvm : s.vm = U.vm) (hg : vx_ot w = true) (h : w.before args s = true) : w.before a' U = true := by
  simp only [vx_ot, Bool.or_eq_true] at hg
  rcases hg with hg | hg
  · exact va_tabs hg hvm h
  · exact word_at hW (good_of_word hg) h
/-- a list's words: the good ones out of the method's own list, the others by premises of their own -/
theorem vx_hat {args : Array Value} {s : State} {L B : List Cond} (h1 : ∀ w ∈ L.filter goodWord, w.before args s = true) (h2 : ∀ w ∈ L.filter (fun w => !goodWord w), w ∈ B) (h3 : ∀ w ∈ B, w.before args s = true) : ∀ w ∈ L, w.before args s = true := by
  intro w hw
  by_cases g : goodWord w = true
  · exact h1 w (List.mem_filter.mpr ⟨hw, g⟩)
  · refine h3 w (h2 w (List.mem_filter.mpr ⟨hw, ?_⟩))
    show (!goodWord w) = true
    cases hgw : goodWord w
    · rfl
    · exact absurd hgw g
theorem vx_c {args : Array Value} {s : State} {w : Cond} {B : List Cond} (h : w.before args s = true) (t : ∀ w ∈ B, w.before args s = true) : ∀ w' ∈ w :: B, w'.before args s = true := fun w' h' => (List.mem_cons.mp h').elim (fun e => by rw [e]; exact h) (t w')
theorem vx_n {args : Array Value} {s : State} : ∀ w ∈ ([] : List Cond), w.before args s = true := fun _ h => nomatch h
theorem vx_own {args : Array Value} {s : State} {L : List Cond} (h1 : ∀ w ∈ L.filter vx_no, w.before args s = true)
    (hU : (Cond.isRef (.static Bundle.tN "UNASSIGNED_STACK" Bundle.steD)).before args s = true) (hN : (Cond.isRef (.static Bundle.tN "SUPPRESSED_SENTINEL" Bundle.listD)).before args s = true)
    (lU : (Cond.laysStatic Bundle.tN "UNASSIGNED_STACK" Bundle.steD).before args s = true) (lN : (Cond.laysStatic Bundle.tN "SUPPRESSED_SENTINEL" Bundle.listD).before args s = true) : ∀ w ∈ L, w.before args s = true := by
  intro w hw
  by_cases e1 : w = .isRef (.static Bundle.tN "UNASSIGNED_STACK" Bundle.steD)
  · rw [e1]; exact hU
  · by_cases e2 : w = .isRef (.static Bundle.tN "SUPPRESSED_SENTINEL" Bundle.listD)
    · rw [e2]; exact hN
    · by_cases e3 : w = .laysStatic Bundle.tN "UNASSIGNED_STACK" Bundle.steD
      · rw [e3]; exact lU
      · by_cases e4 : w = .laysStatic Bundle.tN "SUPPRESSED_SENTINEL" Bundle.listD
        · rw [e4]; exact lN
        · exact h1 w (List.mem_filter.mpr ⟨hw, by unfold vx_no; rw [decide_eq_true e1, decide_eq_true e2, decide_eq_true e3, decide_eq_true e4]; rfl⟩)
/-- where a static field lies, its class's statics cell in H -/
def vx_L (C n d : String) (A : Nat → Prop) (U : State) (H : Heap) : Prop := ∃ (c : ClassId) (k : Class) (i : Nat) (f : Field) (a : Nat) (cell : Cell), U.vm.findClass C = some c ∧ U.fieldFound? C n d = some (c, k, i, f) ∧ f.isStatic = true ∧ k.statics = some a ∧ H[a]? = some cell ∧ cell.vm.isStatics = true ∧ cell.cls = c ∧ f.slot < cell.slots.size ∧ k.staticTypes[f.slot]? = some f.type ∧ ¬ A a
theorem vx_L.moved {C n d : String} {A : Nat → Prop} {u U : State} {H : Heap} (hvm : u.vm.Alike U.vm) (h : vx_L C n d A u H) : vx_L C n d A U H := by
  obtain ⟨c, k, i, f, a, cell, h1, h2, h3, h4, h5, h6, h7, h8, h9, h10⟩ := h
  obtain ⟨k', hi', he⟩ := State.fieldFound?_setVm hvm h2
  exact ⟨c, k', i, f, a, cell, by rw [hvm.findClass]; exact h1, hi', h3, by rw [he]; exact h4, h5, h6, h7, h8, by rw [he]; exact h9, h10⟩
theorem vx_L.kept {C n d : String} {A : Nat → Prop} {U : State} {H H1 : Heap} (h : vx_L C n d A U H) (hq : ∀ a : Nat, a < H.size → ¬ A a → H1[a]? = H[a]?) : vx_L C n d A U H1 := by
  obtain ⟨c, k, i, f, a, cell, h1, h2, h3, h4, h5, h6, h7, h8, h9, h10⟩ := h
  exact ⟨c, k, i, f, a, cell, h1, h2, h3, h4, by rw [hq a (Array.getElem?_eq_some_iff.mp h5).1 h10]; exact h5, h6, h7, h8, h9, h10⟩
theorem vx_L.narrow {C n d : String} {A B : Nat → Prop} {U : State} {H : Heap} (h : vx_L C n d A U H) (hAB : ∀ q, B q → A q) : vx_L C n d B U H := by
  obtain ⟨c, k, i, f, a, cell, h1, h2, h3, h4, h5, h6, h7, h8, h9, h10⟩ := h
  exact ⟨c, k, i, f, a, cell, h1, h2, h3, h4, h5, h6, h7, h8, h9, fun z => h10 (hAB _ z)⟩
theorem vx_L.word {C n d : String} {A : Nat → Prop} {s : State} {args : Array Value} (h : vx_L C n d A s s.heap) : (Cond.laysStatic C n d).before args s = true := by
  obtain ⟨c, k, i, f, a, cell, h1, h2, h3, h4, h5, h6, h7, h8, h9, -⟩ := h
  show (Cond.laysStatic C n d).holds args s none s [] = true
  exact Cond.laysStatic_of h1 h2 h3 h4 h5 h6 h7 h8 h9
/-- .. and what it holds: null or some reference -/
def vx_Zq (C n d : String) (A : Nat → Prop) (U : State) (H : Heap) : Prop := va_Zq C n d A U H ∧ vx_L C n d A U H
theorem vx_Zq.moved {C n d : String} {A : Nat → Prop} {u U : State} {H : Heap} (hvm : u.vm.Alike U.vm) (h : vx_Zq C n d A u H) : vx_Zq C n d A U H := ⟨va_Zq.moved hvm h.1, vx_L.moved hvm h.2⟩
theorem vx_Zq.kept {C n d : String} {A : Nat → Prop} {U : State} {H H1 : Heap} (h : vx_Zq C n d A U H) (hq : ∀ a : Nat, a < H.size → ¬ A a → H1[a]? = H[a]?) : vx_Zq C n d A U H1 := ⟨va_Zq.kept h.1 hq, vx_L.kept h.2 hq⟩
theorem vx_Zq.narrow {C n d : String} {A B : Nat → Prop} {U : State} {H : Heap} (h : vx_Zq C n d A U H) (hAB : ∀ q, B q → A q) : vx_Zq C n d B U H := ⟨va_Zq.narrow h.1 hAB, vx_L.narrow h.2 hAB⟩
theorem vx_Zqof {args : Array Value} {s : State} {C n d : String} {A : Nat → Prop} (hl : (Cond.laysStatic C n d).before args s = true) (hini : (Cond.initialized C).before args s = true) (h : (Cond.isRef (.static C n d)).before args s = true) (hA : ∀ a : Nat, a < s.heap.size → ¬ A a) : vx_Zq C n d A s s.heap := by
  refine ⟨va_Zqof hl hini h hA, ?_⟩
  obtain ⟨c, k, i, f, a, cell, h1, h2, h3, h4, h5, h6, h7, h8, h9⟩ := Cond.laysStatic_spec hl
  exact ⟨c, k, i, f, a, cell, h1, h2, h3, h4, h5, h6, h7, h8, h9, hA a (Array.getElem?_eq_some_iff.mp h5).1⟩
theorem vx_isRef {C n d : String} {v : Value} {A : Nat → Prop} {s : State} {args : Array Value} (h : va_Z C n d v A s s.heap) (hv : v.isRef = true) : (Cond.isRef (.static C n d)).before args s = true := by
  obtain ⟨cf, kf, fi, f, a, cell, h1, h2, h3, h4, h5, h6, h7, -⟩ := h
  have he : (Term.static C n d).eval args s none [] s = some v := by
    simp [Term.eval, State.fieldNamed?, h1, h2, h4, h5, h6, h7]
  simp only [Cond.before, Cond.holds, Cond.value, he]
  cases v <;> simp_all [Value.isRef]
theorem vx_isRefq {C n d : String} {A : Nat → Prop} {s : State} {args : Array Value} (h : va_Zq C n d A s s.heap) : (Cond.isRef (.static C n d)).before args s = true := by
  rcases h with h | ⟨t, h⟩
  · exact vx_isRef h rfl
  · exact vx_isRef h rfl
/-- the same frame, seen from here: as if the method were called anew in this heap -/
theorem vx_rebase {T : State} (X : Stand p l e R s m args below meth c T locs cells slots) {R' : Room} (hf : R'.frames ≤ R.frames) (hl : R'.locals ≤ R.locals) (hc : cells + R'.cells ≤ R.cells) (hs : slots + R'.slots ≤ R.slots) :
    Stand p l e R' ((T.setVm s.vm).setFrames (.invoking m args :: below)) m args below meth c T [] 0 0 := by
  have htop : (T.setVm s.vm).topJava?.isSome := X.here.top
  have hF : ((T.setVm s.vm).setFrames (.invoking m args :: below)).frames = .invoking m args :: below := State.frames_setFrames _ (State.cur_lt_of_top htop)
  obtain ⟨g₀, hg0⟩ := Option.isSome_iff_exists.mp htop
  obtain ⟨r, hr⟩ := State.topJava?_eq_some.mp hg0
  have hl9 : e.platform.stackLimits (T.setVm s.vm).me = e.platform.stackLimits s.me := X.limits
  have hb9 : (T.setVm s.vm).me.stackBytes = s.me.stackBytes := X.bytes
  refine ⟨X.admits, X.cas, X.clock, hF, ?_, X.hears, X.method, X.code, X.here, X.tail, X.warmed, ?_, ?_, ?_⟩
  · have h := X.room
    have hU : ((T.setVm s.vm).setFrames (.invoking m args :: below)).localsInUse = s.localsInUse := by
      rw [State.localsInUse_invoking hF (meth := meth) (c := c) X.method X.code, State.localsInUse_invoking X.frames X.method X.code]
    simp only [State.hasRoom, Bool.and_eq_true, decide_eq_true_eq] at h ⊢
    obtain ⟨⟨⟨⟨h1, h2, h3, h4, h5, h6⟩, h7⟩, h8⟩, h9⟩ := h
    rw [X.frames, List.length_cons] at h2 h3
    have q1 := X.heapSize
    have q2 := X.used
    simp only [hF, hU, List.length_cons, State.stackLimits_setFrames, State.stackBytes_setFrames, hl9, hb9]
    refine ⟨⟨⟨⟨by omega, by omega, by omega, by omega, by omega, h6⟩, ?_⟩, ?_⟩, X.book⟩
    · show T.heap.size + R'.cells ≤ e.platform.maxCells
      omega
    · show T.slotsUsed + R'.slots ≤ e.platform.maxSlots
      omega
  · rw [State.stackLimits_setFrames]; rfl
  · rw [State.stackBytes_setFrames]; rfl
  · refine ⟨?_, Nat.le_refl _, Nat.le_refl _, ?_, ?_, fun a c9 h9 => ⟨c9, h9, rfl, rfl, fun _ _ => rfl⟩⟩
    · obtain ⟨t, ht, -⟩ := State.frames_cons hr
      show T.setVm s.vm = { ((T.setVm s.vm).setFrames (.invoking m args :: below)).setFrames (T.setVm s.vm).frames with heap := T.heap, slotsUsed := T.slotsUsed }
      rw [State.setFrames_setFrames, State.setFrames_self ht]
      rfl
    · show T.slotsUsed = T.slotsUsed + ((T.heap.toList.drop T.heap.size).map (·.slots.size)).sum
      rw [List.drop_eq_nil_of_le (Nat.le_of_eq Array.length_toList)]
      rfl
    · show ((T.heap.toList.drop T.heap.size).map (·.slots.size)).sum ≤ 0
      rw [List.drop_eq_nil_of_le (Nat.le_of_eq Array.length_toList)]
      exact Nat.le_refl _
/-- 'throw new E()': new; dup; invokespecial; athrow -/
theorem vx_throw0 {cc : ByteArray} {pc : Nat} (hexec : p.tables.exec = Jvm.exec) (hb : c.code = cc) (hl : l.stackTraces = false) {own cls : String} {names : List String} {ik ic mc ms : Nat} {A : Nat → Prop}
    (hown : s.vm.findClass own = some m.cls) (hcls : Bundle.fit cls = true) (hnames : ∀ n ∈ names, Bundle.fit n = true)
    (hk : (Cond.classLink own ik cls).before args s = true) (hini : (Cond.initialized cls).before args s = true) (hat : ∀ w ∈ vx_at0 own ic cls names, w.before args s = true)
    (hgood : ∀ w ∈ Cond.classLink own ik cls :: Cond.initialized cls :: vx_at0 own ic cls names, vx_ot w = true)
    (hU : vx_Zq Bundle.tN "UNASSIGNED_STACK" Bundle.steD A s s.heap) (hN : vx_Zq Bundle.tN "SUPPRESSED_SENTINEL" Bundle.listD A s s.heap) (hS : va_S A s.heap H locs) (hsize : ls.size = c.maxLocals)
    (d0 : decode cc pc = .ok (.new ik, 3)) (d3 : decode cc (pc + 3) = .ok (.dup, 1)) (d4 : decode cc (pc + 4) = .ok (.invokespecial ic, 3)) (d7 : decode cc (pc + 7) = .ok (.athrow, 1))
    (hout : ∀ x ∈ c.exceptionTable.toList, covers x (pc + 7) = false)
    (hRframes : names.length + 3 < R.frames) (hRlocals : (rest.map fun v => v.category).sum + (13 * (names.length + 1) + 42) ≤ R.locals) (hRcells : cells + 1 ≤ R.cells) (hRslots : slots + 6 ≤ R.slots) (hlocks : meth.locks = false)
    (hx : ∀ t : State, s.vm.Alike t.vm → H.size ≤ t.heap.size → (∀ q : Nat, q < H.size → t.heap[q]? = H[q]?) → XC cls s t)
    (hf : ∀ z ∈ locs, free z.base) (hc : cells + 1 ≤ mc) (hs : slots + 6 ≤ ms) :
    W p l e R s m args below meth c H locs cells slots (vx_MQ below Qc XC args s mc ms free) (F0 m pc ls rest) := by
  intro T hT X
  have htr : e.platform.stackTraces = false := (show e.platform.stackTraces = l.stackTraces by rw [X.admits.platform]).trans hl
  have Y := vx_rebase X (R' := { frames := R.frames, locals := R.locals, cells := 1, slots := 6 }) (Nat.le_refl _) (Nat.le_refl _) hRcells hRslots
  obtain ⟨s', hA⟩ : ∃ z, z = (T.setVm s.vm).setFrames (.invoking m args :: below) := ⟨_, rfl⟩
  rw [← hA] at Y
  have hvm : s'.vm = s.vm := by rw [hA]; rfl
  have hhp : s'.heap = H := by rw [hA]; exact hT
  have hW0 : s.WarmedH s'.vm := by rw [hvm]; exact State.WarmedH.refl s
  have hat' : ∀ w ∈ vx_at0 own ic cls names, w.before args s' = true := fun w hw => vx_ot_at hW0 hvm.symm (hgood w (List.mem_cons_of_mem _ (List.mem_cons_of_mem _ hw))) (hat w hw)
  have hk' : (Cond.classLink own ik cls).before args s' = true := vx_ot_at hW0 hvm.symm (hgood _ List.mem_cons_self) hk
  have hini' : (Cond.initialized cls).before args s' = true := vx_ot_at hW0 hvm.symm (hgood _ (List.mem_cons_of_mem _ List.mem_cons_self)) hini
  have hU' : vx_Zq Bundle.tN "UNASSIGNED_STACK" Bundle.steD A s' s'.heap := by rw [hhp]; exact vx_Zq.moved hW0.alike (hU.kept hS.2.1)
  have hN' : vx_Zq Bundle.tN "SUPPRESSED_SENTINEL" Bundle.listD A s' s'.heap := by rw [hhp]; exact vx_Zq.moved hW0.alike (hN.kept hS.2.1)
  have h : ∀ w ∈ Bundle.ownAtoms0 own ic cls names, w.before args s' = true := vx_own hat' (vx_isRefq hU'.1) (vx_isRefq hN'.1) hU'.2.word hN'.2.word
  have hown' : s'.vm.findClass own = some m.cls := by rw [hvm]; exact hown
  have hins : (Cond.instantiable cls 6).before args s' = true := h _ (by simp [Bundle.ownAtoms0])
  obtain ⟨vm₁, cX, kX, hfX, hkX, -, -, X₁, st1⟩ := Y.newCold hexec (own := own) (C := cls) (index := ik) (n := 6) hown' hk' hins hini'
    (g := F0 m pc ls rest) rfl (by rw [hb]; exact d0) (Nat.le_refl _) (Nat.le_refl _)
  generalize hT1 : (T.setVm vm₁).pushCell { cls := cX, slots := kX.instanceTypes.map defaultValue, vm := .none } = T1 at X₁ st1
  have hcat : (Value.ref T.heap.size).category = 1 := rfl
  have hcellA : T1.heap[T.heap.size]? = some (freshCell cX kX) := by rw [← hT1]; exact State.heap_pushCell_size _ _
  have d3' : decode c.code (pc + 3) = .ok (.dup, 1) := by rw [hb]; exact d3
  obtain ⟨U, hsteps, hrun, hend, hW, hsame, ce, hce, hO⟩ := X₁.ctorThrow0 hexec htr (own := own) (cls := cls) (names := names) (ic := ic) hown' hcls hnames h (fun x hx => nomatch hx) hfX hkX hcellA (by rw [hhp, hT]; exact Nat.le_refl _)
    (g := { method := m, pc := pc + 4, locals := ls, stack := .ref T.heap.size :: .ref T.heap.size :: rest, locked := none }) rfl hsize rfl rfl (rest := rest) rfl
    (by rw [hb]; exact d4) (by rw [hb]; exact d7) hout hRframes (by simp only [List.map_cons, List.sum_cons, hcat]; omega) hlocks
  obtain ⟨f1, f2⟩ := vx_frame hsame
  rw [hhp] at f1 f2
  have hWs : s.WarmedH U.vm := State.WarmedH.trans hW0 hW
  have hcl : s.vm.findClass cls = some ce.cls := by
    have h9 := hO.cls
    rw [hvm] at h9
    exact h9
  have hall : s.sameButNew ({ U with vm := s.vm } : State) locs mc ms := by
    subst hA
    obtain ⟨e1, e2⟩ := hsame
    rw [State.setFrames_setFrames] at e1
    have h2 : (T.setVm s.vm).sameButNew ({ U with vm := s.vm } : State) [] (0 + 1) (0 + 6) := ⟨e1, e2⟩
    have h3 := X.same.trans h2
    rw [List.append_nil] at h3
    exact h3.mono hc hs
  refine ⟨U, ?_, .threw T.heap.size, hrun, hend, Or.inr ⟨T.heap.size, rfl, cls, ce, locs, hx U hWs.alike f1 (fun q hq => f2 q hq (fun z hz => nomatch hz)), hce, hO.vm, hcl, hWs, hall, hf⟩⟩
  refine st1 _ ?_
  show Steps p.tables e below (T1.setTop { method := m, pc := pc + 3, locals := ls, stack := .ref T.heap.size :: rest, locked := none }) _
  jvm_step X₁.here [X₁.here.top, hexec, d3', Value.category]
  exact hsteps
/-- 'throw new E("text")': new; dup; ldc; invokespecial; athrow -/
theorem vx_throwS {cc : ByteArray} {pc : Nat} (hexec : p.tables.exec = Jvm.exec) (hb : c.code = cc) (hl : l.stackTraces = false) {own cls text : String} {names : List String} {ik is ic mc ms sa : Nat} {A : Nat → Prop}
    (hown : s.vm.findClass own = some m.cls) (hcls : Bundle.fit cls = true) (hnames : ∀ n ∈ names, Bundle.fit n = true)
    (hk : (Cond.classLink own ik cls).before args s = true) (hini : (Cond.initialized cls).before args s = true) (hstr : vk_R own is text sa s) (hat : ∀ w ∈ vx_atS own ic cls names, w.before args s = true)
    (hgood : ∀ w ∈ Cond.classLink own ik cls :: Cond.initialized cls :: vx_atS own ic cls names, vx_ot w = true)
    (hU : vx_Zq Bundle.tN "UNASSIGNED_STACK" Bundle.steD A s s.heap) (hN : vx_Zq Bundle.tN "SUPPRESSED_SENTINEL" Bundle.listD A s s.heap) (hS : va_S A s.heap H locs) (hsize : ls.size = c.maxLocals)
    (d0 : decode cc pc = .ok (.new ik, 3)) (d3 : decode cc (pc + 3) = .ok (.dup, 1)) (d4 : decode cc (pc + 4) = .ok (.ldc is, 2)) (d6 : decode cc (pc + 6) = .ok (.invokespecial ic, 3)) (d9 : decode cc (pc + 9) = .ok (.athrow, 1))
    (hout : ∀ x ∈ c.exceptionTable.toList, covers x (pc + 9) = false)
    (hRframes : names.length + 3 < R.frames) (hRlocals : (rest.map fun v => v.category).sum + (13 * (names.length + 1) + 43) ≤ R.locals) (hRcells : cells + 1 ≤ R.cells) (hRslots : slots + 6 ≤ R.slots) (hlocks : meth.locks = false)
    (hx : ∀ t : State, s.vm.Alike t.vm → H.size ≤ t.heap.size → (∀ q : Nat, q < H.size → t.heap[q]? = H[q]?) → XC cls s t)
    (hf : ∀ z ∈ locs, free z.base) (hc : cells + 1 ≤ mc) (hs : slots + 6 ≤ ms) :
    W p l e R s m args below meth c H locs cells slots (vx_MQ below Qc XC args s mc ms free) (F0 m pc ls rest) := by
  intro T hT X
  have htr : e.platform.stackTraces = false := (show e.platform.stackTraces = l.stackTraces by rw [X.admits.platform]).trans hl
  have Y := vx_rebase X (R' := { frames := R.frames, locals := R.locals, cells := 1, slots := 6 }) (Nat.le_refl _) (Nat.le_refl _) hRcells hRslots
  obtain ⟨s', hA⟩ : ∃ z, z = (T.setVm s.vm).setFrames (.invoking m args :: below) := ⟨_, rfl⟩
  rw [← hA] at Y
  have hvm : s'.vm = s.vm := by rw [hA]; rfl
  have hhp : s'.heap = H := by rw [hA]; exact hT
  have hW0 : s.WarmedH s'.vm := by rw [hvm]; exact State.WarmedH.refl s
  have hat' : ∀ w ∈ vx_atS own ic cls names, w.before args s' = true := fun w hw => vx_ot_at hW0 hvm.symm (hgood w (List.mem_cons_of_mem _ (List.mem_cons_of_mem _ hw))) (hat w hw)
  have hk' : (Cond.classLink own ik cls).before args s' = true := vx_ot_at hW0 hvm.symm (hgood _ List.mem_cons_self) hk
  have hini' : (Cond.initialized cls).before args s' = true := vx_ot_at hW0 hvm.symm (hgood _ (List.mem_cons_of_mem _ List.mem_cons_self)) hini
  have hU' : vx_Zq Bundle.tN "UNASSIGNED_STACK" Bundle.steD A s' s'.heap := by rw [hhp]; exact vx_Zq.moved hW0.alike (hU.kept hS.2.1)
  have hN' : vx_Zq Bundle.tN "SUPPRESSED_SENTINEL" Bundle.listD A s' s'.heap := by rw [hhp]; exact vx_Zq.moved hW0.alike (hN.kept hS.2.1)
  have h : ∀ w ∈ Bundle.ownAtoms own ic cls names, w.before args s' = true := vx_own hat' (vx_isRefq hU'.1) (vx_isRefq hN'.1) hU'.2.word hN'.2.word
  have hown' : s'.vm.findClass own = some m.cls := by rw [hvm]; exact hown
  have hins : (Cond.instantiable cls 6).before args s' = true := h _ (by simp [Bundle.ownAtoms])
  obtain ⟨vm₁, cX, kX, hfX, hkX, -, -, X₁, st1⟩ := Y.newCold hexec (own := own) (C := cls) (index := ik) (n := 6) hown' hk' hins hini'
    (g := F0 m pc ls rest) rfl (by rw [hb]; exact d0) (Nat.le_refl _) (Nat.le_refl _)
  generalize hT1 : (T.setVm vm₁).pushCell { cls := cX, slots := kX.instanceTypes.map defaultValue, vm := .none } = T1 at X₁ st1
  have hcat : (Value.ref T.heap.size).category = 1 := rfl
  have hcellA : T1.heap[T.heap.size]? = some (freshCell cX kX) := by rw [← hT1]; exact State.heap_pushCell_size _ _
  have d3' : decode c.code (pc + 3) = .ok (.dup, 1) := by rw [hb]; exact d3
  have d4' : decode c.code (pc + 4) = .ok (.ldc is, 2) := by rw [hb]; exact d4
  have hstr' : vk_R own is text sa s' := vk_R.warm hW0 hstr
  obtain ⟨U, hsteps, hrun, hend, hW, hsame, ce, hce, hO⟩ := X₁.ctorThrowS hexec htr (own := own) (cls := cls) (names := names) (ic := ic) hown' hcls hnames h (fun x hx => nomatch hx) hfX hkX hcellA (by rw [hhp, hT]; exact Nat.le_refl _) (msg := .ref sa) rfl
    (g := { method := m, pc := pc + 6, locals := ls, stack := .ref sa :: .ref T.heap.size :: .ref T.heap.size :: rest, locked := none }) rfl hsize rfl rfl (rest := rest) rfl
    (by rw [hb]; exact d6) (by rw [hb]; exact d9) hout hRframes (by simp only [List.map_cons, List.sum_cons, hcat]; omega) hlocks
  obtain ⟨f1, f2⟩ := vx_frame hsame
  rw [hhp] at f1 f2
  have hWs : s.WarmedH U.vm := State.WarmedH.trans hW0 hW
  have hcl : s.vm.findClass cls = some ce.cls := by
    have h9 := hO.cls
    rw [hvm] at h9
    exact h9
  have hall : s.sameButNew ({ U with vm := s.vm } : State) locs mc ms := by
    subst hA
    obtain ⟨e1, e2⟩ := hsame
    rw [State.setFrames_setFrames] at e1
    have h2 : (T.setVm s.vm).sameButNew ({ U with vm := s.vm } : State) [] (0 + 1) (0 + 6) := ⟨e1, e2⟩
    have h3 := X.same.trans h2
    rw [List.append_nil] at h3
    exact h3.mono hc hs
  refine ⟨U, ?_, .threw T.heap.size, hrun, hend, Or.inr ⟨T.heap.size, rfl, cls, ce, locs, hx U hWs.alike f1 (fun q hq => f2 q hq (fun z hz => nomatch hz)), hce, hO.vm, hcl, hWs, hall, hf⟩⟩
  refine st1 _ ?_
  show Steps p.tables e below (T1.setTop { method := m, pc := pc + 3, locals := ls, stack := .ref T.heap.size :: rest, locked := none }) _
  jvm_step X₁.here [X₁.here.top, hexec, d3', Value.category]
  exact X₁.ldcString hexec (own := own) (text := text) (index := is) (a := sa) hown' hstr'.1 hstr'.2
    (g := { method := m, pc := pc + 4, locals := ls, stack := .ref T.heap.size :: .ref T.heap.size :: rest, locked := none }) rfl d4' _ hsteps
/-- 'throw new E("text")', the text by a wide index -/
theorem vx_throwSW {cc : ByteArray} {pc : Nat} (hexec : p.tables.exec = Jvm.exec) (hb : c.code = cc) (hl : l.stackTraces = false) {own cls text : String} {names : List String} {ik is ic mc ms sa : Nat} {A : Nat → Prop}
    (hown : s.vm.findClass own = some m.cls) (hcls : Bundle.fit cls = true) (hnames : ∀ n ∈ names, Bundle.fit n = true)
    (hk : (Cond.classLink own ik cls).before args s = true) (hini : (Cond.initialized cls).before args s = true) (hstr : vk_R own is text sa s) (hat : ∀ w ∈ vx_atS own ic cls names, w.before args s = true)
    (hgood : ∀ w ∈ Cond.classLink own ik cls :: Cond.initialized cls :: vx_atS own ic cls names, vx_ot w = true)
    (hU : vx_Zq Bundle.tN "UNASSIGNED_STACK" Bundle.steD A s s.heap) (hN : vx_Zq Bundle.tN "SUPPRESSED_SENTINEL" Bundle.listD A s s.heap) (hS : va_S A s.heap H locs) (hsize : ls.size = c.maxLocals)
    (d0 : decode cc pc = .ok (.new ik, 3)) (d3 : decode cc (pc + 3) = .ok (.dup, 1)) (d4 : decode cc (pc + 4) = .ok (.ldc_w is, 3)) (d7 : decode cc (pc + 7) = .ok (.invokespecial ic, 3)) (d10 : decode cc (pc + 10) = .ok (.athrow, 1))
    (hout : ∀ x ∈ c.exceptionTable.toList, covers x (pc + 10) = false)
    (hRframes : names.length + 3 < R.frames) (hRlocals : (rest.map fun v => v.category).sum + (13 * (names.length + 1) + 43) ≤ R.locals) (hRcells : cells + 1 ≤ R.cells) (hRslots : slots + 6 ≤ R.slots) (hlocks : meth.locks = false)
    (hx : ∀ t : State, s.vm.Alike t.vm → H.size ≤ t.heap.size → (∀ q : Nat, q < H.size → t.heap[q]? = H[q]?) → XC cls s t)
    (hf : ∀ z ∈ locs, free z.base) (hc : cells + 1 ≤ mc) (hs : slots + 6 ≤ ms) :
    W p l e R s m args below meth c H locs cells slots (vx_MQ below Qc XC args s mc ms free) (F0 m pc ls rest) := by
  intro T hT X
  have htr : e.platform.stackTraces = false := (show e.platform.stackTraces = l.stackTraces by rw [X.admits.platform]).trans hl
  have Y := vx_rebase X (R' := { frames := R.frames, locals := R.locals, cells := 1, slots := 6 }) (Nat.le_refl _) (Nat.le_refl _) hRcells hRslots
  obtain ⟨s', hA⟩ : ∃ z, z = (T.setVm s.vm).setFrames (.invoking m args :: below) := ⟨_, rfl⟩
  rw [← hA] at Y
  have hvm : s'.vm = s.vm := by rw [hA]; rfl
  have hhp : s'.heap = H := by rw [hA]; exact hT
  have hW0 : s.WarmedH s'.vm := by rw [hvm]; exact State.WarmedH.refl s
  have hat' : ∀ w ∈ vx_atS own ic cls names, w.before args s' = true := fun w hw => vx_ot_at hW0 hvm.symm (hgood w (List.mem_cons_of_mem _ (List.mem_cons_of_mem _ hw))) (hat w hw)
  have hk' : (Cond.classLink own ik cls).before args s' = true := vx_ot_at hW0 hvm.symm (hgood _ List.mem_cons_self) hk
  have hini' : (Cond.initialized cls).before args s' = true := vx_ot_at hW0 hvm.symm (hgood _ (List.mem_cons_of_mem _ List.mem_cons_self)) hini
  have hU' : vx_Zq Bundle.tN "UNASSIGNED_STACK" Bundle.steD A s' s'.heap := by rw [hhp]; exact vx_Zq.moved hW0.alike (hU.kept hS.2.1)
  have hN' : vx_Zq Bundle.tN "SUPPRESSED_SENTINEL" Bundle.listD A s' s'.heap := by rw [hhp]; exact vx_Zq.moved hW0.alike (hN.kept hS.2.1)
  have h : ∀ w ∈ Bundle.ownAtoms own ic cls names, w.before args s' = true := vx_own hat' (vx_isRefq hU'.1) (vx_isRefq hN'.1) hU'.2.word hN'.2.word
  have hown' : s'.vm.findClass own = some m.cls := by rw [hvm]; exact hown
  have hins : (Cond.instantiable cls 6).before args s' = true := h _ (by simp [Bundle.ownAtoms])
  obtain ⟨vm₁, cX, kX, hfX, hkX, -, -, X₁, st1⟩ := Y.newCold hexec (own := own) (C := cls) (index := ik) (n := 6) hown' hk' hins hini'
    (g := F0 m pc ls rest) rfl (by rw [hb]; exact d0) (Nat.le_refl _) (Nat.le_refl _)
  generalize hT1 : (T.setVm vm₁).pushCell { cls := cX, slots := kX.instanceTypes.map defaultValue, vm := .none } = T1 at X₁ st1
  have hcat : (Value.ref T.heap.size).category = 1 := rfl
  have hcellA : T1.heap[T.heap.size]? = some (freshCell cX kX) := by rw [← hT1]; exact State.heap_pushCell_size _ _
  have d3' : decode c.code (pc + 3) = .ok (.dup, 1) := by rw [hb]; exact d3
  have d4' : decode c.code (pc + 4) = .ok (.ldc_w is, 3) := by rw [hb]; exact d4
  have hstr' : vk_R own is text sa s' := vk_R.warm hW0 hstr
  obtain ⟨U, hsteps, hrun, hend, hW, hsame, ce, hce, hO⟩ := X₁.ctorThrowS hexec htr (own := own) (cls := cls) (names := names) (ic := ic) hown' hcls hnames h (fun x hx => nomatch hx) hfX hkX hcellA (by rw [hhp, hT]; exact Nat.le_refl _) (msg := .ref sa) rfl
    (g := { method := m, pc := pc + 7, locals := ls, stack := .ref sa :: .ref T.heap.size :: .ref T.heap.size :: rest, locked := none }) rfl hsize rfl rfl (rest := rest) rfl
    (by rw [hb]; exact d7) (by rw [hb]; exact d10) hout hRframes (by simp only [List.map_cons, List.sum_cons, hcat]; omega) hlocks
  obtain ⟨f1, f2⟩ := vx_frame hsame
  rw [hhp] at f1 f2
  have hWs : s.WarmedH U.vm := State.WarmedH.trans hW0 hW
  have hcl : s.vm.findClass cls = some ce.cls := by
    have h9 := hO.cls
    rw [hvm] at h9
    exact h9
  have hall : s.sameButNew ({ U with vm := s.vm } : State) locs mc ms := by
    subst hA
    obtain ⟨e1, e2⟩ := hsame
    rw [State.setFrames_setFrames] at e1
    have h2 : (T.setVm s.vm).sameButNew ({ U with vm := s.vm } : State) [] (0 + 1) (0 + 6) := ⟨e1, e2⟩
    have h3 := X.same.trans h2
    rw [List.append_nil] at h3
    exact h3.mono hc hs
  refine ⟨U, ?_, .threw T.heap.size, hrun, hend, Or.inr ⟨T.heap.size, rfl, cls, ce, locs, hx U hWs.alike f1 (fun q hq => f2 q hq (fun z hz => nomatch hz)), hce, hO.vm, hcl, hWs, hall, hf⟩⟩
  refine st1 _ ?_
  show Steps p.tables e below (T1.setTop { method := m, pc := pc + 3, locals := ls, stack := .ref T.heap.size :: rest, locked := none }) _
  jvm_step X₁.here [X₁.here.top, hexec, d3', Value.category]
  exact X₁.ldcStringW hexec (own := own) (text := text) (index := is) (a := sa) hown' hstr'.1 hstr'.2
    (g := { method := m, pc := pc + 4, locals := ls, stack := .ref T.heap.size :: .ref T.heap.size :: rest, locked := none }) rfl d4' _ hsteps
end Ends
section Bodies
variable {l : Launch}
theorem vx_ofW {y : MethodName} {ws ws' : List Cond} {rm : Room} {Pc : Array Value → State → Prop} {Qc : Array Value → State → Outcome → State → Prop} {XC : String → State → State → Prop} {mc ms : Nat} {free : Addr → Prop} {cc : ByteArray} {maxL : Nat} {ret : Option FieldType}
    (hy : plainName y.cls = true) (hw : ws = Cond.code y cc maxL ret :: ws')
    (body : ∀ p e s m args below meth c s₁, BodyLoose p l y (headSpec ws rm) cc maxL ret e s m args below meth c s₁ → c.maxLocals = maxL → (∀ x ∈ c.exceptionTable.toList, False) → Pc args s →
      W p l e (headSpec ws rm).room s m args below meth c s.heap [] 0 0 (vx_MQ below Qc XC args s mc ms free) (entryFrame m args maxL)) : vx_Met l y ws rm Pc Qc XC mc ms free := by
  refine MetFree.of_bodyS (code := cc) (maxLocals := maxL) (ret := ret) hy ?_ ?_
  · intro args s m h hn
    obtain ⟨meth, c, h1, h2, h3, h4, h5, h6, -, -⟩ := Cond.code_spec hn (atoms_spec (ws := ws) h _ (by rw [hw]; exact List.mem_cons_self))
    exact ⟨meth, c, h1, h2, h3, h4, h5, h6⟩
  · intro p e s m args below meth c s₁ B hml hP _
    have hh0 : s₁.heap = s.heap := by rw [B.state]; rfl
    have ht : ∀ x ∈ c.exceptionTable.toList, False := by
      obtain ⟨meth9, c9, h1, h2, -, -, -, -, h7, -⟩ := Cond.code_spec B.named (atoms_spec (ws := ws) B.pre _ (by rw [hw]; exact List.mem_cons_self))
      cases Option.some.inj (h1.symm.trans B.method)
      cases Option.some.inj (h2.symm.trans (Stand.of_body B).code)
      intro x hx
      rw [Array.isEmpty_iff.mp h7] at hx
      cases hx
    obtain ⟨t, a1, o, b1, b2, b3⟩ := body p e s m args below meth c s₁ B hml ht hP s₁ hh0 (Stand.of_body B)
    exact ⟨t, o, a1, b1, b2, b3⟩
/-- the table of a body with handlers -/
theorem vx_table {p : Program} {x y : MethodName} {S : Spec} {cc bytes : ByteArray} {maxL maxL' : Nat} {ret ret' : Option FieldType} {e : Env} {s s₁ : State} {m : MethodId} {args : Array Value} {below : List Frame} {meth : Method} {c : Code} {hh : List (Nat × Nat × Nat × Nat)}
    (B : BodyLoose p l y S cc maxL ret e s m args below meth c s₁) (h : (Cond.codeWith y bytes maxL' ret' hh).before args s = true) : c.exceptionTable.toList = tableOf hh := by
  obtain ⟨m9, meth9, c9, hn9, h1, h2, -, -, h6, -⟩ := Cond.codeWith_spec h
  cases Option.some.inj (hn9.symm.trans B.named)
  cases Option.some.inj (h1.symm.trans B.method)
  cases Option.some.inj (h2.symm.trans (Stand.of_body B).code)
  rw [← h6, table_eq]
end Bodies
end VXA
/-! ===== END ===== -/
/-! ===== BEGIN a static call of a method with an exception table ===== -/
section VXS
variable {p : Program} {l : Launch} {e : Env} {R : Room} {s : State} {m : MethodId} {args : Array Value} {below : List Frame} {meth : Method} {c : Code} {T : State} {H : Heap} {locs : List Loc} {cells slots : Nat}
abbrev vx_CSW (R : Room) (s : State) (args : Array Value) (own : String) (index : Nat) (y : MethodName) (bytes : ByteArray) (maxL : Nat) (ret : Option FieldType) (hh : List (Nat × Nat × Nat × Nat)) (ws : List Cond) (rm : Room) (mc ms n : Nat) : Prop :=
  (rm.cells = mc ∧ rm.slots = ms ∧ rm.frames + 1 ≤ R.frames ∧ 8 + (maxL + 11) + rm.locals ≤ R.locals ∧ (∀ w ∈ ws, ∀ (a' : Array Value) (U : State), s.WarmedH U.vm → w.before a' U = true) ∧ Cond.codeWith y bytes maxL ret hh ∈ ws) ∧
  (Cond.codeWith y bytes maxL ret hh).before args s = true ∧ (Cond.initialized y.cls).before args s = true ∧ (y.cls ≠ "java/lang/invoke/MethodHandle" ∧ y.cls ≠ "java/lang/invoke/VarHandle") ∧
  (∀ sig, parseMethodDescriptor y.desc = some sig → n = sig.parameters.length) ∧ (Cond.methodLink own index y).before args s = true ∧ (Cond.static y).before args s = true
theorem vx_cwSW {own : String} {index maxL mc ms : Nat} {y : MethodName} {bytes : ByteArray} {ret : Option FieldType} {hh : List (Nat × Nat × Nat × Nat)} {Ts ws ws' : List Cond} {rm : Room} (n : Nat) (ht : ∀ w ∈ Ts, w.before args s = true) (hT : GoodIn Ts (va_wsS own index y ws)) (hw : ws = Cond.codeWith y bytes maxL ret hh :: ws') (hrc : rm.cells = mc) (hrs : rm.slots = ms)
    (hd : y.cls ≠ "java/lang/invoke/MethodHandle" ∧ y.cls ≠ "java/lang/invoke/VarHandle" ∧ (parseMethodDescriptor y.desc).map (fun d => d.parameters.length) = some n) (hR : rm.frames + 1 ≤ R.frames ∧ 8 + (maxL + 11) + rm.locals ≤ R.locals) :
    vx_CSW R s args own index y bytes maxL ret hh ws rm mc ms n := by
  have ok : ∀ w ∈ va_wsS own index y ws, w.before args s = true := fun w h => ht w (hT w h).1
  have hG : GoodIn Ts ws := fun w h => hT w (by unfold va_wsS; exact List.mem_append_right _ h)
  have hc : Cond.codeWith y bytes maxL ret hh ∈ ws := by rw [hw]; exact List.mem_cons_self
  refine ⟨⟨hrc, hrs, hR.1, hR.2, pay_in ht hG, hc⟩, ht _ (hG _ hc).1, ok _ (by simp [va_wsS]), ⟨hd.1, hd.2.1⟩, fun sig h => ?_, ok _ (by simp [va_wsS]), ok _ (by simp [va_wsS])⟩
  have h2 := hd.2.2
  rw [h] at h2
  exact (Option.some.inj h2).symm
theorem vx_callSW (X : Stand p l e R s m args below meth c T locs cells slots) (hexec : p.tables.exec = Jvm.exec) {own : String} {index : Nat} {y : MethodName} {bytes : ByteArray} {maxL : Nat} {ret : Option FieldType} {hh : List (Nat × Nat × Nat × Nat)}
    (hown : s.vm.findClass own = some m.cls) (hlink : (Cond.methodLink own index y).before args s = true) (hstat : (Cond.static y).before args s = true) (hinit : (Cond.initialized y.cls).before args s = true)
    (hcode : (Cond.codeWith y bytes maxL ret hh).before args s = true) (hy : y.cls ≠ "java/lang/invoke/MethodHandle" ∧ y.cls ≠ "java/lang/invoke/VarHandle")
    {W9 : Nat} {Pre : Pt → Array Value → Prop} {Post : Pt → Array Value → Option Value → Pt → Prop} (hK : Back l R p e below s args y 3 W9 Pre Post)
    {g : JFrame} (hg : g.method = m) (hsize : g.locals.size = c.maxLocals) {argsL rest : List Value} (hlen : ∀ sig, parseMethodDescriptor y.desc = some sig → argsL.length = sig.parameters.length)
    (hstack : g.stack = argsL.reverse ++ rest) (hW : 2 * g.monitorRoom + (rest.map fun v => v.category).sum ≤ W9) (hdg : decode c.code g.pc = .ok (.invokestatic index, 3))
    (hpre : ∀ vm₁, s.WarmedH vm₁ → Pre ⟨T.setVm vm₁, locs, cells, slots⟩ argsL.toArray) :
    ∃ (v : Option Value) (vm₁ : Vm) (B : Pt), s.WarmedH vm₁ ∧ Stand p l e R s m args below meth c B.U B.locs B.cells B.slots ∧ Post ⟨T.setVm vm₁, locs, cells, slots⟩ argsL.toArray v B ∧
      ∀ target, Steps p.tables e below (B.U.setTop { g with pc := g.pc + 3, stack := v.toList ++ rest }) target → Steps p.tables e below (T.setTop g) target := by
  obtain ⟨mk, methM, cM, hnamed, hmethM, -, -, -, -, -, -, hsigM⟩ := Cond.codeWith_spec hcode
  have hstatic : methM.isStatic = true := Cond.static_spec hnamed hmethM hstat
  obtain ⟨kP, hkP, -⟩ := className_of_methodNamed hnamed
  have hinitP : kP.init = .initialized := Cond.initialized_spec (findClass_of_methodNamed hnamed) hkP hinit
  obtain ⟨vm₁, X₁, hstep₁⟩ := X.invokestatic hexec hown hlink hnamed hmethM hstatic hkP hinitP hy (g := g) hg (argsL := argsL) (rest := rest) (hlen _ hsigM) hstack hdg
  obtain ⟨v, B, X', hpost, hsteps⟩ := hK m meth c ⟨T.setVm vm₁, locs, cells, slots⟩ { g with stack := rest } (.invokestatic index) mk argsL.toArray X₁ hg hsize hdg hW (X₁.named hnamed) (hpre vm₁ X₁.warmed)
  exact ⟨v, vm₁, B, X₁.warmed, X', hpost, fun target h => hstep₁ _ fun acts => by rw [doInvoke_state]; exact hsteps.trans h⟩
theorem vx_runSW {y : MethodName} {bytes cc : ByteArray} {maxL nL mc ms n index : Nat} {ret : Option FieldType} {hh : List (Nat × Nat × Nat × Nat)} {ws : List Cond} {rm : Room} {Pc : Array Value → State → Prop} {Qc : Array Value → State → Outcome → State → Prop} {free : Addr → Prop} {Ts : List Cond} {own : String} {As rest : List Value} {g : JFrame}
    (S : CallFix p m c cc nL s args Ts own) (hM : Met l y ws rm Pc Qc mc ms free) (cw : vx_CSW R s args own index y bytes maxL ret hh ws rm mc ms n) (hp : PreS s H Pc As)
    (hg : g.method = m) (hn : As.length = n) (hsize : g.locals.size = nL) (hstack : g.stack = As.reverse ++ rest) (hW : 2 * g.monitorRoom + (rest.map fun v => v.category).sum ≤ 8) (hdg : decode cc g.pc = .ok (.invokestatic index, 3)) (hf : cells + mc ≤ R.cells ∧ slots + ms ≤ R.slots) :
    va_Run p l e R s m args below meth c H locs cells slots mc ms g rest (Qc As.toArray) (free) := by
  obtain ⟨⟨hrc, hrs, hfr, hlo, hws, hcw⟩, hcode, hini, hy, hlen, hl, hstt⟩ := cw
  have hK : Back l R p e below s args y 3 8 (PreOf R mc ms Pc) (PostOf Qc mc ms free) := va_backW (hh := hh) (bytes := bytes) (maxL := maxL) (ret := ret) hM hp.1 hrc hrs hfr hlo hws hcw (fun a' U hW => word_at hW (Or.inl (by first | rfl | simp [Cond.onTables, Cond.keeps, Cond.steady])) hini)
  obtain ⟨hx, hb, hml, ho, -⟩ := S
  intro T hT X
  obtain ⟨v, vm₁, ⟨U', l2, c2, s2⟩, hW₁, X', ⟨g', mk, t, L, e1, e2, hq, h1, hL, h2, h3⟩, st⟩ := vx_callSW X hx (hh := hh) (bytes := bytes) (maxL := maxL) (ret := ret) ho hl hstt hini hcode hy hK hg (hsize.trans hml.symm) (argsL := As) (rest := rest) (fun sig h => hn.trans (hlen sig h)) hstack hW (by rw [hb]; exact hdg)
    (fun vm₁ hW₁ => ⟨hf.1, hf.2, hp.2 (T.setVm vm₁) hT hW₁⟩)
  dsimp only [Pt.U, Pt.locs, Pt.cells, Pt.slots] at X' e1 e2 h1 h2 h3 st
  subst h1; subst h2; subst h3
  exact ⟨v, (T.setVm vm₁).calling g' mk As.toArray, t, U', L, hT, X', hL, e1, e2, hq, st⟩
/-- not caught here, past rows that name other classes: it goes on to the caller -/
theorem vx_outP {p : Program} {l : Launch} {e : Env} {R : Room} {s : State} {m : MethodId} {args : Array Value} {below : List Frame} {meth : Method} {c : Code} {H : Heap} {locs : List Loc} {cells slots : Nat} {free : Addr → Prop} {ls : Array Slot} {rest : List Value} {Qc : Array Value → State → Outcome → State → Prop} {XC : String → State → State → Prop}
    {pc : Nat} {own E : String} {ce : Cell} {q : Addr} {mc ms : Nat} (hown : s.vm.findClass own = some m.cls) (hlocks : meth.locks = false)
    (hpass : ∀ z ∈ c.exceptionTable.toList, covers z pc = false ∨ (z.catchType ≠ 0 ∧ ∃ nm : String, (Cond.classLink own z.catchType nm).before args s = true ∧ va_Nc E nm s)) (hcell : H[q]? = some ce) (hv : ce.vm = .none) (hcl : s.vm.findClass E = some ce.cls)
    (hx : ∀ t : State, t.heap = H → s.vm.Alike t.vm → XC E s t) (hf : ∀ z ∈ locs, free z.base) (hc : cells ≤ mc) (hs : slots ≤ ms) :
    vx_W p l e R s m args below meth c H locs cells slots (vx_MQ below Qc XC args s mc ms free) (F0 m pc ls rest) q := by
  intro T hT X
  have hpl : e.platform.magicAccessors = ({} : Platform).magicAccessors := by rw [X.admits.platform]
  obtain ⟨vm', hW', X', st⟩ := X.outThrough hlocks q (g := F0 m pc ls rest) rfl rfl rfl (cell := ce) (by rw [hT]; exact hcell) (by rw [hv]; rfl)
    (by obtain ⟨k9, h9, -⟩ := Vm.findClass_spec hcl; exact ⟨k9, h9⟩) (fun z hz => by
      rcases hpass z hz with h | ⟨hz0, nm, hl1, hn1⟩
      · exact Or.inl h
      · obtain ⟨c6, hc6, hcl6⟩ := Cond.classLink_spec hown hl1 e.platform hpl
        obtain ⟨a8, b8, h1, h2, h3⟩ := hn1
        cases Option.some.inj (h1.symm.trans hcl)
        cases Option.some.inj (h2.symm.trans hc6)
        exact Or.inr ⟨hz0, _, hcl6, h3⟩)
  obtain ⟨g₀, hfr⟩ := X'.frames_eq
  have hcell9 : ((T.setVm vm').setFrames (.throwing q :: below)).heap[q]? = some ce := by
    show T.heap[q]? = some ce
    rw [hT]; exact hcell
  have hend : Ended ((T.setVm vm').setFrames (.throwing q :: below)) below (.threw q) := State.frames_setFrames _ (State.cur_lt_of_frames hfr)
  refine ⟨(T.setVm vm').setFrames (.throwing q :: below), ?_, .threw q, X'.here.running, hend, Or.inr ⟨q, rfl, E, ce, locs, hx _ hT (X'.ends _).1.alike, hcell9, hv, hcl, (X'.ends _).1, (X'.ends _).2.mono hc hs, hf⟩⟩
  rw [X.pushThrowing_eq]
  exact st
/-- a thing of a world lies in the heap -/
theorem vx_lt {D : va_G} {cl : List vw_C} {ws : va_W} {H1 : Heap} (h : va_P D cl ws H1) {k : Nat} {q : Nat × va_E} (hk : ws[k]? = some q) : q.1 < H1.size := (h k q hk).lt
end VXS
/-! ===== END ===== -/
/-! ===== BEGIN methods with a table of their own: called by a name, returning or throwing ===== -/
section VXH
/-! vx_backW, vx_callVX, vx_callSX, vx_callVW, vx_runVW, vx_runVX, vx_runSX, vx_ofWH follow the same proofs as their sisters above (Free/Laws.lean, Shelf42/LK1.lean); vx_outP calls Shelf42/NT130.lean (outThrough). -/
section
variable {l : Launch} {R : Room} {p : Program} {e : Env} {below : List Frame} {s : State} {sargs : Array Value} {y : MethodName} {len W9 : Nat}
theorem vx_backW {ws : List Cond} {rm : Room} {Pc : Array Value → State → Prop} {Qc : Array Value → State → Outcome → State → Prop} {XC : String → State → State → Prop} {mc ms : Nat} {free : Addr → Prop} {bytes : ByteArray} {maxL : Nat} {ret : Option FieldType} {hh : List (Nat × Nat × Nat × Nat)}
    (hM : vx_Met l y ws rm Pc Qc XC mc ms free) (hblind : FrameBlind Pc) (hrc : rm.cells = mc) (hrs : rm.slots = ms)
    (hframes : rm.frames + 1 ≤ R.frames) (hlocals : W9 + (maxL + 11) + rm.locals ≤ R.locals)
    (hws : ∀ w ∈ ws, ∀ a' U, s.WarmedH U.vm → w.before a' U = true) (hcode : Cond.codeWith y bytes maxL ret hh ∈ ws) (hinit : ∀ a' U, s.WarmedH U.vm → (Cond.initialized y.cls).before a' U = true) :
    vx_Back l R p e below s sargs y len W9 (PreOf R mc ms Pc) (PostOf Qc mc ms free) (vx_Post XC mc ms free) := by
  intro m meth c A g ig mk a X hg hsize hdg hW hn hp
  have h1 : (headSpec ws rm).pre.before a A.U = true := atoms_intro fun w hw => hws w hw _ _ X.warmed
  have h2 : (Cond.codeWith y bytes maxL ret hh).before a A.U = true := hws _ hcode _ _ X.warmed
  have h3 : (Cond.initialized y.cls).before a A.U = true := hinit _ _ X.warmed
  have h4 : A.cells + (headSpec ws rm).room.cells ≤ R.cells := by rw [show (headSpec ws rm).room.cells = mc from hrc]; exact hp.1
  have h5 : A.slots + (headSpec ws rm).room.slots ≤ R.slots := by rw [show (headSpec ws rm).room.slots = ms from hrs]; exact hp.2.1
  have hPc : Pc a (A.U.calling g mk a) := hblind _ _ _ _ hp.2.2
  obtain ⟨U, Ls, c0, s0⟩ := A
  dsimp only [Pt.U, Pt.locs, Pt.cells, Pt.slots] at h1 h2 h3 h4 h5 X hn hPc ⊢
  obtain ⟨m9, methY, cY, hn9, hmY, hcY, -, hlY, -⟩ := Cond.codeWith_spec h2
  cases Option.some.inj (hn9.symm.trans hn)
  obtain ⟨kY, hkY, -⟩ := className_of_methodNamed hn
  have hinitY : kY.init = .initialized := Cond.initialized_spec (findClass_of_methodNamed hn) hkY h3
  have h : At U g.method c below := by rw [hg]; exact X.here
  have hlocals9 : W9 + (maxL + 11) + (headSpec ws rm).room.locals ≤ R.locals := hlocals
  have happ : (headSpec ws rm).appliesLoose y e.platform (U.calling g mk a) = true :=
    Spec.appliesLoose_calling (g := g) h hdg hn hkY hinitY
      (X.room_calling (g := g) (R' := (headSpec ws rm).room) hsize hmY hcY hframes (by rw [hlY]; omega) h4 h5) h1
  obtain ⟨mid, hmid⟩ := h.above
  have hfr : (U.setTop g).frames = (.java g :: mid) ++ below := by rw [State.frames_setTop' g h.top, hmid]; rfl
  obtain ⟨o, s₂, hsteps, -, hend, hq⟩ := Steps.callFree hM p X.admits X.cas X.clock (acts := []) hfr happ hPc trivial
  have hq' : vx_Q Qc XC mc ms free a (U.calling g mk a) o s₂ := hq
  rw [State.frames_setTop' g h.top] at hend
  obtain ⟨g₀, hg0⟩ := Option.isSome_iff_exists.mp h.top
  obtain ⟨r, hr⟩ := State.topJava?_eq_some.mp hg0
  have hr' : (({ U with heap := s₂.heap, slotsUsed := s₂.slotsUsed } : State).setVm s₂.vm).frames = .java g₀ :: r := hr
  rcases hq' with ⟨hqc, L, hfe, hL⟩ | ⟨q, rfl, E, ce, L, hx, hce, hcv, hcl, hW₂, hsm, hL⟩
  · obtain ⟨⟨v, rfl⟩, hW₂, e2, q2, q3, q4, q5, q6⟩ := id hfe
    have e3 : s₂ = ({ (U.calling g mk a).setFrames s₂.frames with heap := s₂.heap, slotsUsed := s₂.slotsUsed } : State).setVm s₂.vm := by
      have : s₂ = ({ s₂ with vm := (U.calling g mk a).vm } : State).setVm s₂.vm := rfl
      rw [e2] at this
      exact this
    obtain ⟨c₂, i₂, len₂, hc₂, hd₂, hf₂⟩ := hend
    have hW' : U.WarmedH s₂.vm := hW₂
    have hcc : c₂ = c := by
      have h1 : s₂.code? g.method = U.code? g.method := by
        rw [State.code?_eq, State.code?_eq, hW'.alike.method?]
      exact Option.some.inj (hc₂.symm.trans (h1.trans h.code))
    subst hcc
    have hlen : len₂ = len := by rw [hdg] at hd₂; cases hd₂; rfl
    subst hlen
    have hs₂ : s₂ = (({ U with heap := s₂.heap, slotsUsed := s₂.slotsUsed } : State).setVm s₂.vm).setTop { g with pc := g.pc + len₂, stack := v.toList ++ g.stack } := by
      refine e3.trans ?_
      rw [hf₂, State.calling_eq h.top, State.setFrames_setFrames, State.setTop_of_frames _ hr', hr]
      rfl
    have hsame : U.sameButNew ({ U with heap := s₂.heap, slotsUsed := s₂.slotsUsed } : State) L mc ms := by
      refine ⟨?_, q2, q3, q4, q5, q6⟩
      obtain ⟨t, ht, -⟩ := State.frames_cons hr
      show ({ U with heap := s₂.heap, slotsUsed := s₂.slotsUsed } : State) = { U.setFrames U.frames with heap := s₂.heap, slotsUsed := s₂.slotsUsed }
      rw [State.setFrames_self ht]
    subst hg
    refine Or.inl ⟨v, ⟨(({ U with heap := s₂.heap, slotsUsed := s₂.slotsUsed } : State).setVm s₂.vm), Ls ++ L, c0 + mc, s0 + ms⟩,
      ⟨X.admits, X.cas, X.clock, X.frames, X.room, X.hears, X.method, X.code, (X.here.setHeapUsed s₂.heap s₂.slotsUsed).setVm hW'.alike, X.tail, State.WarmedH.trans X.warmed hW', X.limits, X.bytes, X.same.trans (hsame.setVm s.vm)⟩,
      ⟨g, mk, s₂, L, rfl, rfl, hqc, rfl, hL, rfl, rfl⟩, ?_⟩
    show Steps p.tables e below _ ((({ U with heap := s₂.heap, slotsUsed := s₂.slotsUsed } : State).setVm s₂.vm).setTop { g with pc := g.pc + len₂, stack := v.toList ++ g.stack })
    rw [← hs₂]
    exact hsteps
  · obtain ⟨e2, q2, q3, q4, q5, q6⟩ := id hsm
    have e3 : s₂ = ({ (U.calling g mk a).setFrames s₂.frames with heap := s₂.heap, slotsUsed := s₂.slotsUsed } : State).setVm s₂.vm := by
      have : s₂ = ({ s₂ with vm := (U.calling g mk a).vm } : State).setVm s₂.vm := rfl
      rw [e2] at this
      exact this
    have hf₂ : s₂.frames = .throwing q :: .java g :: U.frames.tail := hend
    have hW' : U.WarmedH s₂.vm := hW₂
    have hs₂ : s₂ = ((({ U with heap := s₂.heap, slotsUsed := s₂.slotsUsed } : State).setVm s₂.vm).setTop g).pushFrame (.throwing q) := by
      refine e3.trans ?_
      rw [hf₂, State.calling_eq h.top, State.setFrames_setFrames, State.pushFrame, State.frames_setTop _ hr', State.setTop_of_frames _ hr', State.setFrames_setFrames, hr]
      rfl
    have hsame : U.sameButNew ({ U with heap := s₂.heap, slotsUsed := s₂.slotsUsed } : State) L mc ms := by
      refine ⟨?_, q2, q3, q4, q5, q6⟩
      obtain ⟨t, ht, -⟩ := State.frames_cons hr
      show ({ U with heap := s₂.heap, slotsUsed := s₂.slotsUsed } : State) = { U.setFrames U.frames with heap := s₂.heap, slotsUsed := s₂.slotsUsed }
      rw [State.setFrames_self ht]
    subst hg
    refine Or.inr ⟨q, ⟨(({ U with heap := s₂.heap, slotsUsed := s₂.slotsUsed } : State).setVm s₂.vm), Ls ++ L, c0 + mc, s0 + ms⟩,
      ⟨X.admits, X.cas, X.clock, X.frames, X.room, X.hears, X.method, X.code, (X.here.setHeapUsed s₂.heap s₂.slotsUsed).setVm hW'.alike, X.tail, State.WarmedH.trans X.warmed hW', X.limits, X.bytes, X.same.trans (hsame.setVm s.vm)⟩,
      ⟨g, mk, s₂, L, E, ce, rfl, rfl, hx, hce, hcv, hcl, rfl, hL, rfl, rfl⟩, ?_⟩
    show Steps p.tables e below _ (((({ U with heap := s₂.heap, slotsUsed := s₂.slotsUsed } : State).setVm s₂.vm).setTop g).pushFrame (.throwing q))
    rw [← hs₂]
    exact hsteps
end
variable {p : Program} {l : Launch} {e : Env} {R : Room} {s : State} {m : MethodId} {args : Array Value} {below : List Frame} {meth : Method} {c : Code} {T : State} {H : Heap} {locs : List Loc} {cells slots : Nat}
theorem vx_callVX (X : Stand p l e R s m args below meth c T locs cells slots) (hexec : p.tables.exec = Jvm.exec) {own C : String} {index : Nat} {y : MethodName} {bytes : ByteArray} {maxL : Nat} {ret : Option FieldType} {hh : List (Nat × Nat × Nat × Nat)}
    (hown : s.vm.findClass own = some m.cls) (hlink : (Cond.methodLink own index y).before args s = true) (hinst : (Cond.instanceMethod y).before args s = true) (hsel : (Cond.selects C y y).before args s = true)
    (hcode : (Cond.codeWith y bytes maxL ret hh).before args s = true) (hy : y.cls ≠ "java/lang/invoke/MethodHandle" ∧ y.cls ≠ "java/lang/invoke/VarHandle")
    {W9 : Nat} {Pre : Pt → Array Value → Prop} {Post : Pt → Array Value → Option Value → Pt → Prop} {PostX : Pt → Array Value → Addr → Pt → Prop} (hK : vx_Back l R p e below s args y 3 W9 Pre Post PostX)
    {b : Addr} {cellB : Cell} (hcell : T.heap[b]? = some cellB) (hobj : cellB.vm.isStatics = false) (hcls : s.vm.findClass C = some cellB.cls)
    {g : JFrame} (hg : g.method = m) (hsize : g.locals.size = c.maxLocals) {argsL rest : List Value} (hlen : ∀ sig, parseMethodDescriptor y.desc = some sig → argsL.length = sig.parameters.length)
    (hstack : g.stack = argsL.reverse ++ .ref b :: rest) (hW : 2 * g.monitorRoom + (rest.map fun v => v.category).sum ≤ W9) (hdg : decode c.code g.pc = .ok (.invokevirtual index, 3))
    (hpre : ∀ vm₁, s.WarmedH vm₁ → Pre ⟨T.setVm vm₁, locs, cells, slots⟩ (Value.ref b :: argsL).toArray) :
    (∃ (v : Option Value) (vm₁ : Vm) (B : Pt), s.WarmedH vm₁ ∧ Stand p l e R s m args below meth c B.U B.locs B.cells B.slots ∧ Post ⟨T.setVm vm₁, locs, cells, slots⟩ (Value.ref b :: argsL).toArray v B ∧
      ∀ target, Steps p.tables e below (B.U.setTop { g with pc := g.pc + 3, stack := v.toList ++ rest }) target → Steps p.tables e below (T.setTop g) target) ∨
    (∃ (q : Addr) (vm₁ : Vm) (B : Pt), s.WarmedH vm₁ ∧ Stand p l e R s m args below meth c B.U B.locs B.cells B.slots ∧ PostX ⟨T.setVm vm₁, locs, cells, slots⟩ (Value.ref b :: argsL).toArray q B ∧
      Steps p.tables e below (T.setTop g) ((B.U.setTop { g with stack := rest }).pushFrame (.throwing q))) := by
  obtain ⟨mk, methM, hnamed, hmethM, hstM, habM⟩ := Cond.instanceMethod_spec hinst
  obtain ⟨m8, methM', cM, hn8, hmethM', -, -, -, -, -, -, hsigM⟩ := Cond.codeWith_spec hcode
  cases Option.some.inj (hn8.symm.trans hnamed)
  cases hmethM.symm.trans hmethM'
  obtain ⟨c2, r2, m2, q1, q2, q3, q4, kP, hkP, hkPi⟩ := Cond.selects_spec hsel
  cases hcls.symm.trans q1
  cases (State.methodFound?_of_named hnamed hy).symm.trans q2
  cases hnamed.symm.trans q3
  have hselP : selectMethod e.platform s.vm cellB.cls mk = .method mk := by rw [Launch.admits_selectMethod X.admits]; exact q4
  obtain ⟨vm₁, X₁, hstep₁⟩ := X.invokevirtual hexec hown hlink hnamed hmethM hstM hkP hkPi hy (a := b) (cell := cellB) hcell
    (fun z h => by rw [h] at hobj; cases hobj) hselP hmethM habM hkP hkPi (g := g) hg (argsL := argsL) (rest := rest) (hlen _ hsigM) hstack hdg
  rcases hK m meth c ⟨T.setVm vm₁, locs, cells, slots⟩ { g with stack := rest } (.invokevirtual index) mk (Value.ref b :: argsL).toArray X₁ hg hsize hdg hW (X₁.named hnamed) (hpre vm₁ X₁.warmed) with ⟨v, B, X', hpost, hsteps⟩ | ⟨q, B, X', hpost, hsteps⟩
  · exact Or.inl ⟨v, vm₁, B, X₁.warmed, X', hpost, fun target h => hstep₁ _ fun acts => by rw [doInvoke_state]; exact hsteps.trans h⟩
  · exact Or.inr ⟨q, vm₁, B, X₁.warmed, X', hpost, hstep₁ _ fun acts => by rw [doInvoke_state]; exact hsteps⟩
theorem vx_callSX (X : Stand p l e R s m args below meth c T locs cells slots) (hexec : p.tables.exec = Jvm.exec) {own : String} {index : Nat} {y : MethodName} {bytes : ByteArray} {maxL : Nat} {ret : Option FieldType} {hh : List (Nat × Nat × Nat × Nat)}
    (hown : s.vm.findClass own = some m.cls) (hlink : (Cond.methodLink own index y).before args s = true) (hstat : (Cond.static y).before args s = true) (hinit : (Cond.initialized y.cls).before args s = true)
    (hcode : (Cond.codeWith y bytes maxL ret hh).before args s = true) (hy : y.cls ≠ "java/lang/invoke/MethodHandle" ∧ y.cls ≠ "java/lang/invoke/VarHandle")
    {W9 : Nat} {Pre : Pt → Array Value → Prop} {Post : Pt → Array Value → Option Value → Pt → Prop} {PostX : Pt → Array Value → Addr → Pt → Prop} (hK : vx_Back l R p e below s args y 3 W9 Pre Post PostX)
    {g : JFrame} (hg : g.method = m) (hsize : g.locals.size = c.maxLocals) {argsL rest : List Value} (hlen : ∀ sig, parseMethodDescriptor y.desc = some sig → argsL.length = sig.parameters.length)
    (hstack : g.stack = argsL.reverse ++ rest) (hW : 2 * g.monitorRoom + (rest.map fun v => v.category).sum ≤ W9) (hdg : decode c.code g.pc = .ok (.invokestatic index, 3))
    (hpre : ∀ vm₁, s.WarmedH vm₁ → Pre ⟨T.setVm vm₁, locs, cells, slots⟩ argsL.toArray) :
    (∃ (v : Option Value) (vm₁ : Vm) (B : Pt), s.WarmedH vm₁ ∧ Stand p l e R s m args below meth c B.U B.locs B.cells B.slots ∧ Post ⟨T.setVm vm₁, locs, cells, slots⟩ argsL.toArray v B ∧
      ∀ target, Steps p.tables e below (B.U.setTop { g with pc := g.pc + 3, stack := v.toList ++ rest }) target → Steps p.tables e below (T.setTop g) target) ∨
    (∃ (q : Addr) (vm₁ : Vm) (B : Pt), s.WarmedH vm₁ ∧ Stand p l e R s m args below meth c B.U B.locs B.cells B.slots ∧ PostX ⟨T.setVm vm₁, locs, cells, slots⟩ argsL.toArray q B ∧
      Steps p.tables e below (T.setTop g) ((B.U.setTop { g with stack := rest }).pushFrame (.throwing q))) := by
  obtain ⟨mk, methM, cM, hnamed, hmethM, -, -, -, -, -, -, hsigM⟩ := Cond.codeWith_spec hcode
  have hstatic : methM.isStatic = true := Cond.static_spec hnamed hmethM hstat
  obtain ⟨kP, hkP, -⟩ := className_of_methodNamed hnamed
  have hinitP : kP.init = .initialized := Cond.initialized_spec (findClass_of_methodNamed hnamed) hkP hinit
  obtain ⟨vm₁, X₁, hstep₁⟩ := X.invokestatic hexec hown hlink hnamed hmethM hstatic hkP hinitP hy (g := g) hg (argsL := argsL) (rest := rest) (hlen _ hsigM) hstack hdg
  rcases hK m meth c ⟨T.setVm vm₁, locs, cells, slots⟩ { g with stack := rest } (.invokestatic index) mk argsL.toArray X₁ hg hsize hdg hW (X₁.named hnamed) (hpre vm₁ X₁.warmed) with ⟨v, B, X', hpost, hsteps⟩ | ⟨q, B, X', hpost, hsteps⟩
  · exact Or.inl ⟨v, vm₁, B, X₁.warmed, X', hpost, fun target h => hstep₁ _ fun acts => by rw [doInvoke_state]; exact hsteps.trans h⟩
  · exact Or.inr ⟨q, vm₁, B, X₁.warmed, X', hpost, hstep₁ _ fun acts => by rw [doInvoke_state]; exact hsteps⟩
theorem vx_callVW (X : Stand p l e R s m args below meth c T locs cells slots) (hexec : p.tables.exec = Jvm.exec) {own C : String} {index : Nat} {y : MethodName} {bytes : ByteArray} {maxL : Nat} {ret : Option FieldType} {hh : List (Nat × Nat × Nat × Nat)}
    (hown : s.vm.findClass own = some m.cls) (hlink : (Cond.methodLink own index y).before args s = true) (hinst : (Cond.instanceMethod y).before args s = true) (hsel : (Cond.selects C y y).before args s = true)
    (hcode : (Cond.codeWith y bytes maxL ret hh).before args s = true) (hy : y.cls ≠ "java/lang/invoke/MethodHandle" ∧ y.cls ≠ "java/lang/invoke/VarHandle")
    {W9 : Nat} {Pre : Pt → Array Value → Prop} {Post : Pt → Array Value → Option Value → Pt → Prop} (hK : Back l R p e below s args y 3 W9 Pre Post)
    {b : Addr} {cellB : Cell} (hcell : T.heap[b]? = some cellB) (hobj : cellB.vm.isStatics = false) (hcls : s.vm.findClass C = some cellB.cls)
    {g : JFrame} (hg : g.method = m) (hsize : g.locals.size = c.maxLocals) {argsL rest : List Value} (hlen : ∀ sig, parseMethodDescriptor y.desc = some sig → argsL.length = sig.parameters.length)
    (hstack : g.stack = argsL.reverse ++ .ref b :: rest) (hW : 2 * g.monitorRoom + (rest.map fun v => v.category).sum ≤ W9) (hdg : decode c.code g.pc = .ok (.invokevirtual index, 3))
    (hpre : ∀ vm₁, s.WarmedH vm₁ → Pre ⟨T.setVm vm₁, locs, cells, slots⟩ (Value.ref b :: argsL).toArray) :
    ∃ (v : Option Value) (vm₁ : Vm) (B : Pt), s.WarmedH vm₁ ∧ Stand p l e R s m args below meth c B.U B.locs B.cells B.slots ∧ Post ⟨T.setVm vm₁, locs, cells, slots⟩ (Value.ref b :: argsL).toArray v B ∧
      ∀ target, Steps p.tables e below (B.U.setTop { g with pc := g.pc + 3, stack := v.toList ++ rest }) target → Steps p.tables e below (T.setTop g) target := by
  obtain ⟨mk, methM, hnamed, hmethM, hstM, habM⟩ := Cond.instanceMethod_spec hinst
  obtain ⟨m8, methM', cM, hn8, hmethM', -, -, -, -, -, -, hsigM⟩ := Cond.codeWith_spec hcode
  cases Option.some.inj (hn8.symm.trans hnamed)
  cases hmethM.symm.trans hmethM'
  obtain ⟨c2, r2, m2, q1, q2, q3, q4, kP, hkP, hkPi⟩ := Cond.selects_spec hsel
  cases hcls.symm.trans q1
  cases (State.methodFound?_of_named hnamed hy).symm.trans q2
  cases hnamed.symm.trans q3
  have hselP : selectMethod e.platform s.vm cellB.cls mk = .method mk := by rw [Launch.admits_selectMethod X.admits]; exact q4
  obtain ⟨vm₁, X₁, hstep₁⟩ := X.invokevirtual hexec hown hlink hnamed hmethM hstM hkP hkPi hy (a := b) (cell := cellB) hcell
    (fun z h => by rw [h] at hobj; cases hobj) hselP hmethM habM hkP hkPi (g := g) hg (argsL := argsL) (rest := rest) (hlen _ hsigM) hstack hdg
  obtain ⟨v, B, X', hpost, hsteps⟩ := hK m meth c ⟨T.setVm vm₁, locs, cells, slots⟩ { g with stack := rest } (.invokevirtual index) mk (Value.ref b :: argsL).toArray X₁ hg hsize hdg hW (X₁.named hnamed) (hpre vm₁ X₁.warmed)
  exact ⟨v, vm₁, B, X₁.warmed, X', hpost, fun target h => hstep₁ _ fun acts => by rw [doInvoke_state]; exact hsteps.trans h⟩
abbrev vx_CVW (R : Room) (s : State) (args : Array Value) (own C : String) (index : Nat) (y : MethodName) (bytes : ByteArray) (maxL : Nat) (ret : Option FieldType) (hh : List (Nat × Nat × Nat × Nat)) (ws : List Cond) (rm : Room) (mc ms n : Nat) : Prop :=
  (rm.cells = mc ∧ rm.slots = ms ∧ rm.frames + 1 ≤ R.frames ∧ 8 + (maxL + 11) + rm.locals ≤ R.locals ∧ (∀ w ∈ ws, ∀ (a' : Array Value) (U : State), s.WarmedH U.vm → w.before a' U = true) ∧ Cond.codeWith y bytes maxL ret hh ∈ ws) ∧
  (Cond.codeWith y bytes maxL ret hh).before args s = true ∧ (Cond.initialized y.cls).before args s = true ∧ (y.cls ≠ "java/lang/invoke/MethodHandle" ∧ y.cls ≠ "java/lang/invoke/VarHandle") ∧
  (∀ sig, parseMethodDescriptor y.desc = some sig → n = sig.parameters.length) ∧ (Cond.methodLink own index y).before args s = true ∧ (Cond.instanceMethod y).before args s = true ∧ (Cond.selects C y y).before args s = true
theorem vx_cwVW {own C : String} {index maxL mc ms : Nat} {y : MethodName} {bytes : ByteArray} {ret : Option FieldType} {hh : List (Nat × Nat × Nat × Nat)} {Ts ws ws' : List Cond} {rm : Room} (n : Nat) (ht : ∀ w ∈ Ts, w.before args s = true) (hT : GoodIn Ts (wsV own index C y ws)) (hw : ws = Cond.codeWith y bytes maxL ret hh :: ws') (hrc : rm.cells = mc) (hrs : rm.slots = ms)
    (hd : y.cls = C ∧ y.cls ≠ "java/lang/invoke/MethodHandle" ∧ y.cls ≠ "java/lang/invoke/VarHandle" ∧ (parseMethodDescriptor y.desc).map (fun d => d.parameters.length) = some n) (hR : rm.frames + 1 ≤ R.frames ∧ 8 + (maxL + 11) + rm.locals ≤ R.locals) :
    vx_CVW R s args own C index y bytes maxL ret hh ws rm mc ms n := by
  obtain ⟨hC, hd⟩ := hd
  subst hC
  have ok : ∀ w ∈ wsV own index y.cls y ws, w.before args s = true := fun w h => ht w (hT w h).1
  have hG : GoodIn Ts ws := fun w h => hT w (by unfold wsV; exact List.mem_append_right _ h)
  have hc : Cond.codeWith y bytes maxL ret hh ∈ ws := by rw [hw]; exact List.mem_cons_self
  refine ⟨⟨hrc, hrs, hR.1, hR.2, pay_in ht hG, hc⟩, ht _ (hG _ hc).1, ok _ (by simp [wsV]), ⟨hd.1, hd.2.1⟩, fun sig h => ?_, ok _ (by simp [wsV]), ok _ (by simp [wsV]), ok _ (by simp [wsV])⟩
  have h2 := hd.2.2
  rw [h] at h2
  exact (Option.some.inj h2).symm
theorem vx_runVW {y : MethodName} {bytes cc : ByteArray} {maxL nL mc ms n index : Nat} {ret : Option FieldType} {hh : List (Nat × Nat × Nat × Nat)} {ws : List Cond} {rm : Room} {Pc : Array Value → State → Prop} {Qc : Array Value → State → Outcome → State → Prop} {free : Addr → Prop} {Ts : List Cond} {own C : String} {b : Addr} {As rest : List Value} {g : JFrame}
    (S : CallFix p m c cc nL s args Ts own) (hM : Met l y ws rm Pc Qc mc ms free) (cw : vx_CVW R s args own C index y bytes maxL ret hh ws rm mc ms n) (hp : PreV s H C b Pc As)
    (hg : g.method = m) (hn : As.length = n) (hsize : g.locals.size = nL) (hstack : g.stack = As.reverse ++ .ref b :: rest) (hW : 2 * g.monitorRoom + (rest.map fun v => v.category).sum ≤ 8) (hdg : decode cc g.pc = .ok (.invokevirtual index, 3)) (hf : cells + mc ≤ R.cells ∧ slots + ms ≤ R.slots) :
    va_Run p l e R s m args below meth c H locs cells slots mc ms g rest (Qc (Value.ref b :: As).toArray) free := by
  obtain ⟨⟨hrc, hrs, hfr, hlo, hws, hcw⟩, hcode, hini, hy, hlen, hl, hin, hse⟩ := cw
  have hK : Back l R p e below s args y 3 8 (PreOf R mc ms Pc) (PostOf Qc mc ms free) := va_backW (hh := hh) (bytes := bytes) (maxL := maxL) (ret := ret) hM hp.1 hrc hrs hfr hlo hws hcw (fun a' U hW => word_at hW (Or.inl (by first | rfl | simp [Cond.onTables, Cond.keeps, Cond.steady])) hini)
  obtain ⟨hx, hb, hml, ho, -⟩ := S
  obtain ⟨-, ⟨cellB, hcB, hoB, hclB⟩, hPc⟩ := hp
  intro T hT X
  obtain ⟨v, vm₁, ⟨U', l2, c2, s2⟩, hW₁, X', ⟨g', mk, t, L, e1, e2, hq, h1, hL, h2, h3⟩, st⟩ := vx_callVW X hx (C := C) (hh := hh) (bytes := bytes) (maxL := maxL) (ret := ret) ho hl hin hse hcode hy hK (by rw [hT]; exact hcB) hoB hclB hg (hsize.trans hml.symm) (argsL := As) (rest := rest) (fun sig h => hn.trans (hlen sig h)) hstack hW (by rw [hb]; exact hdg)
    (fun vm₁ hW₁ => ⟨hf.1, hf.2, hPc (T.setVm vm₁) hT hW₁⟩)
  dsimp only [Pt.U, Pt.locs, Pt.cells, Pt.slots] at X' e1 e2 h1 h2 h3 st
  subst h1; subst h2; subst h3
  exact ⟨v, (T.setVm vm₁).calling g' mk (Value.ref b :: As).toArray, t, U', L, hT, X', hL, e1, e2, hq, st⟩
section
variable {y : MethodName} {bytes cc : ByteArray} {maxL nL mc ms n index : Nat} {ret : Option FieldType} {ws : List Cond} {rm : Room} {Pc : Array Value → State → Prop} {Qc : Array Value → State → Outcome → State → Prop} {XC : String → State → State → Prop} {free : Addr → Prop} {Ts : List Cond} {own C : String} {b : Addr} {As rest : List Value} {g : JFrame}
theorem vx_runVX {hh : List (Nat × Nat × Nat × Nat)} (S : CallFix p m c cc nL s args Ts own) (hM : vx_Met l y ws rm Pc Qc XC mc ms free) (cw : vx_CVW R s args own C index y bytes maxL ret hh ws rm mc ms n) (hp : PreV s H C b Pc As)
    (hg : g.method = m) (hn : As.length = n) (hsize : g.locals.size = nL) (hstack : g.stack = As.reverse ++ .ref b :: rest) (hW : 2 * g.monitorRoom + (rest.map fun v => v.category).sum ≤ 8) (hdg : decode cc g.pc = .ok (.invokevirtual index, 3)) (hf : cells + mc ≤ R.cells ∧ slots + ms ≤ R.slots) :
    vx_Run p l e R s m args below meth c H locs cells slots mc ms g rest (Qc (Value.ref b :: As).toArray) XC free := by
  obtain ⟨⟨hrc, hrs, hfr, hlo, hws, hcw⟩, hcode, hini, hy, hlen, hl, hin, hse⟩ := cw
  have hK : vx_Back l R p e below s args y 3 8 (PreOf R mc ms Pc) (PostOf Qc mc ms free) (vx_Post XC mc ms free) := vx_backW (hh := hh) (bytes := bytes) (maxL := maxL) (ret := ret) hM hp.1 hrc hrs hfr hlo hws hcw (fun a' U hW => word_at hW (Or.inl (by first | rfl | simp [Cond.onTables, Cond.keeps, Cond.steady])) hini)
  obtain ⟨hx, hb, hml, ho, -⟩ := S
  obtain ⟨-, ⟨cellB, hcB, hoB, hclB⟩, hPc⟩ := hp
  intro T hT X
  rcases vx_callVX X hx (C := C) (hh := hh) (bytes := bytes) (maxL := maxL) (ret := ret) ho hl hin hse hcode hy hK (by rw [hT]; exact hcB) hoB hclB hg (hsize.trans hml.symm) (argsL := As) (rest := rest) (fun sig h => hn.trans (hlen sig h)) hstack hW (by rw [hb]; exact hdg)
    (fun vm₁ hW₁ => ⟨hf.1, hf.2, hPc (T.setVm vm₁) hT hW₁⟩) with ⟨v, vm₁, ⟨U', l2, c2, s2⟩, hW₁, X', ⟨g', mk, t, L, e1, e2, hq, h1, hL, h2, h3⟩, st⟩ | ⟨q, vm₁, ⟨U', l2, c2, s2⟩, hW₁, X', ⟨g', mk, t, L, E, ce, e1, e2, hq, hce, hcv, hcl, h1, hL, h2, h3⟩, st⟩
  · dsimp only [Pt.U, Pt.locs, Pt.cells, Pt.slots] at X' e1 e2 h1 h2 h3 st
    subst h1; subst h2; subst h3
    exact Or.inl ⟨v, (T.setVm vm₁).calling g' mk (Value.ref b :: As).toArray, t, U', L, hT, X', hL, e1, e2, hq, st⟩
  · dsimp only [Pt.U, Pt.locs, Pt.cells, Pt.slots] at X' e1 e2 h1 h2 h3 st hcl
    subst h1; subst h2; subst h3
    exact Or.inr ⟨q, (T.setVm vm₁).calling g' mk (Value.ref b :: As).toArray, t, U', L, E, ce, hT, X', hL, e1, e2, hq, hce, hcv, vx_cls hW₁ hcl, st⟩
theorem vx_runSX {hh : List (Nat × Nat × Nat × Nat)} (S : CallFix p m c cc nL s args Ts own) (hM : vx_Met l y ws rm Pc Qc XC mc ms free) (cw : vx_CSW R s args own index y bytes maxL ret hh ws rm mc ms n) (hp : PreS s H Pc As)
    (hg : g.method = m) (hn : As.length = n) (hsize : g.locals.size = nL) (hstack : g.stack = As.reverse ++ rest) (hW : 2 * g.monitorRoom + (rest.map fun v => v.category).sum ≤ 8) (hdg : decode cc g.pc = .ok (.invokestatic index, 3)) (hf : cells + mc ≤ R.cells ∧ slots + ms ≤ R.slots) :
    vx_Run p l e R s m args below meth c H locs cells slots mc ms g rest (Qc As.toArray) XC free := by
  obtain ⟨⟨hrc, hrs, hfr, hlo, hws, hcw⟩, hcode, hini, hy, hlen, hl, hstt⟩ := cw
  have hK : vx_Back l R p e below s args y 3 8 (PreOf R mc ms Pc) (PostOf Qc mc ms free) (vx_Post XC mc ms free) := vx_backW (hh := hh) (bytes := bytes) (maxL := maxL) (ret := ret) hM hp.1 hrc hrs hfr hlo hws hcw (fun a' U hW => word_at hW (Or.inl (by first | rfl | simp [Cond.onTables, Cond.keeps, Cond.steady])) hini)
  obtain ⟨hx, hb, hml, ho, -⟩ := S
  intro T hT X
  rcases vx_callSX X hx (hh := hh) (bytes := bytes) (maxL := maxL) (ret := ret) ho hl hstt hini hcode hy hK hg (hsize.trans hml.symm) (argsL := As) (rest := rest) (fun sig h => hn.trans (hlen sig h)) hstack hW (by rw [hb]; exact hdg)
    (fun vm₁ hW₁ => ⟨hf.1, hf.2, hp.2 (T.setVm vm₁) hT hW₁⟩) with ⟨v, vm₁, ⟨U', l2, c2, s2⟩, hW₁, X', ⟨g', mk, t, L, e1, e2, hq, h1, hL, h2, h3⟩, st⟩ | ⟨q, vm₁, ⟨U', l2, c2, s2⟩, hW₁, X', ⟨g', mk, t, L, E, ce, e1, e2, hq, hce, hcv, hcl, h1, hL, h2, h3⟩, st⟩
  · dsimp only [Pt.U, Pt.locs, Pt.cells, Pt.slots] at X' e1 e2 h1 h2 h3 st
    subst h1; subst h2; subst h3
    exact Or.inl ⟨v, (T.setVm vm₁).calling g' mk As.toArray, t, U', L, hT, X', hL, e1, e2, hq, st⟩
  · dsimp only [Pt.U, Pt.locs, Pt.cells, Pt.slots] at X' e1 e2 h1 h2 h3 st hcl
    subst h1; subst h2; subst h3
    exact Or.inr ⟨q, (T.setVm vm₁).calling g' mk As.toArray, t, U', L, E, ce, hT, X', hL, e1, e2, hq, hce, hcv, vx_cls hW₁ hcl, st⟩
end
end VXH
theorem vx_ofWH {l : Launch} {y : MethodName} {ws ws' : List Cond} {rm : Room} {Pc : Array Value → State → Prop} {Qc : Array Value → State → Outcome → State → Prop} {XC : String → State → State → Prop} {mc ms : Nat} {free : Addr → Prop} {cc : ByteArray} {maxL : Nat} {ret : Option FieldType} {hh : List (Nat × Nat × Nat × Nat)}
    (hy : plainName y.cls = true) (hw : ws = Cond.codeWith y cc maxL ret hh :: ws')
    (body : ∀ p e s m args below meth c s₁, BodyLoose p l y (headSpec ws rm) cc maxL ret e s m args below meth c s₁ → c.maxLocals = maxL → Pc args s →
      W p l e (headSpec ws rm).room s m args below meth c s.heap [] 0 0 (vx_MQ below Qc XC args s mc ms free) (entryFrame m args maxL)) : vx_Met l y ws rm Pc Qc XC mc ms free := by
  refine MetFree.of_bodyS (code := cc) (maxLocals := maxL) (ret := ret) hy ?_ ?_
  · intro args s m h hn
    obtain ⟨m9, meth, c, hn9, h1, h2, h3, h4, -, h5, h6, -⟩ := Cond.codeWith_spec (atoms_spec (ws := ws) h _ (by rw [hw]; exact List.mem_cons_self))
    cases hn.symm.trans hn9
    exact ⟨meth, c, h1, h2, h3, h4, h5, h6⟩
  · intro p e s m args below meth c s₁ B hml hP _
    have hh0 : s₁.heap = s.heap := by rw [B.state]; rfl
    obtain ⟨t, a1, o, b1, b2, b3⟩ := body p e s m args below meth c s₁ B hml hP s₁ hh0 (Stand.of_body B)
    exact ⟨t, o, a1, b1, b2, b3⟩
/-! ===== END ===== -/
end
section
/-! CONSTRUCTORS: a world that grows, cell by cell -/
def cS (B : gB) (U : State) : Prop := gS B U ∧ va_AO RX1 U
theorem cS.warm {B : gB} {s U : State} (hW : s.WarmedH U.vm) (h : cS B s) : cS B U := ⟨h.1.warm hW, h.2.moved hW.alike⟩
def cA (a sz : Nat) : Nat → Prop := fun x => x = a ∨ sz ≤ x
def cQ (B : gB) (a : Nat) (post : va_E → va_W → Prop) (sz : Nat) : Array Value → State → Outcome → State → Prop := fun _ st oc t => (∃ (e1 : va_E) (new : va_W), oc = .returned none ∧ post e1 new ∧ va_P B.1 vwCl ((a, e1) :: new) t.heap ∧ va_D (cA a sz) ((a, e1) :: new)) ∧ va_F (cA a sz) st t
def cPc (B : gB) (av : List Value) (a : Nat) (e0 : va_E) (sz : Nat) : Array Value → State → Prop := va_Pc av (fun U => U.heap.size = sz ∧ va_P B.1 vwCl [(a, e0)] U.heap ∧ cS B U)
theorem cPc_blind {B : gB} {av : List Value} {a sz : Nat} {e0 : va_E} : FrameBlind (cPc B av a e0 sz) := by
  intro a' U g mk q
  obtain ⟨q0, q1, q2, q3, q4⟩ := q
  exact ⟨q0, q1, q2, gS.same (s := U) (U := U.calling g mk a') rfl q3, va_AO.moved (u := U) (U := U.calling g mk a') (Vm.Alike.refl U.vm) q4⟩
/-- a constructor's contract: from the cell a, as e0, it returns; a is e1 then, and new is new -/
def cM (l : Launch) (B : gB) (y : MethodName) (bc : ByteArray) (nL : Nat) (rm : Room) (av : List Value) (a : Nat) (e0 : va_E) (post : va_E → va_W → Prop) : Prop := ∀ sz : Nat, Met l y [.code y bc nL none] rm (cPc B av a e0 sz) (cQ B a post sz) rm.cells rm.slots (cA a sz)
def cG (Z : gZ) (B : gB) (a : Nat) (ws : va_W) (n : Nat × Nat) (pc : Nat) (L : List (Nat × Value)) (st : List Value) : Prop := match Z with
  | (p, l, e, R, s, m, args, below, meth, c, nL, Q) => ∀ (H : Heap) (locs : List Loc) (ls : Array Slot), va_P B.1 vwCl ws H → va_D (cA a s.heap.size) ws → va_S (cA a s.heap.size) s.heap H locs → lv_has ls nL L → W p l e R s m args below meth c H locs n.1 n.2 Q (F0 m pc ls st)
def cX (Z : gZ) (B : gB) (cc : ByteArray) (own : String) : Prop := match Z with
  | (p, _, _, _, s, m, _, _, meth, c, nL, _) => p.tables.exec = Jvm.exec ∧ c.code = cc ∧ c.maxLocals = nL ∧ s.vm.findClass own = some m.cls ∧ cS B s ∧ meth.locks = false
def cN (Z : gZ) : Prop := match Z with
  | (_, _, _, _, _, _, _, _, meth, _, _, _) => meth.name = "<init>"
def cF (Z : gZ) (B : gB) (a : Nat) (rm : Room) (post : va_E → va_W → Prop) : Prop := match Z with
  | (_, _, _, R, s, _, args, below, meth, _, _, Q) => R = rm ∧ meth.sig.returnType = none ∧ Q = MQ below (cQ B a post s.heap.size) args s rm.cells rm.slots (cA a s.heap.size)
theorem va_D.one {A : Nat → Prop} {a : Nat} {e : va_E} (h : A a) : va_D A [(a, e)] := by
  have key : ∀ (k : Nat) (q : Nat × va_E), ([(a, e)] : va_W)[k]? = some q → k = 0 ∧ q = (a, e) := by
    intro k q hk
    have hl : k < 1 := (List.getElem?_eq_some_iff.mp hk).1
    have h0 : k = 0 := by omega
    subst h0
    exact ⟨rfl, (Option.some.inj hk).symm⟩
  refine ⟨fun i j p q hp hq _ => (key i p hp).1.trans (key j q hq).1.symm, fun k q hk => ?_⟩
  rw [(key k q hk).2]
  exact h
theorem cM_of {l : Launch} {B : gB} {y : MethodName} {bc : ByteArray} {nL : Nat} {rm : Room} {av : List Value} {a : Nat} {e0 : va_E} {post : va_E → va_W → Prop} {L : List (Nat × Value)} {own : String} (hy : plainName y.cls = true) (hown : y.cls = own) (hin : y.name = "<init>") (hlen : (lg_sl av).length ≤ nL) (hL : lv_args 0 av = L)
    (body : ∀ Z : gZ, gnL Z = nL → gRm Z = rm → cX Z B bc own → cN Z → cF Z B a rm post → cG Z B a [(a, e0)] (0, 0) 0 L []) : cM l B y bc nL rm av a e0 post := by
  intro sz
  refine Met.ofW (cc := bc) (maxL := nL) (ret := none) hy rfl ?_
  intro p e s m args below meth c s₁ B' hml hv
  obtain ⟨rfl, hsz, hP, hS⟩ := hv
  subst hsz
  subst hown
  have h := body (p, l, e, rm, s, m, av.toArray, below, meth, c, nL, MQ below (cQ B a post s.heap.size) av.toArray s rm.cells rm.slots (cA a s.heap.size)) rfl rfl ⟨B'.exec, B'.bytes, hml, findClass_of_methodNamed B'.named, hS, B'.notSynchronized⟩ ((name_of_methodNamed B'.named B'.method).1.trans hin) ⟨rfl, B'.returns, rfl⟩
  have hl := lv_entry av (n := nL) hlen
  rw [lg_entry_eq]
  rw [hL] at hl
  exact h s.heap [] _ hP (va_D.one (Or.inl rfl)) va_S.rf hl
section CR
variable {Z : gZ} {B : gB} {a : Nat} {ws : va_W} {n : Nat × Nat} {pc : Nat} {L L' : List (Nat × Value)} {st : List Value} {cc : ByteArray} {own : String}
theorem cG_ws (ws' : va_W) (h : ws = ws') (k : cG Z B a ws' n pc L st) : cG Z B a ws n pc L st := h ▸ k
theorem cG_n (n' : Nat × Nat) (h : n = n') (k : cG Z B a ws n' pc L st) : cG Z B a ws n pc L st := h ▸ k
theorem cG_L {ks : List Nat} (h : lv_pick L ks = L') (k : cG Z B a ws n pc L' st) : cG Z B a ws n pc L st := by
  obtain ⟨p, l, e, R, s, m, args, below, meth, c, nL, Q⟩ := Z
  exact fun H locs ls hP hD hS hl => k H locs ls hP hD hS (lv_sub hl ks h)

theorem c_iload_n (X : cX Z B cc own) {k : Fin 4} {x : Int32} (j : Nat) (h : L[j]? = some ((k : Nat), .int x)) (d : decode cc pc = .ok (.iload_n k, 1)) (kk : cG Z B a ws n (pc + 1) L (.int x :: st)) : cG Z B a ws n pc L (st) := by
  obtain ⟨p, l, e, R, s, m, args, below, meth, c, nL, Q⟩ := Z
  exact fun H locs ls hP hD hS hl => lv_iload_n X.1 X.2.1 d rfl (lv_at hl j h) (kk H locs ls hP hD hS hl)
theorem c_iload (X : cX Z B cc own) {k : Nat} {x : Int32} (j : Nat) (h : L[j]? = some (k, .int x)) (d : decode cc pc = .ok (.iload k, 2)) (kk : cG Z B a ws n (pc + 2) L (.int x :: st)) : cG Z B a ws n pc L (st) := by
  obtain ⟨p, l, e, R, s, m, args, below, meth, c, nL, Q⟩ := Z
  exact fun H locs ls hP hD hS hl => lv_iload X.1 X.2.1 d (lv_at hl j h) (kk H locs ls hP hD hS hl)
theorem c_aload_n (X : cX Z B cc own) {k : Fin 4} {x : Nat} (j : Nat) (h : L[j]? = some ((k : Nat), .ref x)) (d : decode cc pc = .ok (.aload_n k, 1)) (kk : cG Z B a ws n (pc + 1) L (.ref x :: st)) : cG Z B a ws n pc L (st) := by
  obtain ⟨p, l, e, R, s, m, args, below, meth, c, nL, Q⟩ := Z
  exact fun H locs ls hP hD hS hl => lv_aload_n X.1 X.2.1 d rfl (lv_at hl j h) (kk H locs ls hP hD hS hl)
theorem c_iconst (X : cX Z B cc own) {k : Int} (v : Int32) (h : Int32.ofInt k = v) (d : decode cc pc = .ok (.iconst k, 1)) (kk : cG Z B a ws n (pc + 1) L (.int v :: st)) : cG Z B a ws n pc L (st) := by
  obtain ⟨p, l, e, R, s, m, args, below, meth, c, nL, Q⟩ := Z
  exact fun H locs ls hP hD hS hl => lv_iconst X.1 X.2.1 d h (kk H locs ls hP hD hS hl)
theorem c_bipush (X : cX Z B cc own) {k : Int} (v : Int32) (h : (Int8.ofInt k).toInt32 = v) (d : decode cc pc = .ok (.bipush k, 2)) (kk : cG Z B a ws n (pc + 2) L (.int v :: st)) : cG Z B a ws n pc L (st) := by
  obtain ⟨p, l, e, R, s, m, args, below, meth, c, nL, Q⟩ := Z
  exact fun H locs ls hP hD hS hl => lv_bipush X.1 X.2.1 d h (kk H locs ls hP hD hS hl)
theorem c_sipush (X : cX Z B cc own) {k : Int} (v : Int32) (h : (Int16.ofInt k).toInt32 = v) (d : decode cc pc = .ok (.sipush k, 3)) (kk : cG Z B a ws n (pc + 3) L (.int v :: st)) : cG Z B a ws n pc L (st) := by
  obtain ⟨p, l, e, R, s, m, args, below, meth, c, nL, Q⟩ := Z
  exact fun H locs ls hP hD hS hl => lv_sipush X.1 X.2.1 d h (kk H locs ls hP hD hS hl)
theorem c_dup (X : cX Z B cc own) {v : Value} (h : v.category = 1) (d : decode cc pc = .ok (.dup, 1)) (kk : cG Z B a ws n (pc + 1) L (v :: v :: st)) : cG Z B a ws n pc L (v :: st) := by
  obtain ⟨p, l, e, R, s, m, args, below, meth, c, nL, Q⟩ := Z
  exact fun H locs ls hP hD hS hl => lv_dup X.1 X.2.1 d h (kk H locs ls hP hD hS hl)
theorem c_goto (X : cX Z B cc own) {off : Int} (tgt : Nat) (h : (pc : Int) + off = (tgt : Int)) (d : decode cc pc = .ok (.goto off, 3)) (kk : cG Z B a ws n tgt L (st)) : cG Z B a ws n pc L (st) := by
  obtain ⟨p, l, e, R, s, m, args, below, meth, c, nL, Q⟩ := Z
  exact fun H locs ls hP hD hS hl => lv_goto X.1 X.2.1 d h (kk H locs ls hP hD hS hl)
theorem c_istore_n (X : cX Z B cc own) {k0 : Fin 4} {k : Nat} {x : Int32} (hk : (k0 : Nat) = k) (d : decode cc pc = .ok (.istore_n k0, 1)) (L2 : List (Nat × Value)) (h2 : (k, Value.int x) :: L.filter (fun q => !(q.1 == k) && !(q.1 + 1 == k && q.2.category == 2)) = L2) (hn : k < gnL Z) (kk : cG Z B a ws n (pc + 1) L2 st) : cG Z B a ws n pc L (Value.int x :: st) := by
  obtain ⟨p, l, e, R, s, m, args, below, meth, c, nL, Q⟩ := Z
  exact fun H locs ls hP hD hS hl => lv_istore_n X.1 X.2.1 d hk hl hn h2 (fun ls hl => kk H locs ls hP hD hS hl)
theorem c_istore (X : cX Z B cc own) {k : Nat} {x : Int32} (d : decode cc pc = .ok (.istore k, 2)) (L2 : List (Nat × Value)) (h2 : (k, Value.int x) :: L.filter (fun q => !(q.1 == k) && !(q.1 + 1 == k && q.2.category == 2)) = L2) (hn : k < gnL Z) (kk : cG Z B a ws n (pc + 2) L2 st) : cG Z B a ws n pc L (Value.int x :: st) := by
  obtain ⟨p, l, e, R, s, m, args, below, meth, c, nL, Q⟩ := Z
  exact fun H locs ls hP hD hS hl => lv_istore X.1 X.2.1 d hl hn h2 (fun ls hl => kk H locs ls hP hD hS hl)
theorem c_astore_n (X : cX Z B cc own) {k0 : Fin 4} {k : Nat} {x : Nat} (hk : (k0 : Nat) = k) (d : decode cc pc = .ok (.astore_n k0, 1)) (L2 : List (Nat × Value)) (h2 : (k, Value.ref x) :: L.filter (fun q => !(q.1 == k) && !(q.1 + 1 == k && q.2.category == 2)) = L2) (hn : k < gnL Z) (kk : cG Z B a ws n (pc + 1) L2 st) : cG Z B a ws n pc L (Value.ref x :: st) := by
  obtain ⟨p, l, e, R, s, m, args, below, meth, c, nL, Q⟩ := Z
  exact fun H locs ls hP hD hS hl => lv_astore_n X.1 X.2.1 d hk hl hn h2 (fun ls hl => kk H locs ls hP hD hS hl)
theorem c_iinc (X : cX Z B cc own) {k : Nat} {i : Int} {x : Int32} (j : Nat) (hj : L[j]? = some (k, .int x)) (v : Int32) (hv : x + Int32.ofInt i = v) (d : decode cc pc = .ok (.iinc k i, 3)) (L2 : List (Nat × Value)) (h2 : (k, Value.int v) :: L.filter (fun q => !(q.1 == k) && !(q.1 + 1 == k && q.2.category == 2)) = L2) (hn : k < gnL Z) (kk : cG Z B a ws n (pc + 3) L2 st) : cG Z B a ws n pc L st := by
  obtain ⟨p, l, e, R, s, m, args, below, meth, c, nL, Q⟩ := Z
  exact fun H locs ls hP hD hS hl => lv_iinc X.1 X.2.1 d hl (k := j) hj hv hn h2 (fun ls hl => kk H locs ls hP hD hS hl)
theorem c_icmp_ge (X : cX Z B cc own) {x y : Int32} {off : Int} (tgt : Nat) (h : (pc : Int) + off = (tgt : Int)) (d : decode cc pc = .ok (.if_icmp .ge off, 3)) (kt : y ≤ x → cG Z B a ws n tgt L st) (kf : ¬ y ≤ x → cG Z B a ws n (pc + 3) L st) : cG Z B a ws n pc L (.int y :: .int x :: st) := by
  obtain ⟨p, l, e, R, s, m, args, below, meth, c, nL, Q⟩ := Z
  exact fun H locs ls hP hD hS hl => lv_icmp_ge X.1 X.2.1 d h (fun q => kt q H locs ls hP hD hS hl) (fun q => kf q H locs ls hP hD hS hl)
theorem c_objInit (X : cX Z B cc own) {rmZ : Room} (hR : gRm Z = rmZ) {idx x : Nat} (hl : gW (.methodLink own idx objectInit)) (hroom : 1 ≤ rmZ.frames ∧ 20 ≤ rmZ.locals) (hcat : (st.map fun v => v.category).sum ≤ 8) (d : decode cc pc = .ok (.invokespecial idx, 3)) (kk : cG Z B a ws n (pc + 3) L st) : cG Z B a ws n pc L (.ref x :: st) := by
  obtain ⟨p, l, e, R, s, m, args, below, meth, c, nL, Q⟩ := Z
  subst hR
  intro H locs ls hP hD hS hl9
  have hw := X.2.2.2.2.1.1.1
  have h20 : 20 ≤ R.locals := hroom.2
  exact W.objInit (g := F0 m pc ls (.ref x :: st)) X.1 X.2.1 X.2.2.2.1 (hw _ hl _) (hw _ qI_objectInit _) (hw _ qC_objectInit _) rfl (hl9.1.trans X.2.2.1.symm) rfl d hroom.1 (by show 2 * 0 + (st.map fun v => v.category).sum + 12 ≤ R.locals; omega) (kk H locs ls hP hD hS hl9)
theorem c_newI (X : cX Z B cc own) {rmZ : Room} (hR : gRm Z = rmZ) {x : Int32} (N : Nat) (hx : x = nI N) (hNb : N < 1000) (hroom : n.1 + 1 ≤ rmZ.cells ∧ n.2 + N ≤ rmZ.slots) (d : decode cc pc = .ok (.newarray .int, 2)) (kk : ∀ q, cG Z B a (ws ++ [(q, .inl (B.2.2.1.1, N, .inl (fun _ => 0)))]) (n.1 + 1, n.2 + N) (pc + 2) L (.ref q :: st)) : cG Z B a ws n pc L (.int x :: st) := by
  obtain ⟨p, l, e, R, s, m, args, below, meth, c, nL, Q⟩ := Z
  subst hR; subst hx
  intro H locs ls hP hD hS hl
  obtain ⟨hx, hb, hml, hown, hs, hlk⟩ := X
  refine va_newa (atype := .int) (ty := .int) hx hb (hs.1.1 _ qA_int _) rfl hs.1.2 hP hD hS (fun q h => Or.inr h) (n := nI N) (N' := N) (a0 := (N, .inl (fun _ => 0))) (fun cA => rfl) (nI_pos (by omega)) (nI_clamp (by omega)) (by show N * 4 ≤ 536870912; omega) hroom.1 hroom.2 d (fun q cA H1 hK1 hP1 hD1 hS1 => ?_)
  have hcA : cA = B.2.2.1.1 := by
    have r1 : s.vm.findClass _ = some cA := (hK1.2 2 (cA, .int) rfl).2
    have r2 : s.vm.findClass _ = some B.2.2.1.1 := (hK1.2 0 (B.2.2.1.1, .int) rfl).2
    exact Option.some.inj (r1.symm.trans r2)
  subst hcA
  exact kk q H1 locs ls hP1 hD1 hS1 hl
theorem c_newq (X : cX Z B cc own) {rmZ : Room} (hR : gRm Z = rmZ) {idx : Nat} {x : Int32} (N : Nat) (hx : x = nI N) (hNb : N < 1000) (hcl : gW (.classLink own idx RX1)) (hroom : n.1 + 1 ≤ rmZ.cells ∧ n.2 + N ≤ rmZ.slots) (d : decode cc pc = .ok (.anewarray idx, 3)) (kk : ∀ q, cG Z B a (ws ++ [(q, .inl (B.2.2.1.2.1, N, .inr (.inr (.inr (.inr (fun _ => none))))))]) (n.1 + 1, n.2 + N) (pc + 3) L (.ref q :: st)) : cG Z B a ws n pc L (.int x :: st) := by
  obtain ⟨p, l, e, R, s, m, args, below, meth, c, nL, Q⟩ := Z
  subst hR; subst hx
  intro H locs ls hP hD hS hl
  obtain ⟨hx, hb, hml, hown, hs, hlk⟩ := X
  refine va_newq (C := RX1) hx hb hown (hs.1.1 _ hcl _) hs.2 hs.1.2 hP hD hS (fun q h => Or.inr h) (n := nI N) (N' := N) (nI_pos (by omega)) (nI_clamp (by omega)) (by omega) hroom.1 hroom.2 d (fun q cA H1 hK1 hP1 hD1 hS1 => ?_)
  have hcA : cA = B.2.2.1.2.1 := by
    obtain ⟨-, -, -, -, -, r1⟩ := (hK1.2 2 (cA, .object RX1) rfl).2
    obtain ⟨-, -, -, -, -, r2⟩ := (hK1.2 1 (B.2.2.1.2.1, .object RX1) rfl).2
    exact Option.some.inj (r1.symm.trans r2)
  subst hcA
  exact kk q H1 locs ls hP1 hD1 hS1 hl
theorem c_new (X : cX Z B cc own) {rmZ : Room} (hR : gRm Z = rmZ) {ci N idx : Nat} {C : String} {T : u_T} (hc : vwCl[ci]? = some (C, T, N)) (hu : ∀ w ∈ u_ws C T N, gW w) (ty : Nat → FieldType) (hty : ∀ k, k < N → parseFieldDescriptor (T k).2.2.1 = some (ty k)) (hcl : gW (.classLink own idx C)) (hin : gW (.instantiable C N)) (hini : gW (.initialized C)) {fs : List Value} (hfs : ∀ j, j < N → defaultValue (ty j) = vp_V fs j) (hroom : n.1 + 1 ≤ rmZ.cells ∧ n.2 + N ≤ rmZ.slots) (d : decode cc pc = .ok (.new idx, 3)) (kk : ∀ q, cG Z B a (ws ++ [(q, .inr (ci, fs))]) (n.1 + 1, n.2 + N) (pc + 3) L (.ref q :: st)) : cG Z B a ws n pc L st := by
  obtain ⟨p, l, e, R, s, m, args, below, meth, c, nL, Q⟩ := Z
  subst hR
  intro H locs ls hP hD hS hl
  obtain ⟨hx, hb, hml, hown, hs, hlk⟩ := X
  have hts : ∀ w ∈ u_ws C T N, w.before args s = true := fun w hw => hs.1.1 w (hu w hw) args
  exact va_new hx hb hts (fun w hw => hw) ty hty hown (hs.1.1 _ hcl _) (hs.1.1 _ hin _) (hs.1.1 _ hini _) hs.1.2 hP hD hS (fun q h => Or.inr h) hc hfs hroom.1 hroom.2 d (fun q H1 hP1 hD1 hS1 => kk q H1 locs ls hP1 hD1 hS1 hl)
theorem c_put (X : cX Z B cc own) {ci N idx ad : Nat} {C : String} {T : u_T} {fs : List Value} {v : Value} {ty : FieldType} (hc : vwCl[ci]? = some (C, T, N)) (hu : ∀ w ∈ u_ws C T N, gW w) (ty0 : Nat → FieldType) (hty : ∀ k, k < N → parseFieldDescriptor (T k).2.2.1 = some (ty0 k)) (hnm : ∀ a, a < N → ∀ b, b < N → a ≠ b → (T a).2.1 ≠ (T b).2.1) (q0 : Nat) (he : ws[q0]? = some (ad, .inr (ci, fs))) (k : Nat) (hk : k < N) (hT : (T k).1 = C) (hfin : (T k).2.2.2 = false) (hd : parseFieldDescriptor (T k).2.2.1 = some ty) (hn : narrow ty v = v) (hfit : fits ty v = true) (hl : k < fs.length) (hq : gW (.fieldLink own idx C (T k).2.1 (T k).2.2.1)) (d : decode cc pc = .ok (.putfield idx, 3)) (kk : cG Z B a (ws.set q0 (ad, .inr (ci, fs.set k v))) n (pc + 3) L st) : cG Z B a ws n pc L (v :: .ref ad :: st) := by
  obtain ⟨p, l, e, R, s, m, args, below, meth, c, nL, Q⟩ := Z
  intro H locs ls hP hD hS hl9
  obtain ⟨hx, hb, hml, hown, hs, hlk⟩ := X
  have hts : ∀ w ∈ u_ws C T N, w.before args s = true := fun w hw => hs.1.1 w (hu w hw) args
  exact va_put hx hb hts (fun w hw => hw) ty0 hty hnm hown hs.1.2 hP hD hS q0 he hc k hk (hs.1.1 _ hq _) (fun x hx => by rw [hT] at hx; exact hx) hfin hd hn hfit hl d (fun H1 locs1 hP1 hD1 hS1 => kk H1 locs1 ls hP1 hD1 hS1 hl9)
theorem c_putF (X : cX Z B cc own) (hN : cN Z) {ci N idx ad : Nat} {T : u_T} {fs : List Value} {v : Value} {ty : FieldType} (hc : vwCl[ci]? = some (own, T, N)) (hu : ∀ w ∈ u_ws own T N, gW w) (ty0 : Nat → FieldType) (hty : ∀ k, k < N → parseFieldDescriptor (T k).2.2.1 = some (ty0 k)) (hnm : ∀ a, a < N → ∀ b, b < N → a ≠ b → (T a).2.1 ≠ (T b).2.1) (q0 : Nat) (he : ws[q0]? = some (ad, .inr (ci, fs))) (k : Nat) (hk : k < N) (hT : (T k).1 = own) (hfin : (T k).2.2.2 = true) (hd : parseFieldDescriptor (T k).2.2.1 = some ty) (hn : narrow ty v = v) (hfit : fits ty v = true) (hl : k < fs.length) (hq : gW (.fieldLink own idx own (T k).2.1 (T k).2.2.1)) (d : decode cc pc = .ok (.putfield idx, 3)) (kk : cG Z B a (ws.set q0 (ad, .inr (ci, fs.set k v))) n (pc + 3) L st) : cG Z B a ws n pc L (v :: .ref ad :: st) := by
  obtain ⟨p, l, e, R, s, m, args, below, meth, c, nL, Q⟩ := Z
  intro H locs ls hP hD hS hl9
  obtain ⟨hx, hb, hml, hown, hs, hlk⟩ := X
  have hts : ∀ w ∈ u_ws own T N, w.before args s = true := fun w hw => hs.1.1 w (hu w hw) args
  exact va_putF (ref := own) hx hb hts (fun w hw => hw) ty0 hty hnm hown hs.1.2 hP hD hS q0 he hc k hk (hs.1.1 _ hq _) (fun x hx => by rw [hT] at hx; exact hx) hfin hN hT hd hn hfit hl d (fun H1 locs1 hP1 hD1 hS1 => kk H1 locs1 ls hP1 hD1 hS1 hl9)
theorem c_get (X : cX Z B cc own) {ci N idx ad : Nat} {C : String} {T : u_T} {fs : List Value} {v : Value} (hc : vwCl[ci]? = some (C, T, N)) (hu : ∀ w ∈ u_ws C T N, gW w) (q0 : Nat) (he : ws[q0]? = some (ad, .inr (ci, fs))) (k : Nat) (hk : k < N) (hT : (T k).1 = C) (hv : fs[k]? = some v) (hq : gW (.fieldLink own idx C (T k).2.1 (T k).2.2.1)) (d : decode cc pc = .ok (.getfield idx, 3)) (kk : cG Z B a ws n (pc + 3) L (v :: st)) : cG Z B a ws n pc L (.ref ad :: st) := by
  obtain ⟨p, l, e, R, s, m, args, below, meth, c, nL, Q⟩ := Z
  intro H locs ls hP hD hS hl9
  obtain ⟨hx, hb, hml, hown, hs, hlk⟩ := X
  have hts : ∀ w ∈ u_ws C T N, w.before args s = true := fun w hw => hs.1.1 w (hu w hw) args
  exact va_get hx hb hts (fun w hw => hw) hown hs.1.2 hP q0 he hc k hk (hs.1.1 _ hq _) (fun x hx => by rw [hT] at hx; exact hx) hv d (kk H locs ls hP hD hS hl9)
theorem c_alenQ (X : cX Z B cc own) {ad N : Nat} {f : Nat → Option Nat} (q0 : Nat) (he : ws[q0]? = some (ad, .inl (B.2.2.1.2.1, N, .inr (.inr (.inr (.inr f)))))) (d : decode cc pc = .ok (.arraylength, 1)) (kk : cG Z B a ws n (pc + 1) L (.int (nI N) :: st)) : cG Z B a ws n pc L (.ref ad :: st) := by
  obtain ⟨p, l, e, R, s, m, args, below, meth, c, nL, Q⟩ := Z
  intro H locs ls hP hD hS hl
  exact va_alen X.1 X.2.1 X.2.2.2.2.1.1.2 hP q0 1 he rfl (v := nI N) rfl d (kk H locs ls hP hD hS hl)
theorem c_iast (X : cX Z B cc own) {ad N : Nat} {f : Nat → Int32} {x v : Int32} (q0 : Nat) (he : ws[q0]? = some (ad, .inl (B.2.2.1.1, N, .inl f))) (j : Nat) (hx : x = nI j) (hj : j < N) (hN : N < 2 ^ 31) (d : decode cc pc = .ok (.iastore, 1)) (kk : cG Z B a (ws.set q0 (ad, .inl (B.2.2.1.1, N, .inl (upd f j v)))) n (pc + 1) L st) : cG Z B a ws n pc L (.int v :: .int x :: .ref ad :: st) := by
  obtain ⟨p, l, e, R, s, m, args, below, meth, c, nL, Q⟩ := Z
  subst hx
  intro H locs ls hP hD hS hl
  refine va_iast X.1 X.2.1 X.2.2.2.2.1.1.2 hP hD hS q0 0 he rfl (vp_in_nI hj hN) d (fun H1 locs1 hP1 hD1 hS1 => ?_)
  rw [nI_clamp (by omega)] at hP1 hD1
  exact kk H1 locs1 ls hP1 hD1 hS1 hl
theorem c_astq (X : cX Z B cc own) {ad N u : Nat} {f : Nat → Option Nat} {vs : List Value} {x : Int32} (q0 qk : Nat) (he : ws[q0]? = some (ad, .inl (B.2.2.1.2.1, N, .inr (.inr (.inr (.inr f)))))) (hv : ws[qk]? = some (u, .inr (1, vs))) (j : Nat) (hx : x = nI j) (hj : j < N) (hN : N < 2 ^ 31) (d : decode cc pc = .ok (.aastore, 1)) (kk : cG Z B a (ws.set q0 (ad, .inl (B.2.2.1.2.1, N, .inr (.inr (.inr (.inr (va_up f j (some u)))))))) n (pc + 1) L st) : cG Z B a ws n pc L (.ref u :: .int x :: .ref ad :: st) := by
  obtain ⟨p, l, e, R, s, m, args, below, meth, c, nL, Q⟩ := Z
  subst hx
  intro H locs ls hP hD hS hl
  refine va_astq X.1 X.2.1 X.2.2.2.2.1.1.2 hP hD hS q0 1 qk 1 he rfl hv rfl (vp_in_nI hj hN) d (fun H1 locs1 hP1 hD1 hS1 => ?_)
  rw [nI_clamp (by omega)] at hP1 hD1
  exact kk H1 locs1 ls hP1 hD1 hS1 hl
theorem c_callI (X : cX Z B cc own) {rmZ rm : Room} (hR : gRm Z = rmZ) {y : MethodName} {bc : ByteArray} {mL idx ad k : Nat} {As rest st0 : List Value} {e0 : va_E} {post : va_E → va_W → Prop} (c1 : gW (.instanceMethod y)) (c3 : gW (.code y bc mL none)) (c4 : gW (.initialized y.cls)) (c5 : y.cls ≠ "java/lang/invoke/MethodHandle" ∧ y.cls ≠ "java/lang/invoke/VarHandle") (c6 : (parseMethodDescriptor y.desc).map (fun d => d.parameters.length) = some k) (hy : y.name = "<init>") (hL : gML own idx y) (hM : cM (gl Z) B y bc mL rm (.ref ad :: As) ad e0 post) (hk : As.length = k) (hst : st0 = As.reverse ++ .ref ad :: rest) (hcat : (rest.map fun v => v.category).sum ≤ 8) (q0 : Nat) (he : ws[q0]? = some (ad, e0))
    (hroom : rm.frames + 1 ≤ rmZ.frames ∧ 8 + (mL + 11) + rm.locals ≤ rmZ.locals ∧ n.1 + rm.cells ≤ rmZ.cells ∧ n.2 + rm.slots ≤ rmZ.slots) (d : decode cc pc = .ok (.invokespecial idx, 3))
    (kk : ∀ (e1 : va_E) (new : va_W), post e1 new → cG Z B a (ws.set q0 (ad, e1) ++ new) (n.1 + rm.cells, n.2 + rm.slots) (pc + 3) L rest) : cG Z B a ws n pc L st0 := by
  obtain ⟨p, l, e, R, s, m, args, below, meth, c, nL, Q⟩ := Z
  subst hR; subst hst
  intro H locs ls hP hD hS hl
  obtain ⟨hx, hb, hml, hown, hs, hlk⟩ := X
  have hws : ∀ w ∈ ([.code y bc mL none] : List Cond), ∀ (a' : Array Value) (U : State), s.WarmedH U.vm → w.before a' U = true := by
    intro w hw a' U hW
    rw [List.mem_singleton.mp hw]
    exact hs.1.1.warm hW _ c3 a'
  have hP1 : va_P B.1 vwCl [(ad, e0)] H := by
    intro k q hk
    have h1 : k < 1 := (List.getElem?_eq_some_iff.mp hk).1
    have h0 : k = 0 := by omega
    subst h0
    rw [← Option.some.inj hk]
    exact hP q0 _ he
  have hpre : PreS s H (cPc B (.ref ad :: As) ad e0 H.size) (.ref ad :: As) := ⟨cPc_blind, fun U hU hW => ⟨rfl, by rw [hU], by rw [hU]; exact hP1, hs.warm hW⟩⟩
  have run : va_Run p l e R s m args below meth c H locs n.1 n.2 rm.cells rm.slots (F0 m pc ls (As.reverse ++ .ref ad :: rest)) rest (cQ B ad post H.size (Value.ref ad :: As).toArray) (cA ad H.size) := by
    rcases hL with hL | ⟨h, hL⟩
    · exact va_runI (own := own) (Ts := []) (nL := nL) ⟨hx, hb, hml, hown, fun w hw => absurd hw List.not_mem_nil⟩ (hM H.size) ⟨⟨rfl, rfl, hroom.1, hroom.2.1, hws, List.mem_singleton.mpr rfl, hs.1.1 _ c3 _, hs.1.1 _ c4 _, c5, gar c6, hs.1.1 _ hL _⟩, hy, hs.1.1 _ c1 _⟩ hpre rfl hk hl.1 rfl (lv_room hcat) d hroom.2.2
    · exact va_runIN (own := own) (Ts := []) (nL := nL) ⟨hx, hb, hml, hown, fun w hw => absurd hw List.not_mem_nil⟩ (hM H.size) ⟨⟨⟨rfl, rfl, hroom.1, hroom.2.1, hws, List.mem_singleton.mpr rfl⟩, hs.1.1 _ c3 _, hs.1.1 _ c4 _, c5, gar c6, hs.1.1 _ hL _⟩, hy, hs.1.1 _ c1 _⟩ hpre rfl hk hl.1 rfl (lv_room hcat) d hroom.2.2
  have hAad : cA a s.heap.size ad := hD.2 q0 _ he
  have hadl : ad < H.size := (hP q0 _ he).lt
  have hA : ∀ q, cA ad H.size q → cA a s.heap.size q := fun q h => h.elim (fun h => h ▸ hAad) (fun h => Or.inr (Nat.le_trans hS.1 h))
  intro U hU X9
  obtain ⟨v, st₀, t, T', L0, h0, X', hL0, e1', e2, ⟨⟨e1, new, hv, hp, hP', hD'⟩, hF⟩, hgo⟩ := run U hU X9
  cases hv
  obtain ⟨hz, hk2, hS'⟩ := vx_keep h0 e1' hS (fun q _ h => hA q h) hA hL0 hF
  have hl0 := (List.getElem?_eq_some_iff.mp he).1
  have hnew : ∀ (j : Nat) (x : Nat × va_E), new[j]? = some x → H.size ≤ x.1 := by
    intro j x hx9
    rcases hD'.2 (j + 1) x hx9 with h | h
    · have := hD'.1 (j + 1) 0 x (ad, e1) hx9 rfl h
      omega
    · exact h
  have old : ∀ (j : Nat) (x : Nat × va_E), ws[j]? = some x → j ≠ q0 → T'.heap[x.1]? = H[x.1]? := by
    intro j x hx9 hj
    refine hk2 x.1 (hP j x hx9).lt (fun h => ?_)
    rcases h with h | h
    · exact hj (hD.1 j q0 x _ hx9 he h)
    · have := (hP j x hx9).lt; omega
  have hPn : va_P B.1 vwCl (ws.set q0 (ad, e1) ++ new) T'.heap := by
    have hP9 : va_P B.1 vwCl ((ad, e1) :: new) T'.heap := by rw [e1']; exact hP'
    refine va_P.app (fun j x hx9 => ?_) (fun j x hx9 => hP9 (j + 1) x hx9)
    by_cases hj : j = q0
    · subst hj
      rw [List.getElem?_set_self hl0] at hx9
      rw [← Option.some.inj hx9]
      exact hP9 0 _ rfl
    · rw [List.getElem?_set_ne (Ne.symm hj)] at hx9
      exact (hP j x hx9).kept (old j x hx9 hj)
  have hDn : va_D (cA a s.heap.size) (ws.set q0 (ad, e1) ++ new) := by
    have key : ∀ (j : Nat) (x : Nat × va_E), (ws.set q0 (ad, e1) ++ new)[j]? = some x → (j < ws.length ∧ ∃ e9, ws[j]? = some (x.1, e9)) ∨ (ws.length ≤ j ∧ new[j - ws.length]? = some x) := by
      intro j x hx9
      by_cases hjl : j < ws.length
      · rw [List.getElem?_append_left (by rw [List.length_set]; exact hjl)] at hx9
        refine Or.inl ⟨hjl, ?_⟩
        by_cases hj : j = q0
        · subst hj
          rw [List.getElem?_set_self hl0] at hx9
          rw [← Option.some.inj hx9]
          exact ⟨_, he⟩
        · rw [List.getElem?_set_ne (Ne.symm hj)] at hx9
          exact ⟨x.2, hx9⟩
      · rw [List.getElem?_append_right (by rw [List.length_set]; omega), List.length_set] at hx9
        exact Or.inr ⟨by omega, hx9⟩
    refine ⟨fun i j x y hx9 hy9 hxy => ?_, fun j x hx9 => ?_⟩
    · rcases key i x hx9 with ⟨h1, e9, h2⟩ | ⟨h1, h2⟩ <;> rcases key j y hy9 with ⟨h3, e8, h4⟩ | ⟨h3, h4⟩
      · exact hD.1 i j _ _ h2 h4 hxy
      · have q1 := (hP i _ h2).lt
        have q2 := hnew _ _ h4
        simp only at q1
        omega
      · have q1 := (hP j _ h4).lt
        have q2 := hnew _ _ h2
        simp only at q1
        omega
      · have := hD'.1 (i - ws.length + 1) (j - ws.length + 1) x y h2 h4 hxy
        omega
    · rcases key j x hx9 with ⟨-, e9, h2⟩ | ⟨-, h2⟩
      · exact hD.2 j (x.1, e9) h2
      · exact Or.inr (Nat.le_trans hS.1 (hnew _ _ h2))
  obtain ⟨t2, a1, b1⟩ := kk e1 new hp T'.heap (locs ++ L0) ls hPn hDn hS' hl T' rfl X'
  exact ⟨t2, hgo t2 a1, b1⟩
theorem c_ret {rm : Room} {post : va_E → va_W → Prop} {e1 : va_E} {new : va_W} (X : cX Z B cc own) (F : cF Z B a rm post) (hws : ws = (a, e1) :: new) (hp : post e1 new) (hn : n = (rm.cells, rm.slots)) (d : decode cc pc = .ok (.return_, 1)) : cG Z B a ws n pc L [] := by
  obtain ⟨p, l, e, R, s, m, args, below, meth, c, nL, Q⟩ := Z
  obtain ⟨h1, h2, h3⟩ := F
  subst h3; subst hn; subst hws
  intro H locs ls hP hD hS hl
  exact W.vret X.1 X.2.1 h2 (fun t ht hW => ⟨⟨e1, new, rfl, hp, by rw [ht]; exact hP, hD⟩, hS.F ht⟩) hS.2.2 d X.2.2.2.2.2
end CR
end
section
abbrev rmX5_init : Room := { frames := 1, cells := 1, slots := 16, locals := 20 }
set_option maxRecDepth 20000 in
theorem cn_row {l : Launch} {B : gB} (a : Nat)  : cM l B yX5_init cX5_init 1 rmX5_init [.ref a] a (.inr (4, [.null, .int 0])) (fun e1 new => ∃ q, e1 = .inr (4, [.ref q, .int 0]) ∧ new = [(q, .inl (B.2.2.1.1, 16, .inl (fun _ => 0)))]) := by
  refine cM_of (own := RX5) (L := [(0, .ref a)]) (by decide +kernel) rfl rfl (Nat.le_of_ble_eq_true rfl) rfl ?_
  intro Z hnL hR X hN F
  refine c_aload_n X 0 rfl dX5_init_0 ?_
  refine c_objInit X hR qL_X5_3 ⟨Nat.le_of_ble_eq_true rfl, Nat.le_of_ble_eq_true rfl⟩ (Nat.le_of_ble_eq_true rfl) dX5_init_1 ?_
  refine c_aload_n X 0 rfl dX5_init_4 ?_
  refine c_bipush X 16 (by decide) dX5_init_5 ?_
  refine c_newI X hR 16 rfl (by decide) ⟨Nat.le_of_ble_eq_true rfl, Nat.le_of_ble_eq_true rfl⟩ dX5_init_7 (fun q1 => ?_)
  refine cG_n (1, 16) rfl ?_
  refine cG_ws ([(a, .inr (4, [.null, .int 0])), (q1, .inl (B.2.2.1.1, 16, .inl (fun _ => 0)))]) rfl ?_
  refine c_putF X hN rfl gU_X5 tyX5 tyX5_ok nmX5 0 rfl 0 (by decide) rfl rfl (tyX5_ok 0 (by decide)) rfl rfl (Nat.le_of_ble_eq_true rfl) qF_X5_9 dX5_init_9 ?_
  refine cG_ws ([(a, .inr (4, [.ref q1, .int 0])), (q1, .inl (B.2.2.1.1, 16, .inl (fun _ => 0)))]) rfl ?_
  exact c_ret X F rfl ⟨q1, rfl, rfl⟩ rfl dX5_init_12

abbrev rmX3_init : Room := { frames := 2, cells := 2, slots := 18, locals := 40 }
set_option maxRecDepth 20000 in
theorem cn_gate {l : Launch} {B : gB} (a : Nat)  : cM l B yX3_init cX3_init 1 rmX3_init [.ref a] a (.inr (3, [.null, .int 0, .int 0, .int 0, .int 0])) (fun e1 new => ∃ r q, e1 = .inr (3, [.ref r, .int 0, .int 0, .int 0, .int 0]) ∧ new = [(r, .inr (4, [.ref q, .int 0])), (q, .inl (B.2.2.1.1, 16, .inl (fun _ => 0)))]) := by
  refine cM_of (own := RX3) (L := [(0, .ref a)]) (by decide +kernel) rfl rfl (Nat.le_of_ble_eq_true rfl) rfl ?_
  intro Z hnL hR X hN F
  refine c_aload_n X 0 rfl dX3_init_0 ?_
  refine c_objInit X hR qL_X3_3 ⟨Nat.le_of_ble_eq_true rfl, Nat.le_of_ble_eq_true rfl⟩ (Nat.le_of_ble_eq_true rfl) dX3_init_1 ?_
  refine c_aload_n X 0 rfl dX3_init_4 ?_
  refine c_new X hR (ci := 4) (N := 2) rfl gU_X5 tyX5 tyX5_ok qCL_X3_9 qIn_X5 qN_X5 (fs := [.null, .int 0]) (fun j hj => by rcases (show j = 0 ∨ j = 1 by omega) with rfl | rfl <;> rfl) ⟨Nat.le_of_ble_eq_true rfl, Nat.le_of_ble_eq_true rfl⟩ dX3_init_5 (fun q1 => ?_)
  refine cG_n (1, 2) rfl ?_
  refine cG_ws ([(a, .inr (3, [.null, .int 0, .int 0, .int 0, .int 0])), (q1, .inr (4, [.null, .int 0]))]) rfl ?_
  refine c_dup X rfl dX3_init_8 ?_
  refine c_callI X hR (As := []) (rest := [.ref q1, .ref a]) qI_yX5_init qC_yX5_init qN_X5 (by decide +kernel) (k := 0) (by decide +kernel) rfl lX3_11 (cn_row q1 ) rfl rfl (Nat.le_of_ble_eq_true rfl) 1 rfl ⟨Nat.le_of_ble_eq_true rfl, Nat.le_of_ble_eq_true rfl, Nat.le_of_ble_eq_true rfl, Nat.le_of_ble_eq_true rfl⟩ dX3_init_9 (fun e9 new9 h9 => ?_)
  obtain ⟨q2, rfl, rfl⟩ := h9
  refine cG_n (2, 18) rfl ?_
  refine cG_ws ([(a, .inr (3, [.null, .int 0, .int 0, .int 0, .int 0])), (q1, .inr (4, [.ref q2, .int 0])), (q2, .inl (B.2.2.1.1, 16, .inl (fun _ => 0)))]) rfl ?_
  refine c_putF X hN rfl gU_X3 tyX3 tyX3_ok nmX3 0 rfl 0 (by decide) rfl rfl (tyX3_ok 0 (by decide)) rfl rfl (Nat.le_of_ble_eq_true rfl) qF_X3_12 dX3_init_12 ?_
  refine cG_ws ([(a, .inr (3, [.ref q1, .int 0, .int 0, .int 0, .int 0])), (q1, .inr (4, [.ref q2, .int 0])), (q2, .inl (B.2.2.1.1, 16, .inl (fun _ => 0)))]) rfl ?_
  exact c_ret X F rfl ⟨q1, q2, rfl, rfl⟩ rfl dX3_init_15

abbrev rmX1_init : Room := { frames := 1, cells := 0, slots := 0, locals := 20 }
set_option maxRecDepth 20000 in
theorem cn_cart {l : Launch} {B : gB} (a : Nat) (x : Int32) : cM l B yX1_init cX1_init 2 rmX1_init [.ref a, .int x] a (.inr (1, [.int 0, .int 0, .int 0, .int 0, .int 0, .int 0, .int 0, .int 0, .int 0, .int 0, .int 0])) (fun e1 new => e1 = .inr (1, [.int x, .int 0, .int 0, .int 0, .int 0, .int 0, .int 0, .int 0, .int 0, .int 0, .int (-1)]) ∧ new = []) := by
  refine cM_of (own := RX1) (L := [(0, .ref a), (1, .int x)]) (by decide +kernel) rfl rfl (Nat.le_of_ble_eq_true rfl) rfl ?_
  intro Z hnL hR X hN F
  refine c_aload_n X 0 rfl dX1_init_0 ?_
  refine c_objInit X hR qL_X1_3 ⟨Nat.le_of_ble_eq_true rfl, Nat.le_of_ble_eq_true rfl⟩ (Nat.le_of_ble_eq_true rfl) dX1_init_1 ?_
  refine c_aload_n X 0 rfl dX1_init_4 ?_
  refine c_iconst X 0 (by decide) dX1_init_5 ?_
  refine c_put X rfl gU_X1 tyX1 tyX1_ok nmX1 0 rfl 8 (by decide) rfl rfl (tyX1_ok 8 (by decide)) rfl rfl (Nat.le_of_ble_eq_true rfl) qF_X1_9 dX1_init_6 ?_
  refine cG_ws ([(a, .inr (1, [.int 0, .int 0, .int 0, .int 0, .int 0, .int 0, .int 0, .int 0, .int 0, .int 0, .int 0]))]) rfl ?_
  refine c_aload_n X 0 rfl dX1_init_9 ?_
  refine c_iconst X (-1) (by decide) dX1_init_10 ?_
  refine c_put X rfl gU_X1 tyX1 tyX1_ok nmX1 0 rfl 10 (by decide) rfl rfl (tyX1_ok 10 (by decide)) rfl rfl (Nat.le_of_ble_eq_true rfl) qF_X1_15 dX1_init_11 ?_
  refine cG_ws ([(a, .inr (1, [.int 0, .int 0, .int 0, .int 0, .int 0, .int 0, .int 0, .int 0, .int 0, .int 0, .int (-1)]))]) rfl ?_
  refine c_aload_n X 0 rfl dX1_init_14 ?_
  refine c_iload_n X 1 rfl dX1_init_15 ?_
  refine c_putF X hN rfl gU_X1 tyX1 tyX1_ok nmX1 0 rfl 0 (by decide) rfl rfl (tyX1_ok 0 (by decide)) rfl rfl (Nat.le_of_ble_eq_true rfl) qF_X1_18 dX1_init_16 ?_
  refine cG_ws ([(a, .inr (1, [.int x, .int 0, .int 0, .int 0, .int 0, .int 0, .int 0, .int 0, .int 0, .int 0, .int (-1)]))]) rfl ?_
  exact c_ret X F rfl ⟨rfl, rfl⟩ rfl dX1_init_19

abbrev rmX2_init : Room := { frames := 1, cells := 2, slots := 29, locals := 20 }
set_option maxRecDepth 20000 in
theorem cn_code {l : Launch} {B : gB} (a : Nat)  : cM l B yX2_init cX2_init 1 rmX2_init [.ref a] a (.inr (2, [.null, .null, .int 0])) (fun e1 new => ∃ q1 q2, e1 = .inr (2, [.ref q1, .ref q2, .int 0]) ∧ new = [(q1, .inl (B.2.2.1.1, 8, .inl (fun _ => 0))), (q2, .inl (B.2.2.1.1, 21, .inl (fun _ => 0)))]) := by
  refine cM_of (own := RX2) (L := [(0, .ref a)]) (by decide +kernel) rfl rfl (Nat.le_of_ble_eq_true rfl) rfl ?_
  intro Z hnL hR X hN F
  refine c_aload_n X 0 rfl dX2_init_0 ?_
  refine c_objInit X hR qL_X2_3 ⟨Nat.le_of_ble_eq_true rfl, Nat.le_of_ble_eq_true rfl⟩ (Nat.le_of_ble_eq_true rfl) dX2_init_1 ?_
  refine c_aload_n X 0 rfl dX2_init_4 ?_
  refine c_bipush X 8 (by decide) dX2_init_5 ?_
  refine c_newI X hR 8 rfl (by decide) ⟨Nat.le_of_ble_eq_true rfl, Nat.le_of_ble_eq_true rfl⟩ dX2_init_7 (fun q1 => ?_)
  refine cG_n (1, 8) rfl ?_
  refine cG_ws ([(a, .inr (2, [.null, .null, .int 0])), (q1, .inl (B.2.2.1.1, 8, .inl (fun _ => 0)))]) rfl ?_
  refine c_putF X hN rfl gU_X2 tyX2 tyX2_ok nmX2 0 rfl 0 (by decide) rfl rfl (tyX2_ok 0 (by decide)) rfl rfl (Nat.le_of_ble_eq_true rfl) qF_X2_9 dX2_init_9 ?_
  refine cG_ws ([(a, .inr (2, [.ref q1, .null, .int 0])), (q1, .inl (B.2.2.1.1, 8, .inl (fun _ => 0)))]) rfl ?_
  refine c_aload_n X 0 rfl dX2_init_12 ?_
  refine c_bipush X 21 (by decide) dX2_init_13 ?_
  refine c_newI X hR 21 rfl (by decide) ⟨Nat.le_of_ble_eq_true rfl, Nat.le_of_ble_eq_true rfl⟩ dX2_init_15 (fun q2 => ?_)
  refine cG_n (2, 29) rfl ?_
  refine cG_ws ([(a, .inr (2, [.ref q1, .null, .int 0])), (q1, .inl (B.2.2.1.1, 8, .inl (fun _ => 0))), (q2, .inl (B.2.2.1.1, 21, .inl (fun _ => 0)))]) rfl ?_
  refine c_putF X hN rfl gU_X2 tyX2 tyX2_ok nmX2 0 rfl 1 (by decide) rfl rfl (tyX2_ok 1 (by decide)) rfl rfl (Nat.le_of_ble_eq_true rfl) qF_X2_15 dX2_init_17 ?_
  refine cG_ws ([(a, .inr (2, [.ref q1, .ref q2, .int 0])), (q1, .inl (B.2.2.1.1, 8, .inl (fun _ => 0))), (q2, .inl (B.2.2.1.1, 21, .inl (fun _ => 0)))]) rfl ?_
  exact c_ret X F rfl ⟨q1, q2, rfl, rfl⟩ rfl dX2_init_20
end
section
/-! constructors with loops -/
def fil (i : Nat) : Nat → Int32 := fun j => if j < i then -1 else 0
theorem fil_0 : (fun _ : Nat => (0 : Int32)) = fil 0 := funext fun j => (if_neg (Nat.not_lt_zero j)).symm
theorem fil_s (i : Nat) : upd (fil i) i (-1) = fil (i + 1) := by
  funext j
  by_cases h : j = i
  · subst h
    rw [pk_us]
    exact (if_pos (Nat.lt_succ_self j)).symm
  · rw [pk_un h]
    unfold fil
    by_cases hj : j < i
    · rw [if_pos hj, if_pos (by omega)]
    · rw [if_neg hj, if_neg (by omega)]
theorem app_get (u : va_W) (x : Nat × va_E) : (u ++ [x])[u.length]? = some x := by simp
theorem app_set (u new : va_W) (x y : Nat × va_E) : (u ++ [x]).set u.length y ++ new = u ++ (y :: new) := by simp
def qf (c : Nat → Nat) (k : Nat) : Nat → Option Nat := fun j => if j < k then some (c j) else none
theorem qf_0 (c : Nat → Nat) : (fun _ : Nat => (none : Option Nat)) = qf c 0 := funext fun j => (if_neg (Nat.not_lt_zero j)).symm
def cE (j : Nat) : va_E := .inr (1, [.int (nI j), .int 0, .int 0, .int 0, .int 0, .int 0, .int 0, .int 0, .int 0, .int 0, .int (-1)])
def cCarts (c : Nat → Nat) (k : Nat) : va_W := (List.range k).map (fun j => (c j, cE j))
def cSet (c : Nat → Nat) (k q : Nat) : Nat → Nat := fun j => if j = k then q else c j
theorem cCarts_s (c : Nat → Nat) (k q : Nat) : cCarts c k ++ [(q, cE k)] = cCarts (cSet c k q) (k + 1) := by
  unfold cCarts
  rw [List.range_succ, List.map_append]
  congr 1
  · refine List.map_congr_left (fun j hj => ?_)
    have : j < k := List.mem_range.mp hj
    show (c j, cE j) = (cSet c k q j, cE j)
    rw [show cSet c k q j = c j from if_neg (by omega)]
  · show [(q, cE k)] = [(cSet c k q k, cE k)]
    rw [show cSet c k q k = q from if_pos rfl]
theorem qf_s (c : Nat → Nat) (k q : Nat) : va_up (qf c k) k (some q) = qf (cSet c k q) (k + 1) := by
  funext j
  unfold va_up qf cSet
  by_cases h : j = k
  · subst h
    rw [if_pos rfl, if_pos (Nat.lt_succ_self j), if_pos rfl]
  · rw [if_neg h, if_neg h]
    by_cases hj : j < k
    · rw [if_pos hj, if_pos (by omega)]
    · rw [if_neg hj, if_neg (by omega)]

abbrev rmX0_init : Room := { frames := 3, cells := 25, slots := 256, locals := 60 }
set_option maxRecDepth 20000 in
theorem cn_bridge {l : Launch} {B : gB} (a : Nat)  : cM l B yX0_init cX0_init 2 rmX0_init [.ref a] a (.inr (0, [.int 0, .int 0, .int 0, .int 0, .int 0, .int 0, .int 0, .null, .null, .null, .null])) (fun e1 new => ∃ qa g0 r0 a0 g1 r1 a1 r2 a2 c, (a, e1) :: new = [(a, .inr (0, [.int 0, .int 0, .int 10, .int 200, .int 1, .int 1, .int 0, .ref qa, .ref g0, .ref g1, .ref r2])), (qa, .inl (B.2.2.1.2.1, 16, .inr (.inr (.inr (.inr (qf c 16)))))), (g0, .inr (3, [.ref r0, .int 0, .int 0, .int 0, .int 0])), (r0, .inr (4, [.ref a0, .int 0])), (a0, .inl (B.2.2.1.1, 16, .inl (fun _ => 0))), (g1, .inr (3, [.ref r1, .int 0, .int 0, .int 0, .int 0])), (r1, .inr (4, [.ref a1, .int 0])), (a1, .inl (B.2.2.1.1, 16, .inl (fun _ => 0))), (r2, .inr (4, [.ref a2, .int 0])), (a2, .inl (B.2.2.1.1, 16, .inl (fun _ => 0)))] ++ cCarts c 16) := by
  refine cM_of (own := RX0) (L := [(0, .ref a)]) (by decide +kernel) rfl rfl (Nat.le_of_ble_eq_true rfl) rfl ?_
  intro Z hnL hR X hN F
  refine c_aload_n X 0 rfl dX0_init_0 ?_
  refine c_objInit X hR qL_X0_3 ⟨Nat.le_of_ble_eq_true rfl, Nat.le_of_ble_eq_true rfl⟩ (Nat.le_of_ble_eq_true rfl) dX0_init_1 ?_
  refine c_aload_n X 0 rfl dX0_init_4 ?_
  refine c_bipush X 10 (by decide) dX0_init_5 ?_
  refine c_put X rfl gU_X0 tyX0 tyX0_ok nmX0 0 rfl 2 (by decide) rfl rfl (tyX0_ok 2 (by decide)) rfl rfl (Nat.le_of_ble_eq_true rfl) qF_X0_9 dX0_init_7 ?_
  refine cG_ws ([(a, .inr (0, [.int 0, .int 0, .int 10, .int 0, .int 0, .int 0, .int 0, .null, .null, .null, .null]))]) rfl ?_
  refine c_aload_n X 0 rfl dX0_init_10 ?_
  refine c_sipush X 200 (by decide) dX0_init_11 ?_
  refine c_put X rfl gU_X0 tyX0 tyX0_ok nmX0 0 rfl 3 (by decide) rfl rfl (tyX0_ok 3 (by decide)) rfl rfl (Nat.le_of_ble_eq_true rfl) qF_X0_15 dX0_init_14 ?_
  refine cG_ws ([(a, .inr (0, [.int 0, .int 0, .int 10, .int 200, .int 0, .int 0, .int 0, .null, .null, .null, .null]))]) rfl ?_
  refine c_aload_n X 0 rfl dX0_init_17 ?_
  refine c_iconst X 1 (by decide) dX0_init_18 ?_
  refine c_put X rfl gU_X0 tyX0 tyX0_ok nmX0 0 rfl 4 (by decide) rfl rfl (tyX0_ok 4 (by decide)) rfl rfl (Nat.le_of_ble_eq_true rfl) qF_X0_18 dX0_init_19 ?_
  refine cG_ws ([(a, .inr (0, [.int 0, .int 0, .int 10, .int 200, .int 1, .int 0, .int 0, .null, .null, .null, .null]))]) rfl ?_
  refine c_aload_n X 0 rfl dX0_init_22 ?_
  refine c_iconst X 1 (by decide) dX0_init_23 ?_
  refine c_put X rfl gU_X0 tyX0 tyX0_ok nmX0 0 rfl 5 (by decide) rfl rfl (tyX0_ok 5 (by decide)) rfl rfl (Nat.le_of_ble_eq_true rfl) qF_X0_21 dX0_init_24 ?_
  refine cG_ws ([(a, .inr (0, [.int 0, .int 0, .int 10, .int 200, .int 1, .int 1, .int 0, .null, .null, .null, .null]))]) rfl ?_
  refine c_aload_n X 0 rfl dX0_init_27 ?_
  refine c_bipush X 16 (by decide) dX0_init_28 ?_
  refine c_newq X hR 16 rfl (by decide) qCL_X0_24 ⟨Nat.le_of_ble_eq_true rfl, Nat.le_of_ble_eq_true rfl⟩ dX0_init_30 (fun q1 => ?_)
  refine cG_n (1, 16) rfl ?_
  refine cG_ws ([(a, .inr (0, [.int 0, .int 0, .int 10, .int 200, .int 1, .int 1, .int 0, .null, .null, .null, .null])), (q1, .inl (B.2.2.1.2.1, 16, .inr (.inr (.inr (.inr (fun _ => none))))))]) rfl ?_
  refine c_putF X hN rfl gU_X0 tyX0 tyX0_ok nmX0 0 rfl 7 (by decide) rfl rfl (tyX0_ok 7 (by decide)) rfl rfl (Nat.le_of_ble_eq_true rfl) qF_X0_26 dX0_init_33 ?_
  refine cG_ws ([(a, .inr (0, [.int 0, .int 0, .int 10, .int 200, .int 1, .int 1, .int 0, .ref q1, .null, .null, .null])), (q1, .inl (B.2.2.1.2.1, 16, .inr (.inr (.inr (.inr (fun _ => none))))))]) rfl ?_
  refine c_aload_n X 0 rfl dX0_init_36 ?_
  refine c_new X hR (ci := 3) (N := 5) rfl gU_X3 tyX3 tyX3_ok qCL_X0_30 qIn_X3 qN_X3 (fs := [.null, .int 0, .int 0, .int 0, .int 0]) (fun j hj => by rcases (show j = 0 ∨ j = 1 ∨ j = 2 ∨ j = 3 ∨ j = 4 by omega) with rfl | rfl | rfl | rfl | rfl <;> rfl) ⟨Nat.le_of_ble_eq_true rfl, Nat.le_of_ble_eq_true rfl⟩ dX0_init_37 (fun q2 => ?_)
  refine cG_n (2, 21) rfl ?_
  refine cG_ws ([(a, .inr (0, [.int 0, .int 0, .int 10, .int 200, .int 1, .int 1, .int 0, .ref q1, .null, .null, .null])), (q1, .inl (B.2.2.1.2.1, 16, .inr (.inr (.inr (.inr (fun _ => none)))))), (q2, .inr (3, [.null, .int 0, .int 0, .int 0, .int 0]))]) rfl ?_
  refine c_dup X rfl dX0_init_40 ?_
  refine c_callI X hR (As := []) (rest := [.ref q2, .ref a]) qI_yX3_init qC_yX3_init qN_X3 (by decide +kernel) (k := 0) (by decide +kernel) rfl lX0_32 (cn_gate q2 ) rfl rfl (Nat.le_of_ble_eq_true rfl) 2 rfl ⟨Nat.le_of_ble_eq_true rfl, Nat.le_of_ble_eq_true rfl, Nat.le_of_ble_eq_true rfl, Nat.le_of_ble_eq_true rfl⟩ dX0_init_41 (fun e9 new9 h9 => ?_)
  obtain ⟨q3, q4, rfl, rfl⟩ := h9
  refine cG_n (4, 39) rfl ?_
  refine cG_ws ([(a, .inr (0, [.int 0, .int 0, .int 10, .int 200, .int 1, .int 1, .int 0, .ref q1, .null, .null, .null])), (q1, .inl (B.2.2.1.2.1, 16, .inr (.inr (.inr (.inr (fun _ => none)))))), (q2, .inr (3, [.ref q3, .int 0, .int 0, .int 0, .int 0])), (q3, .inr (4, [.ref q4, .int 0])), (q4, .inl (B.2.2.1.1, 16, .inl (fun _ => 0)))]) rfl ?_
  refine c_putF X hN rfl gU_X0 tyX0 tyX0_ok nmX0 0 rfl 8 (by decide) rfl rfl (tyX0_ok 8 (by decide)) rfl rfl (Nat.le_of_ble_eq_true rfl) qF_X0_33 dX0_init_44 ?_
  refine cG_ws ([(a, .inr (0, [.int 0, .int 0, .int 10, .int 200, .int 1, .int 1, .int 0, .ref q1, .ref q2, .null, .null])), (q1, .inl (B.2.2.1.2.1, 16, .inr (.inr (.inr (.inr (fun _ => none)))))), (q2, .inr (3, [.ref q3, .int 0, .int 0, .int 0, .int 0])), (q3, .inr (4, [.ref q4, .int 0])), (q4, .inl (B.2.2.1.1, 16, .inl (fun _ => 0)))]) rfl ?_
  refine c_aload_n X 0 rfl dX0_init_47 ?_
  refine c_new X hR (ci := 3) (N := 5) rfl gU_X3 tyX3 tyX3_ok qCL_X0_30 qIn_X3 qN_X3 (fs := [.null, .int 0, .int 0, .int 0, .int 0]) (fun j hj => by rcases (show j = 0 ∨ j = 1 ∨ j = 2 ∨ j = 3 ∨ j = 4 by omega) with rfl | rfl | rfl | rfl | rfl <;> rfl) ⟨Nat.le_of_ble_eq_true rfl, Nat.le_of_ble_eq_true rfl⟩ dX0_init_48 (fun q5 => ?_)
  refine cG_n (5, 44) rfl ?_
  refine cG_ws ([(a, .inr (0, [.int 0, .int 0, .int 10, .int 200, .int 1, .int 1, .int 0, .ref q1, .ref q2, .null, .null])), (q1, .inl (B.2.2.1.2.1, 16, .inr (.inr (.inr (.inr (fun _ => none)))))), (q2, .inr (3, [.ref q3, .int 0, .int 0, .int 0, .int 0])), (q3, .inr (4, [.ref q4, .int 0])), (q4, .inl (B.2.2.1.1, 16, .inl (fun _ => 0))), (q5, .inr (3, [.null, .int 0, .int 0, .int 0, .int 0]))]) rfl ?_
  refine c_dup X rfl dX0_init_51 ?_
  refine c_callI X hR (As := []) (rest := [.ref q5, .ref a]) qI_yX3_init qC_yX3_init qN_X3 (by decide +kernel) (k := 0) (by decide +kernel) rfl lX0_32 (cn_gate q5 ) rfl rfl (Nat.le_of_ble_eq_true rfl) 5 rfl ⟨Nat.le_of_ble_eq_true rfl, Nat.le_of_ble_eq_true rfl, Nat.le_of_ble_eq_true rfl, Nat.le_of_ble_eq_true rfl⟩ dX0_init_52 (fun e9 new9 h9 => ?_)
  obtain ⟨q6, q7, rfl, rfl⟩ := h9
  refine cG_n (7, 62) rfl ?_
  refine cG_ws ([(a, .inr (0, [.int 0, .int 0, .int 10, .int 200, .int 1, .int 1, .int 0, .ref q1, .ref q2, .null, .null])), (q1, .inl (B.2.2.1.2.1, 16, .inr (.inr (.inr (.inr (fun _ => none)))))), (q2, .inr (3, [.ref q3, .int 0, .int 0, .int 0, .int 0])), (q3, .inr (4, [.ref q4, .int 0])), (q4, .inl (B.2.2.1.1, 16, .inl (fun _ => 0))), (q5, .inr (3, [.ref q6, .int 0, .int 0, .int 0, .int 0])), (q6, .inr (4, [.ref q7, .int 0])), (q7, .inl (B.2.2.1.1, 16, .inl (fun _ => 0)))]) rfl ?_
  refine c_putF X hN rfl gU_X0 tyX0 tyX0_ok nmX0 0 rfl 9 (by decide) rfl rfl (tyX0_ok 9 (by decide)) rfl rfl (Nat.le_of_ble_eq_true rfl) qF_X0_37 dX0_init_55 ?_
  refine cG_ws ([(a, .inr (0, [.int 0, .int 0, .int 10, .int 200, .int 1, .int 1, .int 0, .ref q1, .ref q2, .ref q5, .null])), (q1, .inl (B.2.2.1.2.1, 16, .inr (.inr (.inr (.inr (fun _ => none)))))), (q2, .inr (3, [.ref q3, .int 0, .int 0, .int 0, .int 0])), (q3, .inr (4, [.ref q4, .int 0])), (q4, .inl (B.2.2.1.1, 16, .inl (fun _ => 0))), (q5, .inr (3, [.ref q6, .int 0, .int 0, .int 0, .int 0])), (q6, .inr (4, [.ref q7, .int 0])), (q7, .inl (B.2.2.1.1, 16, .inl (fun _ => 0)))]) rfl ?_
  refine c_aload_n X 0 rfl dX0_init_58 ?_
  refine c_new X hR (ci := 4) (N := 2) rfl gU_X5 tyX5 tyX5_ok qCL_X0_40 qIn_X5 qN_X5 (fs := [.null, .int 0]) (fun j hj => by rcases (show j = 0 ∨ j = 1 by omega) with rfl | rfl <;> rfl) ⟨Nat.le_of_ble_eq_true rfl, Nat.le_of_ble_eq_true rfl⟩ dX0_init_59 (fun q8 => ?_)
  refine cG_n (8, 64) rfl ?_
  refine cG_ws ([(a, .inr (0, [.int 0, .int 0, .int 10, .int 200, .int 1, .int 1, .int 0, .ref q1, .ref q2, .ref q5, .null])), (q1, .inl (B.2.2.1.2.1, 16, .inr (.inr (.inr (.inr (fun _ => none)))))), (q2, .inr (3, [.ref q3, .int 0, .int 0, .int 0, .int 0])), (q3, .inr (4, [.ref q4, .int 0])), (q4, .inl (B.2.2.1.1, 16, .inl (fun _ => 0))), (q5, .inr (3, [.ref q6, .int 0, .int 0, .int 0, .int 0])), (q6, .inr (4, [.ref q7, .int 0])), (q7, .inl (B.2.2.1.1, 16, .inl (fun _ => 0))), (q8, .inr (4, [.null, .int 0]))]) rfl ?_
  refine c_dup X rfl dX0_init_62 ?_
  refine c_callI X hR (As := []) (rest := [.ref q8, .ref a]) qI_yX5_init qC_yX5_init qN_X5 (by decide +kernel) (k := 0) (by decide +kernel) rfl lX0_42 (cn_row q8 ) rfl rfl (Nat.le_of_ble_eq_true rfl) 8 rfl ⟨Nat.le_of_ble_eq_true rfl, Nat.le_of_ble_eq_true rfl, Nat.le_of_ble_eq_true rfl, Nat.le_of_ble_eq_true rfl⟩ dX0_init_63 (fun e9 new9 h9 => ?_)
  obtain ⟨q9, rfl, rfl⟩ := h9
  refine cG_n (9, 80) rfl ?_
  refine cG_ws ([(a, .inr (0, [.int 0, .int 0, .int 10, .int 200, .int 1, .int 1, .int 0, .ref q1, .ref q2, .ref q5, .null])), (q1, .inl (B.2.2.1.2.1, 16, .inr (.inr (.inr (.inr (fun _ => none)))))), (q2, .inr (3, [.ref q3, .int 0, .int 0, .int 0, .int 0])), (q3, .inr (4, [.ref q4, .int 0])), (q4, .inl (B.2.2.1.1, 16, .inl (fun _ => 0))), (q5, .inr (3, [.ref q6, .int 0, .int 0, .int 0, .int 0])), (q6, .inr (4, [.ref q7, .int 0])), (q7, .inl (B.2.2.1.1, 16, .inl (fun _ => 0))), (q8, .inr (4, [.ref q9, .int 0])), (q9, .inl (B.2.2.1.1, 16, .inl (fun _ => 0)))]) rfl ?_
  refine c_putF X hN rfl gU_X0 tyX0 tyX0_ok nmX0 0 rfl 10 (by decide) rfl rfl (tyX0_ok 10 (by decide)) rfl rfl (Nat.le_of_ble_eq_true rfl) qF_X0_43 dX0_init_66 ?_
  refine cG_ws ([(a, .inr (0, [.int 0, .int 0, .int 10, .int 200, .int 1, .int 1, .int 0, .ref q1, .ref q2, .ref q5, .ref q8])), (q1, .inl (B.2.2.1.2.1, 16, .inr (.inr (.inr (.inr (fun _ => none)))))), (q2, .inr (3, [.ref q3, .int 0, .int 0, .int 0, .int 0])), (q3, .inr (4, [.ref q4, .int 0])), (q4, .inl (B.2.2.1.1, 16, .inl (fun _ => 0))), (q5, .inr (3, [.ref q6, .int 0, .int 0, .int 0, .int 0])), (q6, .inr (4, [.ref q7, .int 0])), (q7, .inl (B.2.2.1.1, 16, .inl (fun _ => 0))), (q8, .inr (4, [.ref q9, .int 0])), (q9, .inl (B.2.2.1.1, 16, .inl (fun _ => 0)))]) rfl ?_
  refine c_iconst X 0 (by decide) dX0_init_69 ?_
  refine c_istore_n X rfl dX0_init_70 [(1, .int 0), (0, .ref a)] rfl (gnl_lt hnL (by decide)) ?_
  refine cG_L (ks := [1, 0]) (L' := [(0, .ref a), (1, .int (nI 0))]) rfl ?_
  refine cG_ws ([(a, .inr (0, [.int 0, .int 0, .int 10, .int 200, .int 1, .int 1, .int 0, .ref q1, .ref q2, .ref q5, .ref q8])), (q1, .inl (B.2.2.1.2.1, 16, .inr (.inr (.inr (.inr (qf (fun _ => 0) 0)))))), (q2, .inr (3, [.ref q3, .int 0, .int 0, .int 0, .int 0])), (q3, .inr (4, [.ref q4, .int 0])), (q4, .inl (B.2.2.1.1, 16, .inl (fun _ => 0))), (q5, .inr (3, [.ref q6, .int 0, .int 0, .int 0, .int 0])), (q6, .inr (4, [.ref q7, .int 0])), (q7, .inl (B.2.2.1.1, 16, .inl (fun _ => 0))), (q8, .inr (4, [.ref q9, .int 0])), (q9, .inl (B.2.2.1.1, 16, .inl (fun _ => 0)))] ++ cCarts (fun _ => 0) 0) (by rw [← qf_0]; rfl) ?_
  have loop : ∀ (f i : Nat) (c : Nat → Nat), i + f = 16 → cG Z B a ([(a, .inr (0, [.int 0, .int 0, .int 10, .int 200, .int 1, .int 1, .int 0, .ref q1, .ref q2, .ref q5, .ref q8])), (q1, .inl (B.2.2.1.2.1, 16, .inr (.inr (.inr (.inr (qf c i)))))), (q2, .inr (3, [.ref q3, .int 0, .int 0, .int 0, .int 0])), (q3, .inr (4, [.ref q4, .int 0])), (q4, .inl (B.2.2.1.1, 16, .inl (fun _ => 0))), (q5, .inr (3, [.ref q6, .int 0, .int 0, .int 0, .int 0])), (q6, .inr (4, [.ref q7, .int 0])), (q7, .inl (B.2.2.1.1, 16, .inl (fun _ => 0))), (q8, .inr (4, [.ref q9, .int 0])), (q9, .inl (B.2.2.1.1, 16, .inl (fun _ => 0)))] ++ cCarts c i) (9 + i, 80 + 11 * i) 71 [(0, .ref a), (1, .int (nI i))] [] := by
    intro f
    induction f with
    | zero =>
      intro i c hf
      refine c_iload_n X 1 rfl dX0_init_71 ?_
      refine c_aload_n X 0 rfl dX0_init_72 ?_
      refine c_get X rfl gU_X0 0 rfl 7 (by decide) rfl rfl qF_X0_26 dX0_init_73 ?_
      refine c_alenQ X 1 rfl dX0_init_76 ?_
      refine c_icmp_ge X 100 (by decide) dX0_init_77 (fun _ => ?_) (fun h => absurd (nI_le (a := 16) (by omega) (by omega)) h)
      have hi16 : i = 16 := by omega
      subst hi16
      exact c_ret X F rfl ⟨q1, q2, q3, q4, q5, q6, q7, q8, q9, c, rfl⟩ rfl dX0_init_100
    | succ f ih =>
      intro i c hf
      refine c_iload_n X 1 rfl dX0_init_71 ?_
      refine c_aload_n X 0 rfl dX0_init_72 ?_
      refine c_get X rfl gU_X0 0 rfl 7 (by decide) rfl rfl qF_X0_26 dX0_init_73 ?_
      refine c_alenQ X 1 rfl dX0_init_76 ?_
      refine c_icmp_ge X 100 (by decide) dX0_init_77 (fun h => absurd h (nI_ge (b := 16) (by omega) (by decide))) (fun _ => ?_)
      refine c_aload_n X 0 rfl dX0_init_80 ?_
      refine c_get X rfl gU_X0 0 rfl 7 (by decide) rfl rfl qF_X0_26 dX0_init_81 ?_
      refine c_iload_n X 1 rfl dX0_init_84 ?_
      refine c_new X hR (ci := 1) (N := 11) rfl gU_X1 tyX1 tyX1_ok qCL_X0_24 qIn_X1 qN_X1 (fs := [.int 0, .int 0, .int 0, .int 0, .int 0, .int 0, .int 0, .int 0, .int 0, .int 0, .int 0]) (fun j hj => by rcases (show j = 0 ∨ j = 1 ∨ j = 2 ∨ j = 3 ∨ j = 4 ∨ j = 5 ∨ j = 6 ∨ j = 7 ∨ j = 8 ∨ j = 9 ∨ j = 10 by omega) with rfl | rfl | rfl | rfl | rfl | rfl | rfl | rfl | rfl | rfl | rfl <;> rfl) ⟨by show 9 + i + 1 ≤ 25; omega, by show 80 + 11 * i + 11 ≤ 256; omega⟩ dX0_init_85 (fun q => ?_)
      refine c_dup X rfl dX0_init_88 ?_
      refine c_iload_n X 1 rfl dX0_init_89 ?_
      refine c_callI X hR (As := [.int (nI i)]) (rest := [.ref q, .int (nI i), .ref q1]) qI_yX1_init qC_yX1_init qN_X1 (by decide +kernel) (k := 1) (by decide +kernel) rfl lX0_47 (cn_cart q (nI i)) rfl rfl (Nat.le_of_ble_eq_true rfl) _ (app_get _ _) ⟨Nat.le_of_ble_eq_true rfl, Nat.le_of_ble_eq_true rfl, by show 9 + i + 1 + 0 ≤ 25; omega, by show 80 + 11 * i + 11 + 0 ≤ 256; omega⟩ dX0_init_90 (fun e9 new9 h9 => ?_)
      obtain ⟨rfl, rfl⟩ := h9
      refine cG_ws (([(a, .inr (0, [.int 0, .int 0, .int 10, .int 200, .int 1, .int 1, .int 0, .ref q1, .ref q2, .ref q5, .ref q8])), (q1, .inl (B.2.2.1.2.1, 16, .inr (.inr (.inr (.inr (qf c i)))))), (q2, .inr (3, [.ref q3, .int 0, .int 0, .int 0, .int 0])), (q3, .inr (4, [.ref q4, .int 0])), (q4, .inl (B.2.2.1.1, 16, .inl (fun _ => 0))), (q5, .inr (3, [.ref q6, .int 0, .int 0, .int 0, .int 0])), (q6, .inr (4, [.ref q7, .int 0])), (q7, .inl (B.2.2.1.1, 16, .inl (fun _ => 0))), (q8, .inr (4, [.ref q9, .int 0])), (q9, .inl (B.2.2.1.1, 16, .inl (fun _ => 0)))] ++ cCarts c i) ++ [(q, cE i)]) (app_set _ _ _ _) ?_
      refine c_astq X 1 _ rfl (app_get _ _) i rfl (by omega) (by decide) dX0_init_93 ?_
      refine c_iinc X 1 rfl (nI (i + 1)) (iinc_1 _) dX0_init_94 [(1, .int (nI (i + 1))), (0, .ref a)] rfl (gnl_lt hnL (by decide)) ?_
      refine c_goto X 71 (by decide) dX0_init_97 ?_
      refine cG_L (ks := [1, 0]) (L' := [(0, .ref a), (1, .int (nI (i + 1)))]) rfl ?_
      refine cG_ws ([(a, .inr (0, [.int 0, .int 0, .int 10, .int 200, .int 1, .int 1, .int 0, .ref q1, .ref q2, .ref q5, .ref q8])), (q1, .inl (B.2.2.1.2.1, 16, .inr (.inr (.inr (.inr (qf (cSet c i q) (i + 1))))))), (q2, .inr (3, [.ref q3, .int 0, .int 0, .int 0, .int 0])), (q3, .inr (4, [.ref q4, .int 0])), (q4, .inl (B.2.2.1.1, 16, .inl (fun _ => 0))), (q5, .inr (3, [.ref q6, .int 0, .int 0, .int 0, .int 0])), (q6, .inr (4, [.ref q7, .int 0])), (q7, .inl (B.2.2.1.1, 16, .inl (fun _ => 0))), (q8, .inr (4, [.ref q9, .int 0])), (q9, .inl (B.2.2.1.1, 16, .inl (fun _ => 0)))] ++ cCarts (cSet c i q) (i + 1)) (by rw [← qf_s, ← cCarts_s, ← List.append_assoc]; rfl) ?_
      refine cG_n (9 + (i + 1), 80 + 11 * (i + 1)) (by rw [Nat.mul_succ]; rfl) ?_
      exact ih (i + 1) _ (by omega)
  exact loop 16 0 (fun _ => 0) (by omega)
end
section
/-! the class's constructor -/
/-- a bridge, as it is made -/
def pBW (B : gB) (a : Nat) (W : va_W) : Prop := ∃ qa g0 r0 a0 g1 r1 a1 r2 a2 c, W = [(a, .inr (0, [.int 0, .int 0, .int 10, .int 200, .int 1, .int 1, .int 0, .ref qa, .ref g0, .ref g1, .ref r2])), (qa, .inl (B.2.2.1.2.1, 16, .inr (.inr (.inr (.inr (qf c 16)))))), (g0, .inr (3, [.ref r0, .int 0, .int 0, .int 0, .int 0])), (r0, .inr (4, [.ref a0, .int 0])), (a0, .inl (B.2.2.1.1, 16, .inl (fun _ => 0))), (g1, .inr (3, [.ref r1, .int 0, .int 0, .int 0, .int 0])), (r1, .inr (4, [.ref a1, .int 0])), (a1, .inl (B.2.2.1.1, 16, .inl (fun _ => 0))), (r2, .inr (4, [.ref a2, .int 0])), (a2, .inl (B.2.2.1.1, 16, .inl (fun _ => 0)))] ++ cCarts c 16

abbrev rmX6_init : Room := { frames := 4, cells := 82, slots := 853, locals := 81 }
set_option maxRecDepth 20000 in
theorem cn_class {l : Launch} {B : gB} (a : Nat)  : cM l B yX6_init cX6_init 1 rmX6_init [.ref a] a (.inr (5, [.null, .null, .null, .null, .null])) (fun e1 new => ∃ cd s1 s2 fg b0 b1 b2 W0 W1 W2, (a, e1) :: new = ((([(a, .inr (5, [.ref cd, .ref fg, .ref b0, .ref b1, .ref b2])), (cd, .inr (2, [.ref s1, .ref s2, .int 0])), (s1, .inl (B.2.2.1.1, 8, .inl (fun _ => 0))), (s2, .inl (B.2.2.1.1, 21, .inl (fun _ => 0))), (fg, .inl (B.2.2.1.1, 20, .inl (fun _ => 0)))] ++ W0) ++ W1) ++ W2) ∧ pBW B b0 W0 ∧ pBW B b1 W1 ∧ pBW B b2 W2) := by
  refine cM_of (own := RX6) (L := [(0, .ref a)]) (by decide +kernel) rfl rfl (Nat.le_of_ble_eq_true rfl) rfl ?_
  intro Z hnL hR X hN F
  refine c_aload_n X 0 rfl dX6_init_0 ?_
  refine c_objInit X hR qL_X6_1 ⟨Nat.le_of_ble_eq_true rfl, Nat.le_of_ble_eq_true rfl⟩ (Nat.le_of_ble_eq_true rfl) dX6_init_1 ?_
  refine c_aload_n X 0 rfl dX6_init_4 ?_
  refine c_new X hR (ci := 2) (N := 3) rfl gU_X2 tyX2 tyX2_ok qCL_X6_7 qIn_X2 qN_X2 (fs := [.null, .null, .int 0]) (fun j hj => by rcases (show j = 0 ∨ j = 1 ∨ j = 2 by omega) with rfl | rfl | rfl <;> rfl) ⟨Nat.le_of_ble_eq_true rfl, Nat.le_of_ble_eq_true rfl⟩ dX6_init_5 (fun q1 => ?_)
  refine cG_n (1, 3) rfl ?_
  refine cG_ws [(a, .inr (5, [.null, .null, .null, .null, .null])), (q1, .inr (2, [.null, .null, .int 0]))] rfl ?_
  refine c_dup X rfl dX6_init_8 ?_
  refine c_callI X hR (As := []) (rest := [.ref q1, .ref a]) qI_yX2_init qC_yX2_init qN_X2 (by decide +kernel) (k := 0) (by decide +kernel) rfl lX6_9 (cn_code q1 ) rfl rfl (Nat.le_of_ble_eq_true rfl) 1 rfl ⟨Nat.le_of_ble_eq_true rfl, Nat.le_of_ble_eq_true rfl, Nat.le_of_ble_eq_true rfl, Nat.le_of_ble_eq_true rfl⟩ dX6_init_9 (fun e9 new9 h9 => ?_)
  obtain ⟨q2, q3, rfl, rfl⟩ := h9
  refine cG_n (3, 32) rfl ?_
  refine cG_ws [(a, .inr (5, [.null, .null, .null, .null, .null])), (q1, .inr (2, [.ref q2, .ref q3, .int 0])), (q2, .inl (B.2.2.1.1, 8, .inl (fun _ => 0))), (q3, .inl (B.2.2.1.1, 21, .inl (fun _ => 0)))] rfl ?_
  refine c_putF X hN rfl gU_X6 tyX6 tyX6_ok nmX6 0 rfl 0 (by decide) rfl rfl (tyX6_ok 0 (by decide)) rfl rfl (Nat.le_of_ble_eq_true rfl) qF_X6_10 dX6_init_12 ?_
  refine cG_ws [(a, .inr (5, [.ref q1, .null, .null, .null, .null])), (q1, .inr (2, [.ref q2, .ref q3, .int 0])), (q2, .inl (B.2.2.1.1, 8, .inl (fun _ => 0))), (q3, .inl (B.2.2.1.1, 21, .inl (fun _ => 0)))] rfl ?_
  refine c_aload_n X 0 rfl dX6_init_15 ?_
  refine c_bipush X 20 (by decide) dX6_init_16 ?_
  refine c_newI X hR 20 rfl (by decide) ⟨Nat.le_of_ble_eq_true rfl, Nat.le_of_ble_eq_true rfl⟩ dX6_init_18 (fun q4 => ?_)
  refine cG_n (4, 52) rfl ?_
  refine cG_ws [(a, .inr (5, [.ref q1, .null, .null, .null, .null])), (q1, .inr (2, [.ref q2, .ref q3, .int 0])), (q2, .inl (B.2.2.1.1, 8, .inl (fun _ => 0))), (q3, .inl (B.2.2.1.1, 21, .inl (fun _ => 0))), (q4, .inl (B.2.2.1.1, 20, .inl (fun _ => 0)))] rfl ?_
  refine c_putF X hN rfl gU_X6 tyX6 tyX6_ok nmX6 0 rfl 1 (by decide) rfl rfl (tyX6_ok 1 (by decide)) rfl rfl (Nat.le_of_ble_eq_true rfl) qF_X6_16 dX6_init_20 ?_
  refine cG_ws [(a, .inr (5, [.ref q1, .ref q4, .null, .null, .null])), (q1, .inr (2, [.ref q2, .ref q3, .int 0])), (q2, .inl (B.2.2.1.1, 8, .inl (fun _ => 0))), (q3, .inl (B.2.2.1.1, 21, .inl (fun _ => 0))), (q4, .inl (B.2.2.1.1, 20, .inl (fun _ => 0)))] rfl ?_
  refine c_aload_n X 0 rfl dX6_init_23 ?_
  refine c_new X hR (ci := 0) (N := 11) rfl gU_X0 tyX0 tyX0_ok qCL_X6_20 qIn_X0 qN_X0 (fs := [.int 0, .int 0, .int 0, .int 0, .int 0, .int 0, .int 0, .null, .null, .null, .null]) (fun j hj => by rcases (show j = 0 ∨ j = 1 ∨ j = 2 ∨ j = 3 ∨ j = 4 ∨ j = 5 ∨ j = 6 ∨ j = 7 ∨ j = 8 ∨ j = 9 ∨ j = 10 by omega) with rfl | rfl | rfl | rfl | rfl | rfl | rfl | rfl | rfl | rfl | rfl <;> rfl) ⟨Nat.le_of_ble_eq_true rfl, Nat.le_of_ble_eq_true rfl⟩ dX6_init_24 (fun b0 => ?_)
  refine cG_n (5, 63) rfl ?_
  refine c_dup X rfl dX6_init_27 ?_
  refine c_callI X hR (As := []) (rest := [.ref b0, .ref a]) qI_yX0_init qC_yX0_init qN_X0 (by decide +kernel) (k := 0) (by decide +kernel) rfl lX6_22 (cn_bridge b0) rfl rfl (Nat.le_of_ble_eq_true rfl) _ (app_get _ _) ⟨Nat.le_of_ble_eq_true rfl, Nat.le_of_ble_eq_true rfl, Nat.le_of_ble_eq_true rfl, Nat.le_of_ble_eq_true rfl⟩ dX6_init_28 (fun e9 new9 h9 => ?_)
  obtain ⟨W0, hW0⟩ : ∃ W : va_W, W = (b0, e9) :: new9 := ⟨_, rfl⟩
  have hB0 : pBW B b0 W0 := by rw [hW0]; exact h9
  refine cG_n (30, 319) rfl ?_
  refine cG_ws ([(a, .inr (5, [.ref q1, .ref q4, .null, .null, .null])), (q1, .inr (2, [.ref q2, .ref q3, .int 0])), (q2, .inl (B.2.2.1.1, 8, .inl (fun _ => 0))), (q3, .inl (B.2.2.1.1, 21, .inl (fun _ => 0))), (q4, .inl (B.2.2.1.1, 20, .inl (fun _ => 0)))] ++ W0) ((app_set _ _ _ _).trans (by rw [hW0])) ?_
  refine c_putF X hN rfl gU_X6 tyX6 tyX6_ok nmX6 0 rfl 2 (by decide) rfl rfl (tyX6_ok 2 (by decide)) rfl rfl (Nat.le_of_ble_eq_true rfl) qF_X6_23 dX6_init_31 ?_
  refine cG_ws ([(a, .inr (5, [.ref q1, .ref q4, .ref b0, .null, .null])), (q1, .inr (2, [.ref q2, .ref q3, .int 0])), (q2, .inl (B.2.2.1.1, 8, .inl (fun _ => 0))), (q3, .inl (B.2.2.1.1, 21, .inl (fun _ => 0))), (q4, .inl (B.2.2.1.1, 20, .inl (fun _ => 0)))] ++ W0) rfl ?_
  refine c_aload_n X 0 rfl dX6_init_34 ?_
  refine c_new X hR (ci := 0) (N := 11) rfl gU_X0 tyX0 tyX0_ok qCL_X6_20 qIn_X0 qN_X0 (fs := [.int 0, .int 0, .int 0, .int 0, .int 0, .int 0, .int 0, .null, .null, .null, .null]) (fun j hj => by rcases (show j = 0 ∨ j = 1 ∨ j = 2 ∨ j = 3 ∨ j = 4 ∨ j = 5 ∨ j = 6 ∨ j = 7 ∨ j = 8 ∨ j = 9 ∨ j = 10 by omega) with rfl | rfl | rfl | rfl | rfl | rfl | rfl | rfl | rfl | rfl | rfl <;> rfl) ⟨Nat.le_of_ble_eq_true rfl, Nat.le_of_ble_eq_true rfl⟩ dX6_init_35 (fun b1 => ?_)
  refine cG_n (31, 330) rfl ?_
  refine c_dup X rfl dX6_init_38 ?_
  refine c_callI X hR (As := []) (rest := [.ref b1, .ref a]) qI_yX0_init qC_yX0_init qN_X0 (by decide +kernel) (k := 0) (by decide +kernel) rfl lX6_22 (cn_bridge b1) rfl rfl (Nat.le_of_ble_eq_true rfl) _ (app_get _ _) ⟨Nat.le_of_ble_eq_true rfl, Nat.le_of_ble_eq_true rfl, Nat.le_of_ble_eq_true rfl, Nat.le_of_ble_eq_true rfl⟩ dX6_init_39 (fun e9 new9 h9 => ?_)
  obtain ⟨W1, hW1⟩ : ∃ W : va_W, W = (b1, e9) :: new9 := ⟨_, rfl⟩
  have hB1 : pBW B b1 W1 := by rw [hW1]; exact h9
  refine cG_n (56, 586) rfl ?_
  refine cG_ws (([(a, .inr (5, [.ref q1, .ref q4, .ref b0, .null, .null])), (q1, .inr (2, [.ref q2, .ref q3, .int 0])), (q2, .inl (B.2.2.1.1, 8, .inl (fun _ => 0))), (q3, .inl (B.2.2.1.1, 21, .inl (fun _ => 0))), (q4, .inl (B.2.2.1.1, 20, .inl (fun _ => 0)))] ++ W0) ++ W1) ((app_set _ _ _ _).trans (by rw [hW1])) ?_
  refine c_putF X hN rfl gU_X6 tyX6 tyX6_ok nmX6 0 rfl 3 (by decide) rfl rfl (tyX6_ok 3 (by decide)) rfl rfl (Nat.le_of_ble_eq_true rfl) qF_X6_27 dX6_init_42 ?_
  refine cG_ws (([(a, .inr (5, [.ref q1, .ref q4, .ref b0, .ref b1, .null])), (q1, .inr (2, [.ref q2, .ref q3, .int 0])), (q2, .inl (B.2.2.1.1, 8, .inl (fun _ => 0))), (q3, .inl (B.2.2.1.1, 21, .inl (fun _ => 0))), (q4, .inl (B.2.2.1.1, 20, .inl (fun _ => 0)))] ++ W0) ++ W1) rfl ?_
  refine c_aload_n X 0 rfl dX6_init_45 ?_
  refine c_new X hR (ci := 0) (N := 11) rfl gU_X0 tyX0 tyX0_ok qCL_X6_20 qIn_X0 qN_X0 (fs := [.int 0, .int 0, .int 0, .int 0, .int 0, .int 0, .int 0, .null, .null, .null, .null]) (fun j hj => by rcases (show j = 0 ∨ j = 1 ∨ j = 2 ∨ j = 3 ∨ j = 4 ∨ j = 5 ∨ j = 6 ∨ j = 7 ∨ j = 8 ∨ j = 9 ∨ j = 10 by omega) with rfl | rfl | rfl | rfl | rfl | rfl | rfl | rfl | rfl | rfl | rfl <;> rfl) ⟨Nat.le_of_ble_eq_true rfl, Nat.le_of_ble_eq_true rfl⟩ dX6_init_46 (fun b2 => ?_)
  refine cG_n (57, 597) rfl ?_
  refine c_dup X rfl dX6_init_49 ?_
  refine c_callI X hR (As := []) (rest := [.ref b2, .ref a]) qI_yX0_init qC_yX0_init qN_X0 (by decide +kernel) (k := 0) (by decide +kernel) rfl lX6_22 (cn_bridge b2) rfl rfl (Nat.le_of_ble_eq_true rfl) _ (app_get _ _) ⟨Nat.le_of_ble_eq_true rfl, Nat.le_of_ble_eq_true rfl, Nat.le_of_ble_eq_true rfl, Nat.le_of_ble_eq_true rfl⟩ dX6_init_50 (fun e9 new9 h9 => ?_)
  obtain ⟨W2, hW2⟩ : ∃ W : va_W, W = (b2, e9) :: new9 := ⟨_, rfl⟩
  have hB2 : pBW B b2 W2 := by rw [hW2]; exact h9
  refine cG_n (82, 853) rfl ?_
  refine cG_ws ((([(a, .inr (5, [.ref q1, .ref q4, .ref b0, .ref b1, .null])), (q1, .inr (2, [.ref q2, .ref q3, .int 0])), (q2, .inl (B.2.2.1.1, 8, .inl (fun _ => 0))), (q3, .inl (B.2.2.1.1, 21, .inl (fun _ => 0))), (q4, .inl (B.2.2.1.1, 20, .inl (fun _ => 0)))] ++ W0) ++ W1) ++ W2) ((app_set _ _ _ _).trans (by rw [hW2])) ?_
  refine c_putF X hN rfl gU_X6 tyX6 tyX6_ok nmX6 0 rfl 4 (by decide) rfl rfl (tyX6_ok 4 (by decide)) rfl rfl (Nat.le_of_ble_eq_true rfl) qF_X6_30 dX6_init_53 ?_
  refine cG_ws ((([(a, .inr (5, [.ref q1, .ref q4, .ref b0, .ref b1, .ref b2])), (q1, .inr (2, [.ref q2, .ref q3, .int 0])), (q2, .inl (B.2.2.1.1, 8, .inl (fun _ => 0))), (q3, .inl (B.2.2.1.1, 21, .inl (fun _ => 0))), (q4, .inl (B.2.2.1.1, 20, .inl (fun _ => 0)))] ++ W0) ++ W1) ++ W2) rfl ?_
  exact c_ret (e1 := .inr (5, [.ref q1, .ref q4, .ref b0, .ref b1, .ref b2])) (new := ((([(q1, .inr (2, [.ref q2, .ref q3, .int 0])), (q2, .inl (B.2.2.1.1, 8, .inl (fun _ => 0))), (q3, .inl (B.2.2.1.1, 21, .inl (fun _ => 0))), (q4, .inl (B.2.2.1.1, 20, .inl (fun _ => 0)))] ++ W0) ++ W1) ++ W2)) X F rfl ⟨q1, q2, q3, q4, b0, b1, b2, W0, W1, W2, rfl, hB0, hB1, hB2⟩ rfl dX6_init_56
end
section
/-! WHAT THE LAW'S RUN KEEPS: pure facts of S -/
def sumN (f : Nat → Nat) : Nat → Nat
  | 0 => 0
  | n + 1 => sumN f n + f n
theorem sumN_congr {f g : Nat → Nat} : ∀ n, (∀ i, i < n → f i = g i) → sumN f n = sumN g n
  | 0, _ => rfl
  | n + 1, h => by
    unfold sumN
    rw [sumN_congr n (fun i hi => h i (by omega)), h n (by omega)]
theorem sumN_le {f : Nat → Nat} {b : Nat} : ∀ n, (∀ i, i < n → f i ≤ b) → sumN f n ≤ n * b
  | 0, _ => Nat.zero_le _
  | n + 1, h => by
    unfold sumN
    have h1 := sumN_le n (fun i hi => h i (by omega))
    have h2 := h n (by omega)
    rw [Nat.succ_mul]
    omega
theorem sumN_set {f g : Nat → Nat} {i : Nat} (hs : ∀ j, j ≠ i → g j = f j) : ∀ n, i < n → sumN g n + f i = sumN f n + g i
  | 0, h => by omega
  | n + 1, h => by
    unfold sumN
    by_cases hn : i = n
    · subst hn
      rw [sumN_congr (f := g) (g := f) i (fun j hj => hs j (by omega))]
      omega
    · have h1 := sumN_set hs n (by omega)
      have h2 := hs n (fun q => hn q.symm)
      omega
theorem sum_erase {f : Nat → Nat} {a : Nat} : ∀ {l : List Nat}, a ∈ l → (l.map f).sum = f a + ((l.erase a).map f).sum
  | [], h => absurd h List.not_mem_nil
  | b :: t, h => by
    by_cases hb : b = a
    · subst hb
      simp
    · have ht : a ∈ t := by
        rcases List.mem_cons.mp h with q | q
        · exact absurd q.symm hb
        · exact q
      have he : (b :: t).erase a = b :: t.erase a := by simp [hb]
      rw [he, List.map_cons, List.sum_cons, List.map_cons, List.sum_cons, sum_erase ht]
      omega
theorem sum_cnt {p : Nat → Bool} {f : Nat → Nat} : ∀ (n : Nat) {l : List Nat}, l.Nodup → (∀ i, i ∈ l ↔ (i < n ∧ p i = true)) → (l.map f).sum = sumN (fun i => if p i = true then f i else 0) n
  | 0, l, hn, h => by
    cases l with
    | nil => rfl
    | cons a l => exact absurd ((h a).mp List.mem_cons_self).1 (Nat.not_lt_zero _)
  | n + 1, l, hn, h => by
    unfold sumN
    by_cases hp : p n = true
    · have hm : n ∈ l := (h n).mpr ⟨Nat.lt_succ_self n, hp⟩
      have h1 := sum_cnt (f := f) n (l := l.erase n) (hn.erase n) (fun i => by
        rw [List.Nodup.mem_erase_iff hn, h i]
        constructor
        · rintro ⟨a, c, d⟩; exact ⟨by omega, d⟩
        · rintro ⟨a, c⟩; exact ⟨by omega, by omega, c⟩)
      rw [if_pos hp, sum_erase hm, h1]
      omega
    · rw [if_neg hp, Nat.add_zero]
      refine sum_cnt n hn (fun i => ?_)
      rw [h i]
      constructor
      · rintro ⟨a, c⟩
        have : i ≠ n := fun q => hp (q ▸ c)
        exact ⟨by omega, c⟩
      · rintro ⟨a, c⟩; exact ⟨by omega, c⟩
theorem sub_sum {f : Nat → Nat} : ∀ {l1 l2 : List Nat}, l1.Sublist l2 → (l1.map f).sum ≤ (l2.map f).sum := by
  intro l1 l2 h
  induction h with
  | slnil => exact Nat.le_refl _
  | cons a _ ih => rw [List.map_cons, List.sum_cons]; omega
  | cons_cons a _ ih => rw [List.map_cons, List.sum_cons, List.map_cons, List.sum_cons]; omega
theorem map_sum_congr {f g : Nat → Nat} : ∀ {l : List Nat}, (∀ i ∈ l, f i = g i) → (l.map f).sum = (l.map g).sum
  | [], _ => rfl
  | a :: l, h => by
    rw [List.map_cons, List.sum_cons, List.map_cons, List.sum_cons, h a List.mem_cons_self, map_sum_congr (fun i hi => h i (List.mem_cons_of_mem _ hi))]
/-- what moving leaves as it is -/
theorem mv_same {S : gSt} (h : WF S) : (sMove S).1.1 = S.1 ∧ (sMove S).1.2.2.1 = S.2.2.1 ∧ (∀ i k, k ≠ 8 → k ≠ 9 → (sMove S).1.2.2.2.1 i k = S.2.2.2.1 i k) ∧ (∀ i, (sMove S).1.2.2.2.1 i 8 ≠ 2 → (sMove S).1.2.2.2.2 i = S.2.2.2.2 i ∧ S.2.2.2.1 i 8 ≠ 2) ∧ (∀ i, (sMove S).1.2.2.2.1 i 8 = 3 ↔ S.2.2.2.1 i 8 = 3) ∧ ((sMove S).1.2.1 2).Sublist (S.2.1 2) := by
  have refl : S.1 = S.1 ∧ S.2.2.1 = S.2.2.1 ∧ (∀ i k, k ≠ 8 → k ≠ 9 → S.2.2.2.1 i k = S.2.2.2.1 i k) ∧ (∀ i, S.2.2.2.1 i 8 ≠ 2 → S.2.2.2.2 i = S.2.2.2.2 i ∧ S.2.2.2.1 i 8 ≠ 2) ∧ (∀ i, S.2.2.2.1 i 8 = 3 ↔ S.2.2.2.1 i 8 = 3) ∧ (S.2.1 2).Sublist (S.2.1 2) := ⟨rfl, rfl, fun _ _ _ _ => rfl, fun _ q => ⟨rfl, q⟩, fun _ => Iff.rfl, List.Sublist.refl _⟩
  unfold sMove
  split
  · exact refl
  · split
    · obtain ⟨a1, a2, a3, a4, a5⟩ := goOnL_same (S.1 2) (S.1 0) (S.2.1 2) (S.1 2 + 4) S
      obtain ⟨b0, b1, b2, b3⟩ := goOnL_spec (S.1 2) (S.1 0) (S.2.1 2) (S.1 2 + 4) S h.2.2.2.1 (fun i hi => by have := h.2.2.2.2.2.1 i hi; omega)
      unfold sGoOn
      generalize goOnL (S.1 2) (S.1 0) (S.2.1 2) (S.1 2 + 4) S = r at *
      have hcase : ∀ i, (r.1.2.2.2.1 i 8 = 2 ∧ S.2.2.2.1 i 8 = 1) ∨ (r.1.2.2.2.1 i 8 = S.2.2.2.1 i 8 ∧ r.1.2.2.2.2 i = S.2.2.2.2 i) := by
        intro i
        by_cases hi : i ∈ S.2.1 2
        · have hm := hi
          rw [← List.take_append_drop r.2 (S.2.1 2)] at hm
          rcases List.mem_append.mp hm with q | q
          · exact Or.inl ⟨(b1 i q).1, ((h.2.2.2.2.1 i).mp hi).2⟩
          · exact Or.inr ⟨(b2 i q).1, (b2 i q).2.1⟩
        · exact Or.inr ⟨(a5 i hi).1 8, (a5 i hi).2⟩
      refine ⟨a1, a3, a4, fun i h2 => ?_, fun i => ?_, ?_⟩
      · have h2 : r.1.2.2.2.1 i 8 ≠ 2 := h2
        rcases hcase i with q | q
        · exact absurd q.1 h2
        · exact ⟨q.2, by rw [← q.1]; exact h2⟩
      · show r.1.2.2.2.1 i 8 = 3 ↔ _
        rcases hcase i with q | q
        · omega
        · rw [q.1]
      · show ((S.2.1 2).drop r.2).Sublist (S.2.1 2)
        exact List.drop_sublist _ _
    · rcases List.eq_nil_or_concat (S.2.1 2) with hq | ⟨ys, l, hq⟩
      · unfold sGoBack
        rw [hq]
        refine ⟨rfl, rfl, fun _ _ _ _ => rfl, fun _ q => ⟨rfl, q⟩, fun _ => Iff.rfl, ?_⟩
        show (S.2.1 2).Sublist []
        rw [hq]
        exact List.Sublist.refl _
      · have hq : S.2.1 2 = ys ++ [l] := hq.trans (List.concat_eq_append ..)
        have hrev : (S.2.1 2).reverse = l :: ys.reverse := by rw [hq]; simp
        have hl8 : S.2.2.2.1 l 8 = 1 := ((h.2.2.2.2.1 l).mp (by rw [hq]; simp)).2
        have hn := nodup_rev h.ne
        rw [hrev] at hn
        unfold sGoBack
        rw [hrev]
        simp only []
        split
        · obtain ⟨a1, a2, a3, a4, a5, -, -⟩ := backL_spec ys.reverse (sLeave S l ys.reverse.reverse) (List.nodup_cons.mp hn).2
          rw [List.reverse_reverse] at *
          generalize backL ys.reverse (sLeave S l ys) = r at *
          rw [sLeave_eq] at *
          have e8 : ∀ i, r.2.2.2.1 i 8 = if i = l then 0 else S.2.2.2.1 i 8 := fun i => by
            rw [a5 i 8 (by decide)]
            simp [sQ, sC]
          refine ⟨a1, a3, fun i k h8 h9 => ?_, fun i h2 => ?_, fun i => ?_, ?_⟩
          · rw [a5 i k h9]
            simp [sQ, sC, h8]
          · rw [a4]
            refine ⟨rfl, fun q => ?_⟩
            rw [e8] at h2
            split at h2
            · rename_i hil; rw [hil] at q; omega
            · exact h2 q
          · rw [e8]
            split
            · rename_i hil; rw [hil]; omega
            · rfl
          · rw [a2]
            show List.Sublist ys (S.2.1 2)
            rw [hq]
            exact List.sublist_append_left _ _
        · obtain ⟨a1, a2, a3, a4, a5, -, -⟩ := backL_spec (l :: ys.reverse) S hn
          exact ⟨a1, a3, fun i k _ h9 => a5 i k h9, fun i h2 => ⟨by rw [a4], by rw [← a5 i 8 (by decide)]; exact h2⟩, fun i => by rw [a5 i 8 (by decide)], by rw [a2]; exact List.Sublist.refl _⟩
theorem sPay_g (S : gSt) (e i : Nat) : (∀ x k, x ≠ e → (sPay S e i).2.2.1 x k = S.2.2.1 x k) ∧ (sPay S e i).2.2.1 e 1 = S.2.2.1 e 1 + sDue S i ∧ (sPay S e i).2.2.1 e 2 = S.2.2.1 e 2 + 1 ∧ (sPay S e i).2.2.1 e 3 = S.2.2.1 e 3 + S.2.2.2.1 i 2 ∧ (sPay S e i).2.2.1 e 4 = S.2.2.1 e 4 + (sToll S (S.2.2.2.1 i 2) (S.2.2.2.1 i 3) - sDue S i) := by
  refine ⟨fun x k hx => ?_, ?_, ?_, ?_, ?_⟩ <;> simp [sPay, sTake, sG, sC, *]
/-- what the law's run keeps: coins as they were at first (c0), coins that were taken out of the boxes -/
def LI (c0 : Nat → Nat) (tk : Nat) (S : gSt) : Prop :=
  (∀ i, i < S.1 6 → S.2.2.2.1 i 8 ≠ 2 → S.2.2.2.2 i = -1) ∧
  (∀ i, i < S.1 6 → S.2.2.2.1 i 5 ≤ c0 i ∧ (S.2.2.2.1 i 7 = 0 → S.2.2.2.1 i 5 = c0 i) ∧ (S.2.2.2.1 i 8 = 3 → S.2.2.2.1 i 7 = 0)) ∧
  sumN (fun i => S.2.2.2.1 i 5) (S.1 6) + tk + S.2.2.1 0 1 + S.2.2.1 1 1 = sumN c0 (S.1 6) ∧
  (∀ e, e < 2 → S.2.2.1 e 2 = cntF (fun i => decide (S.2.2.2.1 i 7 = 1) && decide (S.2.2.2.1 i 1 = e)) (S.1 6) ∧ S.2.2.1 e 2 ≤ S.2.2.1 e 3 ∧ S.2.2.1 e 3 ≤ 4 * S.2.2.1 e 2 ∧ S.2.2.1 e 4 ≤ 27 * S.2.2.1 e 2) ∧
  sW S ≤ S.1 3
theorem LI.move {S : gSt} {c0 : Nat → Nat} {tk : Nat} (hw : WF S) (h : LI c0 tk S) : LI c0 tk (sMove S).1 := by
  obtain ⟨a1, a2, a3, a4, a5, a6⟩ := mv_same hw
  obtain ⟨h1, h2, h3, h4, h5⟩ := h
  generalize (sMove S).1 = T at *
  refine ⟨fun i hi hs => ?_, fun i hi => ?_, ?_, fun e he => ?_, ?_⟩
  · rw [a1] at hi
    rw [(a4 i hs).1]
    exact h1 i hi (a4 i hs).2
  · rw [a1] at hi
    rw [a3 i 5 (by decide) (by decide), a3 i 7 (by decide) (by decide), a5 i]
    exact h2 i hi
  · rw [a1, a2, sumN_congr (g := fun i => S.2.2.2.1 i 5) _ (fun i _ => a3 i 5 (by decide) (by decide))]
    exact h3
  · rw [a1, a2, cntF_congr (g := fun i => decide (S.2.2.2.1 i 7 = 1) && decide (S.2.2.2.1 i 1 = e)) _ (fun i _ => by rw [a3 i 7 (by decide) (by decide), a3 i 1 (by decide) (by decide)])]
    exact h4 e he
  · rw [a1]
    unfold sW
    rw [map_sum_congr (g := fun i => S.2.2.2.1 i 3) (fun i _ => a3 i 3 (by decide) (by decide))]
    exact Nat.le_trans (sub_sum a6) h5
/-- how coming on goes: nothing; the first one is away; it has paid, and is on; it pays, and is on -/
theorem cm_cases {S : gSt} (hw : WF S) : sCome S = S ∨ ∃ i ys, S.2.1 (S.1 1) = i :: ys ∧ i < S.1 6 ∧ S.2.2.2.1 i 8 = 0 ∧ S.2.2.2.1 i 1 = S.1 1 ∧ sW S + S.2.2.2.1 i 3 ≤ S.1 3 ∧
    ((S.2.2.2.1 i 7 = 0 ∧ sCome S = sC (sQ S (S.1 1) ys) i 8 3) ∨
     (S.2.2.2.1 i 7 ≠ 0 ∧ sCome S = sQ (sC (sC (sQ S (S.1 1) ys) i 8 1) i 9 0) 2 (S.2.1 2 ++ [i])) ∨
     (S.2.2.2.1 i 7 = 0 ∧ sDue S i ≤ S.2.2.2.1 i 5 ∧ sCome S = sQ (sC (sC (sPay (sQ S (S.1 1) ys) (S.1 1) i) i 8 1) i 9 0) 2 (S.2.1 2 ++ [i]))) := by
  have hd : S.1 1 < 2 := by have := hw.1.1; omega
  cases hq : S.2.1 (S.1 1) with
  | nil => exact Or.inl (sCome_nil hq)
  | cons i ys =>
    obtain ⟨hi, hst, hend⟩ := hw.qmem hd (by rw [hq]; exact List.mem_cons_self)
    by_cases hroom : sRoom S i = true
    · refine Or.inr ⟨i, ys, rfl, hi, hst, hend, ?_, ?_⟩
      · unfold sRoom at hroom
        simp only [Bool.and_eq_true, decide_eq_true_eq] at hroom
        exact hroom.2
      · have hS := sCome_eq hq hroom
        have h2 : (sQ S (S.1 1) ys).2.1 2 = S.2.1 2 := if_neg (by omega)
        by_cases hp : S.2.2.2.1 i 7 = 0
        · by_cases hc : S.2.2.2.1 i 5 < sDue S i
          · rw [if_pos (show (sQ S (S.1 1) ys).2.2.2.1 i 7 = 0 ∧ (sQ S (S.1 1) ys).2.2.2.1 i 5 < sDue (sQ S (S.1 1) ys) i from ⟨hp, hc⟩)] at hS
            exact Or.inl ⟨hp, hS⟩
          · rw [if_neg (show ¬ ((sQ S (S.1 1) ys).2.2.2.1 i 7 = 0 ∧ (sQ S (S.1 1) ys).2.2.2.1 i 5 < sDue (sQ S (S.1 1) ys) i) from fun q => hc q.2), if_pos (show (sQ S (S.1 1) ys).2.2.2.1 i 7 = 0 from hp)] at hS
            refine Or.inr (Or.inr ⟨hp, by omega, hS.trans ?_⟩)
            obtain ⟨-, -, -, -, -, -, p7⟩ := sPay_c (sQ S (S.1 1) ys) (S.1 1) i
            rw [show (sC (sC (sPay (sQ S (S.1 1) ys) (S.1 1) i) i 8 1) i 9 0).2.1 2 = S.2.1 2 from by rw [show (sC (sC (sPay (sQ S (S.1 1) ys) (S.1 1) i) i 8 1) i 9 0).2.1 = (sPay (sQ S (S.1 1) ys) (S.1 1) i).2.1 from rfl, p7]; exact h2]
        · rw [if_neg (show ¬ ((sQ S (S.1 1) ys).2.2.2.1 i 7 = 0 ∧ (sQ S (S.1 1) ys).2.2.2.1 i 5 < sDue (sQ S (S.1 1) ys) i) from fun q => hp q.1), if_neg (show ¬ (sQ S (S.1 1) ys).2.2.2.1 i 7 = 0 from hp)] at hS
          refine Or.inr (Or.inl ⟨hp, hS.trans ?_⟩)
          rw [show (sC (sC (sQ S (S.1 1) ys) i 8 1) i 9 0).2.1 2 = S.2.1 2 from h2]
    · exact Or.inl (sCome_no hq (by simpa using hroom))
theorem kept_27 {S : gSt} {i : Nat} (hn : sNumOk S) (hc : sCartOk S i) : sToll S (S.2.2.2.1 i 2) (S.2.2.2.1 i 3) - sDue S i ≤ 27 := by
  unfold sDue
  split
  · omega
  · unfold sToll
    have h1 : (S.2.2.2.1 i 2) * S.1 4 ≤ (3 + 1) * S.1 4 := Nat.mul_le_mul_right _ (by have := hc.2.1.2; omega)
    have h2 := hn.2.2.2.1
    rw [Nat.succ_mul] at h1
    omega
theorem LI.come {S : gSt} {c0 : Nat → Nat} {tk : Nat} (hw : WF S) (h : LI c0 tk S) : LI c0 tk (sCome S) := by
  rcases cm_cases hw with e | ⟨i, ys, hq, hi, h8, hend, hroom, hcase⟩
  · rw [e]; exact h
  · have hd : S.1 1 < 2 := by have := hw.1.1; omega
    have hci := hw.2.1 i hi
    have hni : i ∉ S.2.1 2 := fun q => by have := ((hw.2.2.2.2.1 i).mp q).2; omega
    obtain ⟨h1, h2, h3, h4, h5⟩ := h
    rcases hcase with ⟨h7, e⟩ | ⟨h7, e⟩ | ⟨h7, hdue, e⟩
    · rw [e]
      have ek : ∀ j k, k ≠ 8 → (sC (sQ S (S.1 1) ys) i 8 3).2.2.2.1 j k = S.2.2.2.1 j k := fun j k hk => by simp [sC, sQ, hk]
      have e8 : ∀ j, (sC (sQ S (S.1 1) ys) i 8 3).2.2.2.1 j 8 = if j = i then 3 else S.2.2.2.1 j 8 := fun j => by simp [sC, sQ]
      refine ⟨fun j hj hs => ?_, fun j hj => ?_, ?_, fun x hx => ?_, ?_⟩
      · refine h1 j hj (fun q => hs ?_)
        rw [e8, if_neg (fun z => by rw [z] at q; omega)]
        exact q
      · rw [ek j 5 (by decide), ek j 7 (by decide), e8]
        refine ⟨(h2 j hj).1, (h2 j hj).2.1, fun q => ?_⟩
        by_cases hji : j = i
        · rw [hji]; exact h7
        · rw [if_neg hji] at q; exact (h2 j hj).2.2 q
      · show sumN (fun j => (sC (sQ S (S.1 1) ys) i 8 3).2.2.2.1 j 5) (S.1 6) + tk + S.2.2.1 0 1 + S.2.2.1 1 1 = _
        rw [sumN_congr (g := fun j => S.2.2.2.1 j 5) _ (fun j _ => ek j 5 (by decide))]
        exact h3
      · have := h4 x hx
        show S.2.2.1 x 2 = cntF (fun j => decide ((sC (sQ S (S.1 1) ys) i 8 3).2.2.2.1 j 7 = 1) && decide ((sC (sQ S (S.1 1) ys) i 8 3).2.2.2.1 j 1 = x)) (S.1 6) ∧ _
        rw [cntF_congr (g := fun j => decide (S.2.2.2.1 j 7 = 1) && decide (S.2.2.2.1 j 1 = x)) _ (fun j _ => by rw [ek j 7 (by decide), ek j 1 (by decide)])]
        exact this
      · show ((if 2 = S.1 1 then ys else S.2.1 2).map _).sum ≤ S.1 3
        rw [if_neg (by omega), map_sum_congr (g := fun j => S.2.2.2.1 j 3) (fun j _ => ek j 3 (by decide))]
        exact h5
    · rw [e]
      have ek : ∀ j k, k ≠ 8 → k ≠ 9 → (sQ (sC (sC (sQ S (S.1 1) ys) i 8 1) i 9 0) 2 (S.2.1 2 ++ [i])).2.2.2.1 j k = S.2.2.2.1 j k := fun j k hk hk2 => by simp [sC, sQ, hk, hk2]
      have e8 : ∀ j, (sQ (sC (sC (sQ S (S.1 1) ys) i 8 1) i 9 0) 2 (S.2.1 2 ++ [i])).2.2.2.1 j 8 = if j = i then 1 else S.2.2.2.1 j 8 := fun j => by simp [sC, sQ]
      refine ⟨fun j hj hs => ?_, fun j hj => ?_, ?_, fun x hx => ?_, ?_⟩
      · refine h1 j hj (fun q => hs ?_)
        rw [e8, if_neg (fun z => by rw [z] at q; omega)]
        exact q
      · rw [ek j 5 (by decide) (by decide), ek j 7 (by decide) (by decide), e8]
        refine ⟨(h2 j hj).1, (h2 j hj).2.1, fun q => ?_⟩
        by_cases hji : j = i
        · rw [if_pos hji] at q; omega
        · rw [if_neg hji] at q; exact (h2 j hj).2.2 q
      · show sumN (fun j => (sQ (sC (sC (sQ S (S.1 1) ys) i 8 1) i 9 0) 2 (S.2.1 2 ++ [i])).2.2.2.1 j 5) (S.1 6) + tk + S.2.2.1 0 1 + S.2.2.1 1 1 = _
        rw [sumN_congr (g := fun j => S.2.2.2.1 j 5) _ (fun j _ => ek j 5 (by decide) (by decide))]
        exact h3
      · have := h4 x hx
        show S.2.2.1 x 2 = cntF (fun j => decide ((sQ (sC (sC (sQ S (S.1 1) ys) i 8 1) i 9 0) 2 (S.2.1 2 ++ [i])).2.2.2.1 j 7 = 1) && decide ((sQ (sC (sC (sQ S (S.1 1) ys) i 8 1) i 9 0) 2 (S.2.1 2 ++ [i])).2.2.2.1 j 1 = x)) (S.1 6) ∧ _
        rw [cntF_congr (g := fun j => decide (S.2.2.2.1 j 7 = 1) && decide (S.2.2.2.1 j 1 = x)) _ (fun j _ => by rw [ek j 7 (by decide) (by decide), ek j 1 (by decide) (by decide)])]
        exact this
      · show ((S.2.1 2 ++ [i]).map _).sum ≤ S.1 3
        rw [map_sum_congr (g := fun j => S.2.2.2.1 j 3) (fun j _ => ek j 3 (by decide) (by decide)), List.map_append, List.sum_append]
        show sW S + (S.2.2.2.1 i 3 + 0) ≤ _
        omega
    · rw [e]
      obtain ⟨p1, p2, p3, p4, p5, p6, p7⟩ := sPay_c (sQ S (S.1 1) ys) (S.1 1) i
      obtain ⟨g1, g2, g3, g4, g5⟩ := sPay_g (sQ S (S.1 1) ys) (S.1 1) i
      generalize sPay (sQ S (S.1 1) ys) (S.1 1) i = P at *
      have ek : ∀ j k, k ≠ 5 → k ≠ 7 → k ≠ 8 → k ≠ 9 → (sQ (sC (sC P i 8 1) i 9 0) 2 (S.2.1 2 ++ [i])).2.2.2.1 j k = S.2.2.2.1 j k := fun j k q5 q7 q8 q9 => by
        show (if j = i ∧ k = 9 then 0 else if j = i ∧ k = 8 then 1 else P.2.2.2.1 j k) = _
        rw [if_neg (by omega), if_neg (by omega), p1 j k q5 q7]; rfl
      have ej : ∀ j, j ≠ i → ∀ k, (sQ (sC (sC P i 8 1) i 9 0) 2 (S.2.1 2 ++ [i])).2.2.2.1 j k = S.2.2.2.1 j k := fun j hj k => by
        show (if j = i ∧ k = 9 then 0 else if j = i ∧ k = 8 then 1 else P.2.2.2.1 j k) = _
        rw [if_neg (by omega), if_neg (by omega), p2 j hj k]; rfl
      have e5 : (sQ (sC (sC P i 8 1) i 9 0) 2 (S.2.1 2 ++ [i])).2.2.2.1 i 5 = S.2.2.2.1 i 5 - sDue S i := by
        show (if i = i ∧ 5 = 9 then 0 else if i = i ∧ 5 = 8 then 1 else P.2.2.2.1 i 5) = _
        rw [if_neg (by omega), if_neg (by omega), p3]; rfl
      have e7 : (sQ (sC (sC P i 8 1) i 9 0) 2 (S.2.1 2 ++ [i])).2.2.2.1 i 7 = 1 := by
        show (if i = i ∧ 7 = 9 then 0 else if i = i ∧ 7 = 8 then 1 else P.2.2.2.1 i 7) = _
        rw [if_neg (by omega), if_neg (by omega), p4]
      have e8 : (sQ (sC (sC P i 8 1) i 9 0) 2 (S.2.1 2 ++ [i])).2.2.2.1 i 8 = 1 := by simp [sC, sQ]
      have eo : (sQ (sC (sC P i 8 1) i 9 0) 2 (S.2.1 2 ++ [i])).2.2.2.2 = S.2.2.2.2 := p5
      have en : (sQ (sC (sC P i 8 1) i 9 0) 2 (S.2.1 2 ++ [i])).1 = S.1 := p6
      have eg : (sQ (sC (sC P i 8 1) i 9 0) 2 (S.2.1 2 ++ [i])).2.2.1 = P.2.2.1 := rfl
      have eq2 : (sQ (sC (sC P i 8 1) i 9 0) 2 (S.2.1 2 ++ [i])).2.1 2 = S.2.1 2 ++ [i] := rfl
      generalize sQ (sC (sC P i 8 1) i 9 0) 2 (S.2.1 2 ++ [i]) = T at *
      refine ⟨fun j hj hs => ?_, fun j hj => ?_, ?_, fun x hx => ?_, ?_⟩
      · rw [en] at hj
        rw [eo]
        by_cases hji : j = i
        · rw [hji]; exact h1 i hi (by omega)
        · rw [ej j hji 8] at hs; exact h1 j hj hs
      · rw [en] at hj
        by_cases hji : j = i
        · rw [hji, e5, e7, e8]
          have := (h2 i hi).1
          exact ⟨by omega, fun q => by omega, fun q => by omega⟩
        · rw [ej j hji 5, ej j hji 7, ej j hji 8]; exact h2 j hj
      · rw [en, eg]
        have hs := sumN_set (f := fun j => S.2.2.2.1 j 5) (g := fun j => T.2.2.2.1 j 5) (i := i) (fun j hj => ej j hj 5) (S.1 6) hi
        simp only [e5] at hs
        have g2 : P.2.2.1 (S.1 1) 1 = S.2.2.1 (S.1 1) 1 + sDue S i := g2
        have hb : P.2.2.1 0 1 + P.2.2.1 1 1 = S.2.2.1 0 1 + S.2.2.1 1 1 + sDue S i := by
          rcases (show S.1 1 = 0 ∨ S.1 1 = 1 by omega) with q | q
          · have k1 : P.2.2.1 1 1 = S.2.2.1 1 1 := g1 1 1 (by omega)
            rw [q] at g2
            omega
          · have k1 : P.2.2.1 0 1 = S.2.2.1 0 1 := g1 0 1 (by omega)
            rw [q] at g2
            omega
        omega
      · rw [en, eg]
        have hx4 := h4 x hx
        by_cases hxd : x = S.1 1
        · subst hxd
          have g3 : P.2.2.1 (S.1 1) 2 = S.2.2.1 (S.1 1) 2 + 1 := g3
          have g4 : P.2.2.1 (S.1 1) 3 = S.2.2.1 (S.1 1) 3 + S.2.2.2.1 i 2 := g4
          have g5 : P.2.2.1 (S.1 1) 4 = S.2.2.1 (S.1 1) 4 + (sToll S (S.2.2.2.1 i 2) (S.2.2.2.1 i 3) - sDue S i) := g5
          have hc := cntF_set (f := fun j => decide (S.2.2.2.1 j 7 = 1) && decide (S.2.2.2.1 j 1 = S.1 1)) (g := fun j => decide (T.2.2.2.1 j 7 = 1) && decide (T.2.2.2.1 j 1 = S.1 1)) (i := i) (by simp [h7]) (by simp [e7, ek i 1 (by decide) (by decide) (by decide) (by decide), hend]) (fun j hj => by simp only [ej j hj 7, ej j hj 1]) (S.1 6) hi
          have h27 := kept_27 hw.1 hci
          have hax := hci.2.1
          rw [hc, g3, g4, g5]
          omega
        · have k2 : P.2.2.1 x 2 = S.2.2.1 x 2 := g1 x 2 hxd
          have k3 : P.2.2.1 x 3 = S.2.2.1 x 3 := g1 x 3 hxd
          have k4 : P.2.2.1 x 4 = S.2.2.1 x 4 := g1 x 4 hxd
          rw [k2, k3, k4, cntF_congr (g := fun j => decide (S.2.2.2.1 j 7 = 1) && decide (S.2.2.2.1 j 1 = x)) _ (fun j _ => ?_)]
          · exact hx4
          · by_cases hji : j = i
            · rw [hji, ek i 1 (by decide) (by decide) (by decide) (by decide), hend, decide_eq_false (show ¬ S.1 1 = x from fun q => hxd q.symm), Bool.and_false, Bool.and_false]
            · rw [ej j hji 7, ej j hji 1]
      · rw [en]
        unfold sW
        rw [eq2, map_sum_congr (g := fun j => S.2.2.2.1 j 3) (fun j _ => ek j 3 (by decide) (by decide) (by decide) (by decide)), List.map_append, List.sum_append]
        show sW S + (S.2.2.2.1 i 3 + 0) ≤ _
        omega
theorem LI.num {S : gSt} {c0 : Nat → Nat} {tk k v : Nat} (h : LI c0 tk S) (hk : k ≠ 3) (hk6 : k ≠ 6) : LI c0 tk (sN S k v) := by
  have e6 : (sN S k v).1 6 = S.1 6 := if_neg (fun q => hk6 q.symm)
  have e3 : (sN S k v).1 3 = S.1 3 := if_neg (fun q => hk q.symm)
  unfold LI
  rw [e6, e3]
  exact h
theorem LI.tick {S : gSt} {c0 : Nat → Nat} {tk : Nat} (hw : WF S) (h : LI c0 tk S) : LI c0 tk (sTick S).1 := ((h.move hw).come hw.move).num (by decide) (by decide)
theorem LI.turn {S : gSt} {c0 : Nat → Nat} {tk : Nat} (h : LI c0 tk S) : LI c0 tk (sTurn S) := h.num (by decide) (by decide)
theorem LI.empty {S : gSt} {c0 : Nat → Nat} {tk e : Nat} (he : e < 2) (h : LI c0 tk S) : LI c0 (tk + S.2.2.1 e 1) (sG (sG S e 1 0) e 4 0) := by
  obtain ⟨h1, h2, h3, h4, h5⟩ := h
  have g1 : ∀ x, (sG (sG S e 1 0) e 4 0).2.2.1 x 1 = if x = e then 0 else S.2.2.1 x 1 := fun x => by simp [sG]
  have g2 : ∀ x, (sG (sG S e 1 0) e 4 0).2.2.1 x 2 = S.2.2.1 x 2 := fun x => by simp [sG]
  have g3 : ∀ x, (sG (sG S e 1 0) e 4 0).2.2.1 x 3 = S.2.2.1 x 3 := fun x => by simp [sG]
  have g4 : ∀ x, (sG (sG S e 1 0) e 4 0).2.2.1 x 4 = if x = e then 0 else S.2.2.1 x 4 := fun x => by simp [sG]
  refine ⟨h1, h2, ?_, fun x hx => ?_, h5⟩
  · rw [g1, g1]
    show sumN (fun i => S.2.2.2.1 i 5) (S.1 6) + (tk + S.2.2.1 e 1) + _ + _ = sumN c0 (S.1 6)
    rcases (show e = 0 ∨ e = 1 by omega) with q | q <;> subst q <;> simp <;> omega
  · rw [g2, g3, g4]
    have := h4 x hx
    refine ⟨this.1, this.2.1, this.2.2.1, ?_⟩
    split
    · exact Nat.zero_le _
    · exact this.2.2.2
/-- who is over or away stays so; a cart pays once -/
theorem tick_keeps {S : gSt} (hw : WF S) : ∀ i, i < S.1 6 → (1 < S.2.2.2.1 i 8 → (sTick S).1.2.2.2.1 i 8 = S.2.2.2.1 i 8) ∧ (S.2.2.2.1 i 7 ≠ 0 → (sTick S).1.2.2.2.1 i 5 = S.2.2.2.1 i 5) := by
  obtain ⟨a1, a2, a3, a4, a5, a6⟩ := mv_same hw
  have hwm := hw.move
  intro i hi
  show (1 < S.2.2.2.1 i 8 → (sCome (sMove S).1).2.2.2.1 i 8 = S.2.2.2.1 i 8) ∧ (S.2.2.2.1 i 7 ≠ 0 → (sCome (sMove S).1).2.2.2.1 i 5 = S.2.2.2.1 i 5)
  have hm : 1 < S.2.2.2.1 i 8 → (sMove S).1.2.2.2.1 i 8 = S.2.2.2.1 i 8 := by
    intro q
    have h83 := (hw.2.1 i hi).2.2.2.2.2.2.2
    rcases (show S.2.2.2.1 i 8 = 2 ∨ S.2.2.2.1 i 8 = 3 by omega) with z | z
    · rw [z]
      exact Classical.byContradiction (fun y => (a4 i y).2 z)
    · rw [z]; exact (a5 i).mpr z
  have hm5 := a3 i 5 (by decide) (by decide)
  have hm7 := a3 i 7 (by decide) (by decide)
  generalize (sMove S).1 = M at *
  rcases cm_cases hwm with e | ⟨c, ys, hq, hc, h8, hend, hroom, hcase⟩
  · rw [e]; exact ⟨hm, fun _ => hm5⟩
  · by_cases hic : i = c
    · subst hic
      refine ⟨fun q => by have := hm q; omega, fun q => ?_⟩
      rcases hcase with ⟨h7, e⟩ | ⟨h7, e⟩ | ⟨h7, hdue, e⟩
      · omega
      · rw [e, ← hm5]; simp [sC, sQ]
      · omega
    · have hs : ∀ k, (sCome M).2.2.2.1 i k = M.2.2.2.1 i k := by
        intro k
        rcases hcase with ⟨h7, e⟩ | ⟨h7, e⟩ | ⟨h7, hdue, e⟩
        · rw [e]; simp [sC, sQ, hic]
        · rw [e]; simp [sC, sQ, hic]
        · rw [e]
          show (if i = c ∧ k = 9 then 0 else if i = c ∧ k = 8 then 1 else (sPay (sQ M (M.1 1) ys) (M.1 1) c).2.2.2.1 i k) = _
          rw [if_neg (by omega), if_neg (by omega), (sPay_c (sQ M (M.1 1) ys) (M.1 1) c).2.1 i hic k]
          rfl
      rw [hs, hs]
      exact ⟨hm, fun _ => hm5⟩
end
