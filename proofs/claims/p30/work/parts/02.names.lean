/-! ===== BEGIN printed: names, fields, word lists, decode rows ===== -/
def RX0 : String := "TeaBlends$History"
def TX0 : u_T := fun k => match k with
  | 0 => ("TeaBlends$History", "states", "[LTeaBlends$Shop;", true)
  | 1 => ("TeaBlends$History", "next", "I", false)
  | _ => ("TeaBlends$History", "kept", "I", false)
def tyX0 : Nat → FieldType := fun k => match k with
  | 0 => .array (.object "TeaBlends$Shop")
  | 1 => .int
  | _ => .int
abbrev wsX00 : List Cond := u_ws RX0 TX0 3
theorem nmX0 : ∀ a, a < 3 → ∀ b, b < 3 → a ≠ b → (TX0 a).2.1 ≠ (TX0 b).2.1 := by decide +kernel
theorem tyX0_ok : ∀ k, k < 3 → parseFieldDescriptor (TX0 k).2.2.1 = some (tyX0 k) := by decide +kernel
abbrev cX0_init : ByteArray := prog_2_method_1_code
def yX0_init : MethodName := ⟨RX0, "<init>", "()V"⟩
abbrev cX0_draft : ByteArray := prog_2_method_2_code
def yX0_draft : MethodName := ⟨RX0, "draft", "(LTeaBlends$Shop;)V"⟩
abbrev cX0_settle : ByteArray := prog_2_method_3_code
def yX0_settle : MethodName := ⟨RX0, "settle", "(I)I"⟩
def RX1 : String := "TeaBlends$Leaf"
def TX1 : u_T := fun k => match k with
  | 0 => ("TeaBlends$Leaf", "price", "I", false)
  | 1 => ("TeaBlends$Leaf", "stock", "I", false)
  | 2 => ("TeaBlends$Leaf", "age", "I", false)
  | 3 => ("TeaBlends$Leaf", "share", "I", false)
  | 4 => ("TeaBlends$Leaf", "changes", "[I", true)
  | _ => ("TeaBlends$Leaf", "fresh", "[I", true)
def tyX1 : Nat → FieldType := fun k => match k with
  | 0 => .int
  | 1 => .int
  | 2 => .int
  | 3 => .int
  | 4 => .array .int
  | _ => .array .int
abbrev wsX10 : List Cond := u_ws RX1 TX1 6
theorem nmX1 : ∀ a, a < 6 → ∀ b, b < 6 → a ≠ b → (TX1 a).2.1 ≠ (TX1 b).2.1 := by decide +kernel
theorem tyX1_ok : ∀ k, k < 6 → parseFieldDescriptor (TX1 k).2.2.1 = some (tyX1 k) := by decide +kernel
abbrev cX1_init : ByteArray := prog_3_method_1_code
def yX1_init : MethodName := ⟨RX1, "<init>", "()V"⟩
abbrev cX1_copyFrom : ByteArray := prog_3_method_2_code
def yX1_copyFrom : MethodName := ⟨RX1, "copyFrom", "(LTeaBlends$Leaf;)V"⟩
abbrev cX1_comeFresh : ByteArray := prog_3_method_3_code
def yX1_comeFresh : MethodName := ⟨RX1, "comeFresh", "(II)V"⟩
abbrev cX1_gramsFor : ByteArray := prog_3_method_4_code
def yX1_gramsFor : MethodName := ⟨RX1, "gramsFor", "(I)I"⟩
def RX2 : String := "TeaBlends$OrderReader"
def TX2 : u_T := fun k => match k with
  | 0 => ("TeaBlends$OrderReader", "pad", "LTeaBlends$Pad;", true)
  | 1 => ("TeaBlends$OrderReader", "at", "I", false)
  | 2 => ("TeaBlends$OrderReader", "numberCount", "I", false)
  | 3 => ("TeaBlends$OrderReader", "kind", "I", false)
  | _ => ("TeaBlends$OrderReader", "numbers", "[I", true)
def tyX2 : Nat → FieldType := fun k => match k with
  | 0 => .object "TeaBlends$Pad"
  | 1 => .int
  | 2 => .int
  | 3 => .int
  | _ => .array .int
abbrev wsX20 : List Cond := u_ws RX2 TX2 5
theorem nmX2 : ∀ a, a < 5 → ∀ b, b < 5 → a ≠ b → (TX2 a).2.1 ≠ (TX2 b).2.1 := by decide +kernel
theorem tyX2_ok : ∀ k, k < 5 → parseFieldDescriptor (TX2 k).2.2.1 = some (tyX2 k) := by decide +kernel
abbrev cX2_init : ByteArray := prog_4_method_1_code
def yX2_init : MethodName := ⟨RX2, "<init>", "(LTeaBlends$Pad;)V"⟩
def RX3 : String := "TeaBlends$Pad"
def TX3 : u_T := fun k => match k with
  | 0 => ("TeaBlends$Pad", "text", "[C", true)
  | _ => ("TeaBlends$Pad", "length", "I", false)
def tyX3 : Nat → FieldType := fun k => match k with
  | 0 => .array .char
  | _ => .int
abbrev wsX30 : List Cond := u_ws RX3 TX3 2
theorem nmX3 : ∀ a, a < 2 → ∀ b, b < 2 → a ≠ b → (TX3 a).2.1 ≠ (TX3 b).2.1 := by decide +kernel
theorem tyX3_ok : ∀ k, k < 2 → parseFieldDescriptor (TX3 k).2.2.1 = some (tyX3 k) := by decide +kernel
abbrev cX3_init : ByteArray := prog_5_method_1_code
def yX3_init : MethodName := ⟨RX3, "<init>", "()V"⟩
def RX4 : String := "TeaBlends$Search"
def TX4 : u_T := fun k => match k with
  | 0 => ("TeaBlends$Search", "best", "[I", true)
  | 1 => ("TeaBlends$Search", "bestSum", "I", false)
  | 2 => ("TeaBlends$Search", "leafCount", "I", false)
  | 3 => ("TeaBlends$Search", "tried", "[I", true)
  | 4 => ("TeaBlends$Search", "lowSums", "[I", true)
  | 5 => ("TeaBlends$Search", "highSums", "[I", true)
  | 6 => ("TeaBlends$Search", "values", "[[I", true)
  | 7 => ("TeaBlends$Search", "leastFrom", "[[I", true)
  | 8 => ("TeaBlends$Search", "mostFrom", "[[I", true)
  | _ => ("TeaBlends$Search", "sumsAhead", "[[I", true)
def tyX4 : Nat → FieldType := fun k => match k with
  | 0 => .array .int
  | 1 => .int
  | 2 => .int
  | 3 => .array .int
  | 4 => .array .int
  | 5 => .array .int
  | 6 => .array (.array .int)
  | 7 => .array (.array .int)
  | 8 => .array (.array .int)
  | _ => .array (.array .int)
abbrev wsX40 : List Cond := u_ws RX4 TX4 10
theorem nmX4 : ∀ a, a < 10 → ∀ b, b < 10 → a ≠ b → (TX4 a).2.1 ≠ (TX4 b).2.1 := by decide +kernel
theorem tyX4_ok : ∀ k, k < 10 → parseFieldDescriptor (TX4 k).2.2.1 = some (tyX4 k) := by decide +kernel
abbrev cX4_init : ByteArray := prog_6_method_1_code
def yX4_init : MethodName := ⟨RX4, "<init>", "()V"⟩
abbrev cX4_find : ByteArray := prog_6_method_2_code
def yX4_find : MethodName := ⟨RX4, "find", "(LTeaBlends$Shop;I)Z"⟩
abbrev cX4_readValues : ByteArray := prog_6_method_3_code
def yX4_readValues : MethodName := ⟨RX4, "readValues", "(LTeaBlends$Shop;)V"⟩
abbrev cX4_readBounds : ByteArray := prog_6_method_4_code
def yX4_readBounds : MethodName := ⟨RX4, "readBounds", "(LTeaBlends$Shop;I)V"⟩
abbrev cX4_tryShares : ByteArray := prog_6_method_5_code
def yX4_tryShares : MethodName := ⟨RX4, "tryShares", "(LTeaBlends$Search;II)V"⟩
abbrev cX4_mayImprove : ByteArray := prog_6_method_6_code
def yX4_mayImprove : MethodName := ⟨RX4, "mayImprove", "(II)Z"⟩
abbrev cX4_giveTo : ByteArray := prog_6_method_7_code
def yX4_giveTo : MethodName := ⟨RX4, "giveTo", "(II)V"⟩
abbrev cX4_keepBest : ByteArray := prog_6_method_8_code
def yX4_keepBest : MethodName := ⟨RX4, "keepBest", "(II)V"⟩
def RX5 : String := "TeaBlends$Shop"
def TX5 : u_T := fun k => match k with
  | 0 => ("TeaBlends$Shop", "leaves", "[LTeaBlends$Leaf;", true)
  | 1 => ("TeaBlends$Shop", "low", "[I", true)
  | 2 => ("TeaBlends$Shop", "high", "[I", true)
  | 3 => ("TeaBlends$Shop", "settings", "[I", true)
  | 4 => ("TeaBlends$Shop", "leafCount", "I", false)
  | 5 => ("TeaBlends$Shop", "day", "I", false)
  | 6 => ("TeaBlends$Shop", "mixedGrams", "I", false)
  | _ => ("TeaBlends$Shop", "coins", "I", false)
def tyX5 : Nat → FieldType := fun k => match k with
  | 0 => .array (.object "TeaBlends$Leaf")
  | 1 => .array .int
  | 2 => .array .int
  | 3 => .array .int
  | 4 => .int
  | 5 => .int
  | 6 => .int
  | _ => .int
abbrev wsX50 : List Cond := u_ws RX5 TX5 8
theorem nmX5 : ∀ a, a < 8 → ∀ b, b < 8 → a ≠ b → (TX5 a).2.1 ≠ (TX5 b).2.1 := by decide +kernel
theorem tyX5_ok : ∀ k, k < 8 → parseFieldDescriptor (TX5 k).2.2.1 = some (tyX5 k) := by decide +kernel
abbrev cX5_init : ByteArray := prog_7_method_1_code
def yX5_init : MethodName := ⟨RX5, "<init>", "()V"⟩
abbrev cX5_copyFrom : ByteArray := prog_7_method_2_code
def yX5_copyFrom : MethodName := ⟨RX5, "copyFrom", "(LTeaBlends$Shop;)V"⟩
abbrev cX5_hasLeaf : ByteArray := prog_7_method_3_code
def yX5_hasLeaf : MethodName := ⟨RX5, "hasLeaf", "(I)Z"⟩
abbrev cX5_changeSetting : ByteArray := prog_7_method_4_code
def yX5_changeSetting : MethodName := ⟨RX5, "changeSetting", "(II)I"⟩
abbrev cX5_addLeaf : ByteArray := prog_7_method_5_code
def yX5_addLeaf : MethodName := ⟨RX5, "addLeaf", "(IIIII)I"⟩
abbrev cX5_changeRow : ByteArray := prog_7_method_6_code
def yX5_changeRow : MethodName := ⟨RX5, "changeRow", "(IJ)I"⟩
abbrev cX5_changeIn : ByteArray := prog_7_method_7_code
def yX5_changeIn : MethodName := ⟨RX5, "changeIn", "(JI)I"⟩
abbrev cX5_addGrams : ByteArray := prog_7_method_8_code
def yX5_addGrams : MethodName := ⟨RX5, "addGrams", "(II)I"⟩
abbrev cX5_changeBounds : ByteArray := prog_7_method_9_code
def yX5_changeBounds : MethodName := ⟨RX5, "changeBounds", "(III)I"⟩
abbrev cX5_changeShare : ByteArray := prog_7_method_10_code
def yX5_changeShare : MethodName := ⟨RX5, "changeShare", "(II)I"⟩
abbrev cX5_takeShares : ByteArray := prog_7_method_11_code
def yX5_takeShares : MethodName := ⟨RX5, "takeShares", "([I)V"⟩
abbrev cX5_mixGrams : ByteArray := prog_7_method_12_code
def yX5_mixGrams : MethodName := ⟨RX5, "mixGrams", "(I)I"⟩
abbrev cX5_stocksSuffice : ByteArray := prog_7_method_13_code
def yX5_stocksSuffice : MethodName := ⟨RX5, "stocksSuffice", "(I)Z"⟩
abbrev cX5_passDays : ByteArray := prog_7_method_14_code
def yX5_passDays : MethodName := ⟨RX5, "passDays", "(I)I"⟩
abbrev cX5_priceOf : ByteArray := prog_7_method_15_code
def yX5_priceOf : MethodName := ⟨RX5, "priceOf", "(I)I"⟩
abbrev cX5_tasteOf : ByteArray := prog_7_method_16_code
def yX5_tasteOf : MethodName := ⟨RX5, "tasteOf", "(III)I"⟩
abbrev cX5_blendPrice : ByteArray := prog_7_method_17_code
def yX5_blendPrice : MethodName := ⟨RX5, "blendPrice", "()I"⟩
abbrev cX5_tasteSum : ByteArray := prog_7_method_18_code
def yX5_tasteSum : MethodName := ⟨RX5, "tasteSum", "(II)I"⟩
abbrev cX5_allShares : ByteArray := prog_7_method_19_code
def yX5_allShares : MethodName := ⟨RX5, "allShares", "()I"⟩
abbrev cX5_leavesInBlend : ByteArray := prog_7_method_20_code
def yX5_leavesInBlend : MethodName := ⟨RX5, "leavesInBlend", "()I"⟩
abbrev cX5_whyBroken : ByteArray := prog_7_method_21_code
def yX5_whyBroken : MethodName := ⟨RX5, "whyBroken", "(I)I"⟩
abbrev cX5_gramsByStocks : ByteArray := prog_7_method_22_code
def yX5_gramsByStocks : MethodName := ⟨RX5, "gramsByStocks", "()I"⟩
abbrev cX5_isWithin : ByteArray := prog_7_method_26_code
def yX5_isWithin : MethodName := ⟨RX5, "isWithin", "(III)Z"⟩
def RX6 : String := "TeaBlends"
def TX6 : u_T := fun k => match k with
  | 0 => ("TeaBlends", "shop", "LTeaBlends$Shop;", true)
  | 1 => ("TeaBlends", "history", "LTeaBlends$History;", true)
  | 2 => ("TeaBlends", "slots", "[LTeaBlends$Shop;", true)
  | 3 => ("TeaBlends", "pad", "LTeaBlends$Pad;", true)
  | 4 => ("TeaBlends", "orders", "LTeaBlends$OrderReader;", true)
  | _ => ("TeaBlends", "search", "LTeaBlends$Search;", true)
def tyX6 : Nat → FieldType := fun k => match k with
  | 0 => .object "TeaBlends$Shop"
  | 1 => .object "TeaBlends$History"
  | 2 => .array (.object "TeaBlends$Shop")
  | 3 => .object "TeaBlends$Pad"
  | 4 => .object "TeaBlends$OrderReader"
  | _ => .object "TeaBlends$Search"
abbrev wsX60 : List Cond := u_ws RX6 TX6 6
theorem nmX6 : ∀ a, a < 6 → ∀ b, b < 6 → a ≠ b → (TX6 a).2.1 ≠ (TX6 b).2.1 := by decide +kernel
theorem tyX6_ok : ∀ k, k < 6 → parseFieldDescriptor (TX6 k).2.2.1 = some (tyX6 k) := by decide +kernel
abbrev cX6_init : ByteArray := prog_1_method_1_code
def yX6_init : MethodName := ⟨RX6, "<init>", "()V"⟩
abbrev cX6_set : ByteArray := prog_1_method_2_code
def yX6_set : MethodName := ⟨RX6, "set", "(II)I"⟩
abbrev cX6_leaf : ByteArray := prog_1_method_3_code
def yX6_leaf : MethodName := ⟨RX6, "leaf", "(III)I"⟩
abbrev cX6_row : ByteArray := prog_1_method_4_code
def yX6_row : MethodName := ⟨RX6, "row", "(IJ)I"⟩
abbrev cX6_buy : ByteArray := prog_1_method_5_code
def yX6_buy : MethodName := ⟨RX6, "buy", "(II)I"⟩
abbrev cX6_bound : ByteArray := prog_1_method_6_code
def yX6_bound : MethodName := ⟨RX6, "bound", "(III)I"⟩
abbrev cX6_share : ByteArray := prog_1_method_7_code
def yX6_share : MethodName := ⟨RX6, "share", "(II)I"⟩
abbrev cX6_choose : ByteArray := prog_1_method_8_code
def yX6_choose : MethodName := ⟨RX6, "choose", "()I"⟩
abbrev cX6_mix : ByteArray := prog_1_method_9_code
def yX6_mix : MethodName := ⟨RX6, "mix", "(I)I"⟩
abbrev cX6_pass : ByteArray := prog_1_method_10_code
def yX6_pass : MethodName := ⟨RX6, "pass", "(I)I"⟩
abbrev cX6_of : ByteArray := prog_1_method_11_code
def yX6_of : MethodName := ⟨RX6, "of", "(II)I"⟩
abbrev cX6_blend : ByteArray := prog_1_method_12_code
def yX6_blend : MethodName := ⟨RX6, "blend", "(I)I"⟩
abbrev cX6_why : ByteArray := prog_1_method_13_code
def yX6_why : MethodName := ⟨RX6, "why", "()I"⟩
abbrev cX6_count : ByteArray := prog_1_method_14_code
def yX6_count : MethodName := ⟨RX6, "count", "(I)I"⟩
abbrev cX6_cheapest : ByteArray := prog_1_method_17_code
def yX6_cheapest : MethodName := ⟨RX6, "cheapest", "(I)I"⟩
abbrev cX6_keepsFor : ByteArray := prog_1_method_20_code
def yX6_keepsFor : MethodName := ⟨RX6, "keepsFor", "()I"⟩
abbrev cX6_mostGrams : ByteArray := prog_1_method_21_code
def yX6_mostGrams : MethodName := ⟨RX6, "mostGrams", "()I"⟩
def RX7 : String := "TeaBlendsModel"
def TX7 : u_T := fun k => match k with
  | _ => ("", "", "", false)
def tyX7 : Nat → FieldType := fun k => match k with
  | _ => .int
abbrev wsX70 : List Cond := u_ws RX7 TX7 0
theorem nmX7 : ∀ a, a < 0 → ∀ b, b < 0 → a ≠ b → (TX7 a).2.1 ≠ (TX7 b).2.1 := by decide +kernel
theorem tyX7_ok : ∀ k, k < 0 → parseFieldDescriptor (TX7 k).2.2.1 = some (tyX7 k) := by decide +kernel
def RJx8e188 : String := "java/lang/Cloneable"
def TJx8e188 : u_T := fun k => match k with
  | _ => ("", "", "", false)
def tyJx8e188 : Nat → FieldType := fun k => match k with
  | _ => .int
theorem nmJx8e188 : ∀ a, a < 0 → ∀ b, b < 0 → a ≠ b → (TJx8e188 a).2.1 ≠ (TJx8e188 b).2.1 := by decide +kernel
theorem tyJx8e188_ok : ∀ k, k < 0 → parseFieldDescriptor (TJx8e188 k).2.2.1 = some (tyJx8e188 k) := by decide +kernel
def RJ9 : String := "java/lang/Math"
def TJ9 : u_T := fun k => match k with
  | _ => ("", "", "", false)
def tyJ9 : Nat → FieldType := fun k => match k with
  | _ => .int
theorem nmJ9 : ∀ a, a < 0 → ∀ b, b < 0 → a ≠ b → (TJ9 a).2.1 ≠ (TJ9 b).2.1 := by decide +kernel
theorem tyJ9_ok : ∀ k, k < 0 → parseFieldDescriptor (TJ9 k).2.2.1 = some (tyJ9 k) := by decide +kernel
abbrev cJ9_max_7cf53 : ByteArray := prog_11_method_65_code
def yJ9_max_7cf53 : MethodName := ⟨RJ9, "max", "(II)I"⟩
abbrev cJ9_min_7cf53 : ByteArray := prog_11_method_69_code
def yJ9_min_7cf53 : MethodName := ⟨RJ9, "min", "(II)I"⟩
def RJ10 : String := "java/lang/System"
def TJ10 : u_T := fun k => match k with
  | _ => ("", "", "", false)
def tyJ10 : Nat → FieldType := fun k => match k with
  | _ => .int
theorem nmJ10 : ∀ a, a < 0 → ∀ b, b < 0 → a ≠ b → (TJ10 a).2.1 ≠ (TJ10 b).2.1 := by decide +kernel
theorem tyJ10_ok : ∀ k, k < 0 → parseFieldDescriptor (TJ10 k).2.2.1 = some (tyJ10 k) := by decide +kernel
def RJ7 : String := "java/util/Arrays"
def TJ7 : u_T := fun k => match k with
  | _ => ("", "", "", false)
def tyJ7 : Nat → FieldType := fun k => match k with
  | _ => .int
theorem nmJ7 : ∀ a, a < 0 → ∀ b, b < 0 → a ≠ b → (TJ7 a).2.1 ≠ (TJ7 b).2.1 := by decide +kernel
theorem tyJ7_ok : ∀ k, k < 0 → parseFieldDescriptor (TJ7 k).2.2.1 = some (tyJ7 k) := by decide +kernel
abbrev cJ7_fill_53178 : ByteArray := prog_13_method_103_code
def yJ7_fill_53178 : MethodName := ⟨RJ7, "fill", "([II)V"⟩
def RL : String := "TeaBlendsLaw"
abbrev cL_cell : ByteArray := method_2_code
def yL_cell : MethodName := ⟨RL, "cell", "([II)I"⟩
abbrev cL_low : ByteArray := method_3_code
def yL_low : MethodName := ⟨RL, "low", "(II)I"⟩
abbrev cL_freshTaste : ByteArray := method_4_code
def yL_freshTaste : MethodName := ⟨RL, "freshTaste", "([III)I"⟩
abbrev cL_leaves : ByteArray := method_5_code
def yL_leaves : MethodName := ⟨RL, "leaves", "(LTeaBlends;[I)Z"⟩
abbrev cL_blend : ByteArray := method_6_code
def yL_blend : MethodName := ⟨RL, "blend", "(LTeaBlends;)Z"⟩
abbrev cL_mixes : ByteArray := method_7_code
def yL_mixes : MethodName := ⟨RL, "mixes", "(LTeaBlends;I)Z"⟩
abbrev cL_act : ByteArray := method_8_code
def yL_act : MethodName := ⟨RL, "act", "(LTeaBlends;[III)Z"⟩
abbrev cL_law : ByteArray := code
def yL_law : MethodName := ⟨RL, "law", "([I)Z"⟩
theorem dX0_init_0 : decode cX0_init 0 = .ok (.aload_n 0, 1) := by decide +kernel
theorem dX0_init_1 : decode cX0_init 1 = .ok (.invokespecial 3, 3) := by decide +kernel
theorem dX0_init_4 : decode cX0_init 4 = .ok (.aload_n 0, 1) := by decide +kernel
theorem dX0_init_5 : decode cX0_init 5 = .ok (.bipush 7, 2) := by decide +kernel
theorem dX0_init_7 : decode cX0_init 7 = .ok (.anewarray 11, 3) := by decide +kernel
theorem dX0_init_10 : decode cX0_init 10 = .ok (.putfield 13, 3) := by decide +kernel
theorem dX0_init_13 : decode cX0_init 13 = .ok (.iconst 0, 1) := by decide +kernel
theorem dX0_init_14 : decode cX0_init 14 = .ok (.istore_n 1, 1) := by decide +kernel
theorem dX0_init_15 : decode cX0_init 15 = .ok (.iload_n 1, 1) := by decide +kernel
theorem dX0_init_16 : decode cX0_init 16 = .ok (.aload_n 0, 1) := by decide +kernel
theorem dX0_init_17 : decode cX0_init 17 = .ok (.getfield 13, 3) := by decide +kernel
theorem dX0_init_20 : decode cX0_init 20 = .ok (.arraylength, 1) := by decide +kernel
theorem dX0_init_21 : decode cX0_init 21 = .ok (.if_icmp .ge 22, 3) := by decide +kernel
theorem dX0_init_24 : decode cX0_init 24 = .ok (.aload_n 0, 1) := by decide +kernel
theorem dX0_init_25 : decode cX0_init 25 = .ok (.getfield 13, 3) := by decide +kernel
theorem dX0_init_28 : decode cX0_init 28 = .ok (.iload_n 1, 1) := by decide +kernel
theorem dX0_init_29 : decode cX0_init 29 = .ok (.new 11, 3) := by decide +kernel
theorem dX0_init_32 : decode cX0_init 32 = .ok (.dup, 1) := by decide +kernel
theorem dX0_init_33 : decode cX0_init 33 = .ok (.invokespecial 17, 3) := by decide +kernel
theorem dX0_init_36 : decode cX0_init 36 = .ok (.aastore, 1) := by decide +kernel
theorem dX0_init_37 : decode cX0_init 37 = .ok (.iinc 1 1, 3) := by decide +kernel
theorem dX0_init_40 : decode cX0_init 40 = .ok (.goto (-25), 3) := by decide +kernel
theorem dX0_init_43 : decode cX0_init 43 = .ok (.return_, 1) := by decide +kernel
theorem dX0_draft_0 : decode cX0_draft 0 = .ok (.aload_n 0, 1) := by decide +kernel
theorem dX0_draft_1 : decode cX0_draft 1 = .ok (.getfield 13, 3) := by decide +kernel
theorem dX0_draft_4 : decode cX0_draft 4 = .ok (.aload_n 0, 1) := by decide +kernel
theorem dX0_draft_5 : decode cX0_draft 5 = .ok (.getfield 18, 3) := by decide +kernel
theorem dX0_draft_8 : decode cX0_draft 8 = .ok (.aaload, 1) := by decide +kernel
theorem dX0_draft_9 : decode cX0_draft 9 = .ok (.aload_n 1, 1) := by decide +kernel
theorem dX0_draft_10 : decode cX0_draft 10 = .ok (.invokevirtual 22, 3) := by decide +kernel
theorem dX0_draft_13 : decode cX0_draft 13 = .ok (.return_, 1) := by decide +kernel
theorem dX0_settle_0 : decode cX0_settle 0 = .ok (.iload_n 1, 1) := by decide +kernel
theorem dX0_settle_1 : decode cX0_settle 1 = .ok (.ifCond .lt 31, 3) := by decide +kernel
theorem dX0_settle_4 : decode cX0_settle 4 = .ok (.aload_n 0, 1) := by decide +kernel
theorem dX0_settle_5 : decode cX0_settle 5 = .ok (.aload_n 0, 1) := by decide +kernel
theorem dX0_settle_6 : decode cX0_settle 6 = .ok (.getfield 18, 3) := by decide +kernel
theorem dX0_settle_9 : decode cX0_settle 9 = .ok (.iconst 1, 1) := by decide +kernel
theorem dX0_settle_10 : decode cX0_settle 10 = .ok (.iadd, 1) := by decide +kernel
theorem dX0_settle_11 : decode cX0_settle 11 = .ok (.bipush 7, 2) := by decide +kernel
theorem dX0_settle_13 : decode cX0_settle 13 = .ok (.irem, 1) := by decide +kernel
theorem dX0_settle_14 : decode cX0_settle 14 = .ok (.putfield 18, 3) := by decide +kernel
theorem dX0_settle_17 : decode cX0_settle 17 = .ok (.aload_n 0, 1) := by decide +kernel
theorem dX0_settle_18 : decode cX0_settle 18 = .ok (.aload_n 0, 1) := by decide +kernel
theorem dX0_settle_19 : decode cX0_settle 19 = .ok (.getfield 26, 3) := by decide +kernel
theorem dX0_settle_22 : decode cX0_settle 22 = .ok (.iconst 1, 1) := by decide +kernel
theorem dX0_settle_23 : decode cX0_settle 23 = .ok (.iadd, 1) := by decide +kernel
theorem dX0_settle_24 : decode cX0_settle 24 = .ok (.bipush 6, 2) := by decide +kernel
theorem dX0_settle_26 : decode cX0_settle 26 = .ok (.invokestatic 29, 3) := by decide +kernel
theorem dX0_settle_29 : decode cX0_settle 29 = .ok (.putfield 26, 3) := by decide +kernel
theorem dX0_settle_32 : decode cX0_settle 32 = .ok (.iload_n 1, 1) := by decide +kernel
theorem dX0_settle_33 : decode cX0_settle 33 = .ok (.ireturn, 1) := by decide +kernel
theorem dX1_init_0 : decode cX1_init 0 = .ok (.aload_n 0, 1) := by decide +kernel
theorem dX1_init_1 : decode cX1_init 1 = .ok (.invokespecial 3, 3) := by decide +kernel
theorem dX1_init_4 : decode cX1_init 4 = .ok (.aload_n 0, 1) := by decide +kernel
theorem dX1_init_5 : decode cX1_init 5 = .ok (.bipush 7, 2) := by decide +kernel
theorem dX1_init_7 : decode cX1_init 7 = .ok (.newarray .int, 2) := by decide +kernel
theorem dX1_init_9 : decode cX1_init 9 = .ok (.putfield 9, 3) := by decide +kernel
theorem dX1_init_12 : decode cX1_init 12 = .ok (.aload_n 0, 1) := by decide +kernel
theorem dX1_init_13 : decode cX1_init 13 = .ok (.iconst 3, 1) := by decide +kernel
theorem dX1_init_14 : decode cX1_init 14 = .ok (.newarray .int, 2) := by decide +kernel
theorem dX1_init_16 : decode cX1_init 16 = .ok (.putfield 15, 3) := by decide +kernel
theorem dX1_init_19 : decode cX1_init 19 = .ok (.return_, 1) := by decide +kernel
theorem dX1_copyFrom_0 : decode cX1_copyFrom 0 = .ok (.aload_n 0, 1) := by decide +kernel
theorem dX1_copyFrom_1 : decode cX1_copyFrom 1 = .ok (.aload_n 1, 1) := by decide +kernel
theorem dX1_copyFrom_2 : decode cX1_copyFrom 2 = .ok (.getfield 18, 3) := by decide +kernel
theorem dX1_copyFrom_5 : decode cX1_copyFrom 5 = .ok (.putfield 18, 3) := by decide +kernel
theorem dX1_copyFrom_8 : decode cX1_copyFrom 8 = .ok (.aload_n 0, 1) := by decide +kernel
theorem dX1_copyFrom_9 : decode cX1_copyFrom 9 = .ok (.aload_n 1, 1) := by decide +kernel
theorem dX1_copyFrom_10 : decode cX1_copyFrom 10 = .ok (.getfield 22, 3) := by decide +kernel
theorem dX1_copyFrom_13 : decode cX1_copyFrom 13 = .ok (.putfield 22, 3) := by decide +kernel
theorem dX1_copyFrom_16 : decode cX1_copyFrom 16 = .ok (.aload_n 0, 1) := by decide +kernel
theorem dX1_copyFrom_17 : decode cX1_copyFrom 17 = .ok (.aload_n 1, 1) := by decide +kernel
theorem dX1_copyFrom_18 : decode cX1_copyFrom 18 = .ok (.getfield 25, 3) := by decide +kernel
theorem dX1_copyFrom_21 : decode cX1_copyFrom 21 = .ok (.putfield 25, 3) := by decide +kernel
theorem dX1_copyFrom_24 : decode cX1_copyFrom 24 = .ok (.aload_n 0, 1) := by decide +kernel
theorem dX1_copyFrom_25 : decode cX1_copyFrom 25 = .ok (.aload_n 1, 1) := by decide +kernel
theorem dX1_copyFrom_26 : decode cX1_copyFrom 26 = .ok (.getfield 28, 3) := by decide +kernel
theorem dX1_copyFrom_29 : decode cX1_copyFrom 29 = .ok (.putfield 28, 3) := by decide +kernel
theorem dX1_copyFrom_32 : decode cX1_copyFrom 32 = .ok (.aload_n 1, 1) := by decide +kernel
theorem dX1_copyFrom_33 : decode cX1_copyFrom 33 = .ok (.getfield 9, 3) := by decide +kernel
theorem dX1_copyFrom_36 : decode cX1_copyFrom 36 = .ok (.iconst 0, 1) := by decide +kernel
theorem dX1_copyFrom_37 : decode cX1_copyFrom 37 = .ok (.aload_n 0, 1) := by decide +kernel
theorem dX1_copyFrom_38 : decode cX1_copyFrom 38 = .ok (.getfield 9, 3) := by decide +kernel
theorem dX1_copyFrom_41 : decode cX1_copyFrom 41 = .ok (.iconst 0, 1) := by decide +kernel
theorem dX1_copyFrom_42 : decode cX1_copyFrom 42 = .ok (.bipush 7, 2) := by decide +kernel
theorem dX1_copyFrom_44 : decode cX1_copyFrom 44 = .ok (.invokestatic 31, 3) := by decide +kernel
theorem dX1_copyFrom_47 : decode cX1_copyFrom 47 = .ok (.aload_n 1, 1) := by decide +kernel
theorem dX1_copyFrom_48 : decode cX1_copyFrom 48 = .ok (.getfield 15, 3) := by decide +kernel
theorem dX1_copyFrom_51 : decode cX1_copyFrom 51 = .ok (.iconst 0, 1) := by decide +kernel
theorem dX1_copyFrom_52 : decode cX1_copyFrom 52 = .ok (.aload_n 0, 1) := by decide +kernel
theorem dX1_copyFrom_53 : decode cX1_copyFrom 53 = .ok (.getfield 15, 3) := by decide +kernel
theorem dX1_copyFrom_56 : decode cX1_copyFrom 56 = .ok (.iconst 0, 1) := by decide +kernel
theorem dX1_copyFrom_57 : decode cX1_copyFrom 57 = .ok (.iconst 3, 1) := by decide +kernel
theorem dX1_copyFrom_58 : decode cX1_copyFrom 58 = .ok (.invokestatic 31, 3) := by decide +kernel
theorem dX1_copyFrom_61 : decode cX1_copyFrom 61 = .ok (.return_, 1) := by decide +kernel
theorem dX1_comeFresh_0 : decode cX1_comeFresh 0 = .ok (.aload_n 0, 1) := by decide +kernel
theorem dX1_comeFresh_1 : decode cX1_comeFresh 1 = .ok (.iload_n 1, 1) := by decide +kernel
theorem dX1_comeFresh_2 : decode cX1_comeFresh 2 = .ok (.putfield 18, 3) := by decide +kernel
theorem dX1_comeFresh_5 : decode cX1_comeFresh 5 = .ok (.aload_n 0, 1) := by decide +kernel
theorem dX1_comeFresh_6 : decode cX1_comeFresh 6 = .ok (.iload_n 2, 1) := by decide +kernel
theorem dX1_comeFresh_7 : decode cX1_comeFresh 7 = .ok (.putfield 22, 3) := by decide +kernel
theorem dX1_comeFresh_10 : decode cX1_comeFresh 10 = .ok (.aload_n 0, 1) := by decide +kernel
theorem dX1_comeFresh_11 : decode cX1_comeFresh 11 = .ok (.iconst 0, 1) := by decide +kernel
theorem dX1_comeFresh_12 : decode cX1_comeFresh 12 = .ok (.putfield 25, 3) := by decide +kernel
theorem dX1_comeFresh_15 : decode cX1_comeFresh 15 = .ok (.aload_n 0, 1) := by decide +kernel
theorem dX1_comeFresh_16 : decode cX1_comeFresh 16 = .ok (.iconst 0, 1) := by decide +kernel
theorem dX1_comeFresh_17 : decode cX1_comeFresh 17 = .ok (.putfield 28, 3) := by decide +kernel
theorem dX1_comeFresh_20 : decode cX1_comeFresh 20 = .ok (.aload_n 0, 1) := by decide +kernel
theorem dX1_comeFresh_21 : decode cX1_comeFresh 21 = .ok (.getfield 9, 3) := by decide +kernel
theorem dX1_comeFresh_24 : decode cX1_comeFresh 24 = .ok (.iconst 0, 1) := by decide +kernel
theorem dX1_comeFresh_25 : decode cX1_comeFresh 25 = .ok (.invokestatic 37, 3) := by decide +kernel
theorem dX1_comeFresh_28 : decode cX1_comeFresh 28 = .ok (.return_, 1) := by decide +kernel
theorem dX1_gramsFor_0 : decode cX1_gramsFor 0 = .ok (.iload_n 1, 1) := by decide +kernel
theorem dX1_gramsFor_1 : decode cX1_gramsFor 1 = .ok (.aload_n 0, 1) := by decide +kernel
theorem dX1_gramsFor_2 : decode cX1_gramsFor 2 = .ok (.getfield 28, 3) := by decide +kernel
theorem dX1_gramsFor_5 : decode cX1_gramsFor 5 = .ok (.imul, 1) := by decide +kernel
theorem dX1_gramsFor_6 : decode cX1_gramsFor 6 = .ok (.bipush 20, 2) := by decide +kernel
theorem dX1_gramsFor_8 : decode cX1_gramsFor 8 = .ok (.iadd, 1) := by decide +kernel
theorem dX1_gramsFor_9 : decode cX1_gramsFor 9 = .ok (.iconst 1, 1) := by decide +kernel
theorem dX1_gramsFor_10 : decode cX1_gramsFor 10 = .ok (.isub, 1) := by decide +kernel
theorem dX1_gramsFor_11 : decode cX1_gramsFor 11 = .ok (.bipush 20, 2) := by decide +kernel
theorem dX1_gramsFor_13 : decode cX1_gramsFor 13 = .ok (.idiv, 1) := by decide +kernel
theorem dX1_gramsFor_14 : decode cX1_gramsFor 14 = .ok (.ireturn, 1) := by decide +kernel
theorem dX2_init_0 : decode cX2_init 0 = .ok (.aload_n 0, 1) := by decide +kernel
theorem dX2_init_1 : decode cX2_init 1 = .ok (.invokespecial 3, 3) := by decide +kernel
theorem dX2_init_4 : decode cX2_init 4 = .ok (.aload_n 0, 1) := by decide +kernel
theorem dX2_init_5 : decode cX2_init 5 = .ok (.iconst 5, 1) := by decide +kernel
theorem dX2_init_6 : decode cX2_init 6 = .ok (.newarray .int, 2) := by decide +kernel
theorem dX2_init_8 : decode cX2_init 8 = .ok (.putfield 9, 3) := by decide +kernel
theorem dX2_init_11 : decode cX2_init 11 = .ok (.aload_n 0, 1) := by decide +kernel
theorem dX2_init_12 : decode cX2_init 12 = .ok (.aload_n 1, 1) := by decide +kernel
theorem dX2_init_13 : decode cX2_init 13 = .ok (.putfield 15, 3) := by decide +kernel
theorem dX2_init_16 : decode cX2_init 16 = .ok (.return_, 1) := by decide +kernel
theorem dX3_init_0 : decode cX3_init 0 = .ok (.aload_n 0, 1) := by decide +kernel
theorem dX3_init_1 : decode cX3_init 1 = .ok (.invokespecial 3, 3) := by decide +kernel
theorem dX3_init_4 : decode cX3_init 4 = .ok (.aload_n 0, 1) := by decide +kernel
theorem dX3_init_5 : decode cX3_init 5 = .ok (.bipush 80, 2) := by decide +kernel
theorem dX3_init_7 : decode cX3_init 7 = .ok (.newarray .char, 2) := by decide +kernel
theorem dX3_init_9 : decode cX3_init 9 = .ok (.putfield 9, 3) := by decide +kernel
theorem dX3_init_12 : decode cX3_init 12 = .ok (.return_, 1) := by decide +kernel
theorem dX4_init_0 : decode cX4_init 0 = .ok (.aload_n 0, 1) := by decide +kernel
theorem dX4_init_1 : decode cX4_init 1 = .ok (.invokespecial 3, 3) := by decide +kernel
theorem dX4_init_4 : decode cX4_init 4 = .ok (.aload_n 0, 1) := by decide +kernel
theorem dX4_init_5 : decode cX4_init 5 = .ok (.iconst 5, 1) := by decide +kernel
theorem dX4_init_6 : decode cX4_init 6 = .ok (.newarray .int, 2) := by decide +kernel
theorem dX4_init_8 : decode cX4_init 8 = .ok (.putfield 9, 3) := by decide +kernel
theorem dX4_init_11 : decode cX4_init 11 = .ok (.aload_n 0, 1) := by decide +kernel
theorem dX4_init_12 : decode cX4_init 12 = .ok (.iconst 5, 1) := by decide +kernel
theorem dX4_init_13 : decode cX4_init 13 = .ok (.newarray .int, 2) := by decide +kernel
theorem dX4_init_15 : decode cX4_init 15 = .ok (.putfield 15, 3) := by decide +kernel
theorem dX4_init_18 : decode cX4_init 18 = .ok (.aload_n 0, 1) := by decide +kernel
theorem dX4_init_19 : decode cX4_init 19 = .ok (.iconst 3, 1) := by decide +kernel
theorem dX4_init_20 : decode cX4_init 20 = .ok (.newarray .int, 2) := by decide +kernel
theorem dX4_init_22 : decode cX4_init 22 = .ok (.putfield 18, 3) := by decide +kernel
theorem dX4_init_25 : decode cX4_init 25 = .ok (.aload_n 0, 1) := by decide +kernel
theorem dX4_init_26 : decode cX4_init 26 = .ok (.iconst 3, 1) := by decide +kernel
theorem dX4_init_27 : decode cX4_init 27 = .ok (.newarray .int, 2) := by decide +kernel
theorem dX4_init_29 : decode cX4_init 29 = .ok (.putfield 21, 3) := by decide +kernel
theorem dX4_init_32 : decode cX4_init 32 = .ok (.aload_n 0, 1) := by decide +kernel
theorem dX4_init_33 : decode cX4_init 33 = .ok (.iconst 5, 1) := by decide +kernel
theorem dX4_init_34 : decode cX4_init 34 = .ok (.iconst 4, 1) := by decide +kernel
theorem dX4_init_35 : decode cX4_init 35 = .ok (.multianewarray 24 2, 4) := by decide +kernel
theorem dX4_init_39 : decode cX4_init 39 = .ok (.putfield 26, 3) := by decide +kernel
theorem dX4_init_42 : decode cX4_init 42 = .ok (.aload_n 0, 1) := by decide +kernel
theorem dX4_init_43 : decode cX4_init 43 = .ok (.iconst 5, 1) := by decide +kernel
theorem dX4_init_44 : decode cX4_init 44 = .ok (.iconst 4, 1) := by decide +kernel
theorem dX4_init_45 : decode cX4_init 45 = .ok (.multianewarray 24 2, 4) := by decide +kernel
theorem dX4_init_49 : decode cX4_init 49 = .ok (.putfield 29, 3) := by decide +kernel
theorem dX4_init_52 : decode cX4_init 52 = .ok (.aload_n 0, 1) := by decide +kernel
theorem dX4_init_53 : decode cX4_init 53 = .ok (.iconst 5, 1) := by decide +kernel
theorem dX4_init_54 : decode cX4_init 54 = .ok (.iconst 4, 1) := by decide +kernel
theorem dX4_init_55 : decode cX4_init 55 = .ok (.multianewarray 24 2, 4) := by decide +kernel
theorem dX4_init_59 : decode cX4_init 59 = .ok (.putfield 32, 3) := by decide +kernel
theorem dX4_init_62 : decode cX4_init 62 = .ok (.aload_n 0, 1) := by decide +kernel
theorem dX4_init_63 : decode cX4_init 63 = .ok (.iconst 5, 1) := by decide +kernel
theorem dX4_init_64 : decode cX4_init 64 = .ok (.iconst 4, 1) := by decide +kernel
theorem dX4_init_65 : decode cX4_init 65 = .ok (.multianewarray 24 2, 4) := by decide +kernel
theorem dX4_init_69 : decode cX4_init 69 = .ok (.putfield 35, 3) := by decide +kernel
theorem dX4_init_72 : decode cX4_init 72 = .ok (.return_, 1) := by decide +kernel
theorem dX4_find_0 : decode cX4_find 0 = .ok (.aload_n 0, 1) := by decide +kernel
theorem dX4_find_1 : decode cX4_find 1 = .ok (.aload_n 1, 1) := by decide +kernel
theorem dX4_find_2 : decode cX4_find 2 = .ok (.getfield 38, 3) := by decide +kernel
theorem dX4_find_5 : decode cX4_find 5 = .ok (.putfield 44, 3) := by decide +kernel
theorem dX4_find_8 : decode cX4_find 8 = .ok (.aload_n 0, 1) := by decide +kernel
theorem dX4_find_9 : decode cX4_find 9 = .ok (.aload_n 1, 1) := by decide +kernel
theorem dX4_find_10 : decode cX4_find 10 = .ok (.invokevirtual 45, 3) := by decide +kernel
theorem dX4_find_13 : decode cX4_find 13 = .ok (.aload_n 0, 1) := by decide +kernel
theorem dX4_find_14 : decode cX4_find 14 = .ok (.aload_n 1, 1) := by decide +kernel
theorem dX4_find_15 : decode cX4_find 15 = .ok (.iload_n 2, 1) := by decide +kernel
theorem dX4_find_16 : decode cX4_find 16 = .ok (.invokevirtual 49, 3) := by decide +kernel
theorem dX4_find_19 : decode cX4_find 19 = .ok (.aload_n 0, 1) := by decide +kernel
theorem dX4_find_20 : decode cX4_find 20 = .ok (.ldc 53, 2) := by decide +kernel
theorem dX4_find_22 : decode cX4_find 22 = .ok (.putfield 54, 3) := by decide +kernel
theorem dX4_find_25 : decode cX4_find 25 = .ok (.aload_n 0, 1) := by decide +kernel
theorem dX4_find_26 : decode cX4_find 26 = .ok (.getfield 9, 3) := by decide +kernel
theorem dX4_find_29 : decode cX4_find 29 = .ok (.iconst 0, 1) := by decide +kernel
theorem dX4_find_30 : decode cX4_find 30 = .ok (.invokestatic 57, 3) := by decide +kernel
theorem dX4_find_33 : decode cX4_find 33 = .ok (.aload_n 0, 1) := by decide +kernel
theorem dX4_find_34 : decode cX4_find 34 = .ok (.iconst 0, 1) := by decide +kernel
theorem dX4_find_35 : decode cX4_find 35 = .ok (.bipush 20, 2) := by decide +kernel
theorem dX4_find_37 : decode cX4_find 37 = .ok (.invokestatic 63, 3) := by decide +kernel
theorem dX4_find_40 : decode cX4_find 40 = .ok (.aload_n 0, 1) := by decide +kernel
theorem dX4_find_41 : decode cX4_find 41 = .ok (.getfield 54, 3) := by decide +kernel
theorem dX4_find_44 : decode cX4_find 44 = .ok (.ldc 53, 2) := by decide +kernel
theorem dX4_find_46 : decode cX4_find 46 = .ok (.if_icmp .eq 7, 3) := by decide +kernel
theorem dX4_find_49 : decode cX4_find 49 = .ok (.iconst 1, 1) := by decide +kernel
theorem dX4_find_50 : decode cX4_find 50 = .ok (.goto 4, 3) := by decide +kernel
theorem dX4_find_53 : decode cX4_find 53 = .ok (.iconst 0, 1) := by decide +kernel
theorem dX4_find_54 : decode cX4_find 54 = .ok (.ireturn, 1) := by decide +kernel
theorem dX4_readValues_0 : decode cX4_readValues 0 = .ok (.aload_n 0, 1) := by decide +kernel
theorem dX4_readValues_1 : decode cX4_readValues 1 = .ok (.getfield 44, 3) := by decide +kernel
theorem dX4_readValues_4 : decode cX4_readValues 4 = .ok (.iconst 1, 1) := by decide +kernel
theorem dX4_readValues_5 : decode cX4_readValues 5 = .ok (.isub, 1) := by decide +kernel
theorem dX4_readValues_6 : decode cX4_readValues 6 = .ok (.istore_n 2, 1) := by decide +kernel
theorem dX4_readValues_7 : decode cX4_readValues 7 = .ok (.iload_n 2, 1) := by decide +kernel
theorem dX4_readValues_8 : decode cX4_readValues 8 = .ok (.ifCond .lt 156, 3) := by decide +kernel
theorem dX4_readValues_11 : decode cX4_readValues 11 = .ok (.iconst 0, 1) := by decide +kernel
theorem dX4_readValues_12 : decode cX4_readValues 12 = .ok (.istore_n 3, 1) := by decide +kernel
theorem dX4_readValues_13 : decode cX4_readValues 13 = .ok (.iload_n 3, 1) := by decide +kernel
theorem dX4_readValues_14 : decode cX4_readValues 14 = .ok (.iconst 3, 1) := by decide +kernel
theorem dX4_readValues_15 : decode cX4_readValues 15 = .ok (.if_icmp .ge 24, 3) := by decide +kernel
theorem dX4_readValues_18 : decode cX4_readValues 18 = .ok (.aload_n 0, 1) := by decide +kernel
theorem dX4_readValues_19 : decode cX4_readValues 19 = .ok (.getfield 26, 3) := by decide +kernel
theorem dX4_readValues_22 : decode cX4_readValues 22 = .ok (.iload_n 2, 1) := by decide +kernel
theorem dX4_readValues_23 : decode cX4_readValues 23 = .ok (.aaload, 1) := by decide +kernel
theorem dX4_readValues_24 : decode cX4_readValues 24 = .ok (.iload_n 3, 1) := by decide +kernel
theorem dX4_readValues_25 : decode cX4_readValues 25 = .ok (.aload_n 1, 1) := by decide +kernel
theorem dX4_readValues_26 : decode cX4_readValues 26 = .ok (.iload_n 2, 1) := by decide +kernel
theorem dX4_readValues_27 : decode cX4_readValues 27 = .ok (.iload_n 3, 1) := by decide +kernel
theorem dX4_readValues_28 : decode cX4_readValues 28 = .ok (.iconst 0, 1) := by decide +kernel
theorem dX4_readValues_29 : decode cX4_readValues 29 = .ok (.invokevirtual 67, 3) := by decide +kernel
theorem dX4_readValues_32 : decode cX4_readValues 32 = .ok (.iastore, 1) := by decide +kernel
theorem dX4_readValues_33 : decode cX4_readValues 33 = .ok (.iinc 3 1, 3) := by decide +kernel
theorem dX4_readValues_36 : decode cX4_readValues 36 = .ok (.goto (-23), 3) := by decide +kernel
theorem dX4_readValues_39 : decode cX4_readValues 39 = .ok (.aload_n 0, 1) := by decide +kernel
theorem dX4_readValues_40 : decode cX4_readValues 40 = .ok (.getfield 26, 3) := by decide +kernel
theorem dX4_readValues_43 : decode cX4_readValues 43 = .ok (.iload_n 2, 1) := by decide +kernel
theorem dX4_readValues_44 : decode cX4_readValues 44 = .ok (.aaload, 1) := by decide +kernel
theorem dX4_readValues_45 : decode cX4_readValues 45 = .ok (.iconst 3, 1) := by decide +kernel
theorem dX4_readValues_46 : decode cX4_readValues 46 = .ok (.aload_n 1, 1) := by decide +kernel
theorem dX4_readValues_47 : decode cX4_readValues 47 = .ok (.iload_n 2, 1) := by decide +kernel
theorem dX4_readValues_48 : decode cX4_readValues 48 = .ok (.invokevirtual 71, 3) := by decide +kernel
theorem dX4_readValues_51 : decode cX4_readValues 51 = .ok (.iastore, 1) := by decide +kernel
theorem dX4_readValues_52 : decode cX4_readValues 52 = .ok (.iconst 0, 1) := by decide +kernel
theorem dX4_readValues_53 : decode cX4_readValues 53 = .ok (.istore_n 3, 1) := by decide +kernel
theorem dX4_readValues_54 : decode cX4_readValues 54 = .ok (.iload_n 3, 1) := by decide +kernel
theorem dX4_readValues_55 : decode cX4_readValues 55 = .ok (.iconst 4, 1) := by decide +kernel
theorem dX4_readValues_56 : decode cX4_readValues 56 = .ok (.if_icmp .ge 102, 3) := by decide +kernel
theorem dX4_readValues_59 : decode cX4_readValues 59 = .ok (.iload_n 2, 1) := by decide +kernel
theorem dX4_readValues_60 : decode cX4_readValues 60 = .ok (.iconst 1, 1) := by decide +kernel
theorem dX4_readValues_61 : decode cX4_readValues 61 = .ok (.iadd, 1) := by decide +kernel
theorem dX4_readValues_62 : decode cX4_readValues 62 = .ok (.aload_n 0, 1) := by decide +kernel
theorem dX4_readValues_63 : decode cX4_readValues 63 = .ok (.getfield 44, 3) := by decide +kernel
theorem dX4_readValues_66 : decode cX4_readValues 66 = .ok (.if_icmp .lt 7, 3) := by decide +kernel
theorem dX4_readValues_69 : decode cX4_readValues 69 = .ok (.iconst 1, 1) := by decide +kernel
theorem dX4_readValues_70 : decode cX4_readValues 70 = .ok (.goto 4, 3) := by decide +kernel
theorem dX4_readValues_73 : decode cX4_readValues 73 = .ok (.iconst 0, 1) := by decide +kernel
theorem dX4_readValues_74 : decode cX4_readValues 74 = .ok (.istore 4, 2) := by decide +kernel
theorem dX4_readValues_76 : decode cX4_readValues 76 = .ok (.aload_n 0, 1) := by decide +kernel
theorem dX4_readValues_77 : decode cX4_readValues 77 = .ok (.getfield 26, 3) := by decide +kernel
theorem dX4_readValues_80 : decode cX4_readValues 80 = .ok (.iload_n 2, 1) := by decide +kernel
theorem dX4_readValues_81 : decode cX4_readValues 81 = .ok (.aaload, 1) := by decide +kernel
theorem dX4_readValues_82 : decode cX4_readValues 82 = .ok (.iload_n 3, 1) := by decide +kernel
theorem dX4_readValues_83 : decode cX4_readValues 83 = .ok (.iaload, 1) := by decide +kernel
theorem dX4_readValues_84 : decode cX4_readValues 84 = .ok (.istore 5, 2) := by decide +kernel
theorem dX4_readValues_86 : decode cX4_readValues 86 = .ok (.aload_n 0, 1) := by decide +kernel
theorem dX4_readValues_87 : decode cX4_readValues 87 = .ok (.getfield 29, 3) := by decide +kernel
theorem dX4_readValues_90 : decode cX4_readValues 90 = .ok (.iload_n 2, 1) := by decide +kernel
theorem dX4_readValues_91 : decode cX4_readValues 91 = .ok (.aaload, 1) := by decide +kernel
theorem dX4_readValues_92 : decode cX4_readValues 92 = .ok (.iload_n 3, 1) := by decide +kernel
theorem dX4_readValues_93 : decode cX4_readValues 93 = .ok (.iload 4, 2) := by decide +kernel
theorem dX4_readValues_95 : decode cX4_readValues 95 = .ok (.ifCond .eq 8, 3) := by decide +kernel
theorem dX4_readValues_98 : decode cX4_readValues 98 = .ok (.iload 5, 2) := by decide +kernel
theorem dX4_readValues_100 : decode cX4_readValues 100 = .ok (.goto 18, 3) := by decide +kernel
theorem dX4_readValues_103 : decode cX4_readValues 103 = .ok (.iload 5, 2) := by decide +kernel
theorem dX4_readValues_105 : decode cX4_readValues 105 = .ok (.aload_n 0, 1) := by decide +kernel
theorem dX4_readValues_106 : decode cX4_readValues 106 = .ok (.getfield 29, 3) := by decide +kernel
theorem dX4_readValues_109 : decode cX4_readValues 109 = .ok (.iload_n 2, 1) := by decide +kernel
theorem dX4_readValues_110 : decode cX4_readValues 110 = .ok (.iconst 1, 1) := by decide +kernel
theorem dX4_readValues_111 : decode cX4_readValues 111 = .ok (.iadd, 1) := by decide +kernel
theorem dX4_readValues_112 : decode cX4_readValues 112 = .ok (.aaload, 1) := by decide +kernel
theorem dX4_readValues_113 : decode cX4_readValues 113 = .ok (.iload_n 3, 1) := by decide +kernel
theorem dX4_readValues_114 : decode cX4_readValues 114 = .ok (.iaload, 1) := by decide +kernel
theorem dX4_readValues_115 : decode cX4_readValues 115 = .ok (.invokestatic 75, 3) := by decide +kernel
theorem dX4_readValues_118 : decode cX4_readValues 118 = .ok (.iastore, 1) := by decide +kernel
theorem dX4_readValues_119 : decode cX4_readValues 119 = .ok (.aload_n 0, 1) := by decide +kernel
theorem dX4_readValues_120 : decode cX4_readValues 120 = .ok (.getfield 32, 3) := by decide +kernel
theorem dX4_readValues_123 : decode cX4_readValues 123 = .ok (.iload_n 2, 1) := by decide +kernel
theorem dX4_readValues_124 : decode cX4_readValues 124 = .ok (.aaload, 1) := by decide +kernel
theorem dX4_readValues_125 : decode cX4_readValues 125 = .ok (.iload_n 3, 1) := by decide +kernel
theorem dX4_readValues_126 : decode cX4_readValues 126 = .ok (.iload 4, 2) := by decide +kernel
theorem dX4_readValues_128 : decode cX4_readValues 128 = .ok (.ifCond .eq 8, 3) := by decide +kernel
theorem dX4_readValues_131 : decode cX4_readValues 131 = .ok (.iload 5, 2) := by decide +kernel
theorem dX4_readValues_133 : decode cX4_readValues 133 = .ok (.goto 18, 3) := by decide +kernel
theorem dX4_readValues_136 : decode cX4_readValues 136 = .ok (.iload 5, 2) := by decide +kernel
theorem dX4_readValues_138 : decode cX4_readValues 138 = .ok (.aload_n 0, 1) := by decide +kernel
theorem dX4_readValues_139 : decode cX4_readValues 139 = .ok (.getfield 32, 3) := by decide +kernel
theorem dX4_readValues_142 : decode cX4_readValues 142 = .ok (.iload_n 2, 1) := by decide +kernel
theorem dX4_readValues_143 : decode cX4_readValues 143 = .ok (.iconst 1, 1) := by decide +kernel
theorem dX4_readValues_144 : decode cX4_readValues 144 = .ok (.iadd, 1) := by decide +kernel
theorem dX4_readValues_145 : decode cX4_readValues 145 = .ok (.aaload, 1) := by decide +kernel
theorem dX4_readValues_146 : decode cX4_readValues 146 = .ok (.iload_n 3, 1) := by decide +kernel
theorem dX4_readValues_147 : decode cX4_readValues 147 = .ok (.iaload, 1) := by decide +kernel
theorem dX4_readValues_148 : decode cX4_readValues 148 = .ok (.invokestatic 81, 3) := by decide +kernel
theorem dX4_readValues_151 : decode cX4_readValues 151 = .ok (.iastore, 1) := by decide +kernel
theorem dX4_readValues_152 : decode cX4_readValues 152 = .ok (.iinc 3 1, 3) := by decide +kernel
theorem dX4_readValues_155 : decode cX4_readValues 155 = .ok (.goto (-101), 3) := by decide +kernel
theorem dX4_readValues_158 : decode cX4_readValues 158 = .ok (.iinc 2 (-1), 3) := by decide +kernel
theorem dX4_readValues_161 : decode cX4_readValues 161 = .ok (.goto (-154), 3) := by decide +kernel
theorem dX4_readValues_164 : decode cX4_readValues 164 = .ok (.return_, 1) := by decide +kernel
theorem dX4_readBounds_0 : decode cX4_readBounds 0 = .ok (.iconst 0, 1) := by decide +kernel
theorem dX4_readBounds_1 : decode cX4_readBounds 1 = .ok (.istore_n 3, 1) := by decide +kernel
theorem dX4_readBounds_2 : decode cX4_readBounds 2 = .ok (.iload_n 3, 1) := by decide +kernel
theorem dX4_readBounds_3 : decode cX4_readBounds 3 = .ok (.iconst 3, 1) := by decide +kernel
theorem dX4_readBounds_4 : decode cX4_readBounds 4 = .ok (.if_icmp .ge 76, 3) := by decide +kernel
theorem dX4_readBounds_7 : decode cX4_readBounds 7 = .ok (.aload_n 1, 1) := by decide +kernel
theorem dX4_readBounds_8 : decode cX4_readBounds 8 = .ok (.getfield 84, 3) := by decide +kernel
theorem dX4_readBounds_11 : decode cX4_readBounds 11 = .ok (.iload_n 3, 1) := by decide +kernel
theorem dX4_readBounds_12 : decode cX4_readBounds 12 = .ok (.iaload, 1) := by decide +kernel
theorem dX4_readBounds_13 : decode cX4_readBounds 13 = .ok (.iload_n 2, 1) := by decide +kernel
theorem dX4_readBounds_14 : decode cX4_readBounds 14 = .ok (.iload_n 3, 1) := by decide +kernel
theorem dX4_readBounds_15 : decode cX4_readBounds 15 = .ok (.if_icmp .ne 7, 3) := by decide +kernel
theorem dX4_readBounds_18 : decode cX4_readBounds 18 = .ok (.iconst 1, 1) := by decide +kernel
theorem dX4_readBounds_19 : decode cX4_readBounds 19 = .ok (.goto 4, 3) := by decide +kernel
theorem dX4_readBounds_22 : decode cX4_readBounds 22 = .ok (.iconst 0, 1) := by decide +kernel
theorem dX4_readBounds_23 : decode cX4_readBounds 23 = .ok (.isub, 1) := by decide +kernel
theorem dX4_readBounds_24 : decode cX4_readBounds 24 = .ok (.istore 4, 2) := by decide +kernel
theorem dX4_readBounds_26 : decode cX4_readBounds 26 = .ok (.aload_n 1, 1) := by decide +kernel
theorem dX4_readBounds_27 : decode cX4_readBounds 27 = .ok (.getfield 87, 3) := by decide +kernel
theorem dX4_readBounds_30 : decode cX4_readBounds 30 = .ok (.iload_n 3, 1) := by decide +kernel
theorem dX4_readBounds_31 : decode cX4_readBounds 31 = .ok (.iaload, 1) := by decide +kernel
theorem dX4_readBounds_32 : decode cX4_readBounds 32 = .ok (.iload_n 2, 1) := by decide +kernel
theorem dX4_readBounds_33 : decode cX4_readBounds 33 = .ok (.iconst 3, 1) := by decide +kernel
theorem dX4_readBounds_34 : decode cX4_readBounds 34 = .ok (.iload_n 3, 1) := by decide +kernel
theorem dX4_readBounds_35 : decode cX4_readBounds 35 = .ok (.iadd, 1) := by decide +kernel
theorem dX4_readBounds_36 : decode cX4_readBounds 36 = .ok (.if_icmp .ne 7, 3) := by decide +kernel
theorem dX4_readBounds_39 : decode cX4_readBounds 39 = .ok (.iconst 1, 1) := by decide +kernel
theorem dX4_readBounds_40 : decode cX4_readBounds 40 = .ok (.goto 4, 3) := by decide +kernel
theorem dX4_readBounds_43 : decode cX4_readBounds 43 = .ok (.iconst 0, 1) := by decide +kernel
theorem dX4_readBounds_44 : decode cX4_readBounds 44 = .ok (.iadd, 1) := by decide +kernel
theorem dX4_readBounds_45 : decode cX4_readBounds 45 = .ok (.istore 5, 2) := by decide +kernel
theorem dX4_readBounds_47 : decode cX4_readBounds 47 = .ok (.aload_n 0, 1) := by decide +kernel
theorem dX4_readBounds_48 : decode cX4_readBounds 48 = .ok (.getfield 18, 3) := by decide +kernel
theorem dX4_readBounds_51 : decode cX4_readBounds 51 = .ok (.iload_n 3, 1) := by decide +kernel
theorem dX4_readBounds_52 : decode cX4_readBounds 52 = .ok (.iload 4, 2) := by decide +kernel
theorem dX4_readBounds_54 : decode cX4_readBounds 54 = .ok (.bipush 20, 2) := by decide +kernel
theorem dX4_readBounds_56 : decode cX4_readBounds 56 = .ok (.imul, 1) := by decide +kernel
theorem dX4_readBounds_57 : decode cX4_readBounds 57 = .ok (.iastore, 1) := by decide +kernel
theorem dX4_readBounds_58 : decode cX4_readBounds 58 = .ok (.aload_n 0, 1) := by decide +kernel
theorem dX4_readBounds_59 : decode cX4_readBounds 59 = .ok (.getfield 21, 3) := by decide +kernel
theorem dX4_readBounds_62 : decode cX4_readBounds 62 = .ok (.iload_n 3, 1) := by decide +kernel
theorem dX4_readBounds_63 : decode cX4_readBounds 63 = .ok (.iload 5, 2) := by decide +kernel
theorem dX4_readBounds_65 : decode cX4_readBounds 65 = .ok (.bipush 20, 2) := by decide +kernel
theorem dX4_readBounds_67 : decode cX4_readBounds 67 = .ok (.imul, 1) := by decide +kernel
theorem dX4_readBounds_68 : decode cX4_readBounds 68 = .ok (.bipush 20, 2) := by decide +kernel
theorem dX4_readBounds_70 : decode cX4_readBounds 70 = .ok (.iadd, 1) := by decide +kernel
theorem dX4_readBounds_71 : decode cX4_readBounds 71 = .ok (.iconst 1, 1) := by decide +kernel
theorem dX4_readBounds_72 : decode cX4_readBounds 72 = .ok (.isub, 1) := by decide +kernel
theorem dX4_readBounds_73 : decode cX4_readBounds 73 = .ok (.iastore, 1) := by decide +kernel
theorem dX4_readBounds_74 : decode cX4_readBounds 74 = .ok (.iinc 3 1, 3) := by decide +kernel
theorem dX4_readBounds_77 : decode cX4_readBounds 77 = .ok (.goto (-75), 3) := by decide +kernel
theorem dX4_readBounds_80 : decode cX4_readBounds 80 = .ok (.return_, 1) := by decide +kernel
theorem dX4_tryShares_0 : decode cX4_tryShares 0 = .ok (.iload_n 1, 1) := by decide +kernel
theorem dX4_tryShares_1 : decode cX4_tryShares 1 = .ok (.aload_n 0, 1) := by decide +kernel
theorem dX4_tryShares_2 : decode cX4_tryShares 2 = .ok (.getfield 44, 3) := by decide +kernel
theorem dX4_tryShares_5 : decode cX4_tryShares 5 = .ok (.if_icmp .ge 12, 3) := by decide +kernel
theorem dX4_tryShares_8 : decode cX4_tryShares 8 = .ok (.aload_n 0, 1) := by decide +kernel
theorem dX4_tryShares_9 : decode cX4_tryShares 9 = .ok (.iload_n 1, 1) := by decide +kernel
theorem dX4_tryShares_10 : decode cX4_tryShares 10 = .ok (.iload_n 2, 1) := by decide +kernel
theorem dX4_tryShares_11 : decode cX4_tryShares 11 = .ok (.invokevirtual 90, 3) := by decide +kernel
theorem dX4_tryShares_14 : decode cX4_tryShares 14 = .ok (.ifCond .ne 4, 3) := by decide +kernel
theorem dX4_tryShares_17 : decode cX4_tryShares 17 = .ok (.return_, 1) := by decide +kernel
theorem dX4_tryShares_18 : decode cX4_tryShares 18 = .ok (.iload_n 1, 1) := by decide +kernel
theorem dX4_tryShares_19 : decode cX4_tryShares 19 = .ok (.aload_n 0, 1) := by decide +kernel
theorem dX4_tryShares_20 : decode cX4_tryShares 20 = .ok (.getfield 44, 3) := by decide +kernel
theorem dX4_tryShares_23 : decode cX4_tryShares 23 = .ok (.iconst 1, 1) := by decide +kernel
theorem dX4_tryShares_24 : decode cX4_tryShares 24 = .ok (.isub, 1) := by decide +kernel
theorem dX4_tryShares_25 : decode cX4_tryShares 25 = .ok (.if_icmp .ne 10, 3) := by decide +kernel
theorem dX4_tryShares_28 : decode cX4_tryShares 28 = .ok (.aload_n 0, 1) := by decide +kernel
theorem dX4_tryShares_29 : decode cX4_tryShares 29 = .ok (.iload_n 1, 1) := by decide +kernel
theorem dX4_tryShares_30 : decode cX4_tryShares 30 = .ok (.iload_n 2, 1) := by decide +kernel
theorem dX4_tryShares_31 : decode cX4_tryShares 31 = .ok (.invokevirtual 94, 3) := by decide +kernel
theorem dX4_tryShares_34 : decode cX4_tryShares 34 = .ok (.return_, 1) := by decide +kernel
theorem dX4_tryShares_35 : decode cX4_tryShares 35 = .ok (.iload_n 2, 1) := by decide +kernel
theorem dX4_tryShares_36 : decode cX4_tryShares 36 = .ok (.istore_n 3, 1) := by decide +kernel
theorem dX4_tryShares_37 : decode cX4_tryShares 37 = .ok (.iload_n 3, 1) := by decide +kernel
theorem dX4_tryShares_38 : decode cX4_tryShares 38 = .ok (.ifCond .lt 25, 3) := by decide +kernel
theorem dX4_tryShares_41 : decode cX4_tryShares 41 = .ok (.aload_n 0, 1) := by decide +kernel
theorem dX4_tryShares_42 : decode cX4_tryShares 42 = .ok (.iload_n 1, 1) := by decide +kernel
theorem dX4_tryShares_43 : decode cX4_tryShares 43 = .ok (.iload_n 3, 1) := by decide +kernel
theorem dX4_tryShares_44 : decode cX4_tryShares 44 = .ok (.invokevirtual 98, 3) := by decide +kernel
theorem dX4_tryShares_47 : decode cX4_tryShares 47 = .ok (.aload_n 0, 1) := by decide +kernel
theorem dX4_tryShares_48 : decode cX4_tryShares 48 = .ok (.iload_n 1, 1) := by decide +kernel
theorem dX4_tryShares_49 : decode cX4_tryShares 49 = .ok (.iconst 1, 1) := by decide +kernel
theorem dX4_tryShares_50 : decode cX4_tryShares 50 = .ok (.iadd, 1) := by decide +kernel
theorem dX4_tryShares_51 : decode cX4_tryShares 51 = .ok (.iload_n 2, 1) := by decide +kernel
theorem dX4_tryShares_52 : decode cX4_tryShares 52 = .ok (.iload_n 3, 1) := by decide +kernel
theorem dX4_tryShares_53 : decode cX4_tryShares 53 = .ok (.isub, 1) := by decide +kernel
theorem dX4_tryShares_54 : decode cX4_tryShares 54 = .ok (.invokestatic 63, 3) := by decide +kernel
theorem dX4_tryShares_57 : decode cX4_tryShares 57 = .ok (.iinc 3 (-1), 3) := by decide +kernel
theorem dX4_tryShares_60 : decode cX4_tryShares 60 = .ok (.goto (-23), 3) := by decide +kernel
theorem dX4_tryShares_63 : decode cX4_tryShares 63 = .ok (.return_, 1) := by decide +kernel
theorem dX4_mayImprove_0 : decode cX4_mayImprove 0 = .ok (.aload_n 0, 1) := by decide +kernel
theorem dX4_mayImprove_1 : decode cX4_mayImprove 1 = .ok (.getfield 35, 3) := by decide +kernel
theorem dX4_mayImprove_4 : decode cX4_mayImprove 4 = .ok (.iload_n 1, 1) := by decide +kernel
theorem dX4_mayImprove_5 : decode cX4_mayImprove 5 = .ok (.aaload, 1) := by decide +kernel
theorem dX4_mayImprove_6 : decode cX4_mayImprove 6 = .ok (.astore_n 3, 1) := by decide +kernel
theorem dX4_mayImprove_7 : decode cX4_mayImprove 7 = .ok (.aload_n 3, 1) := by decide +kernel
theorem dX4_mayImprove_8 : decode cX4_mayImprove 8 = .ok (.iconst 3, 1) := by decide +kernel
theorem dX4_mayImprove_9 : decode cX4_mayImprove 9 = .ok (.iaload, 1) := by decide +kernel
theorem dX4_mayImprove_10 : decode cX4_mayImprove 10 = .ok (.iload_n 2, 1) := by decide +kernel
theorem dX4_mayImprove_11 : decode cX4_mayImprove 11 = .ok (.aload_n 0, 1) := by decide +kernel
theorem dX4_mayImprove_12 : decode cX4_mayImprove 12 = .ok (.getfield 29, 3) := by decide +kernel
theorem dX4_mayImprove_15 : decode cX4_mayImprove 15 = .ok (.iload_n 1, 1) := by decide +kernel
theorem dX4_mayImprove_16 : decode cX4_mayImprove 16 = .ok (.aaload, 1) := by decide +kernel
theorem dX4_mayImprove_17 : decode cX4_mayImprove 17 = .ok (.iconst 3, 1) := by decide +kernel
theorem dX4_mayImprove_18 : decode cX4_mayImprove 18 = .ok (.iaload, 1) := by decide +kernel
theorem dX4_mayImprove_19 : decode cX4_mayImprove 19 = .ok (.imul, 1) := by decide +kernel
theorem dX4_mayImprove_20 : decode cX4_mayImprove 20 = .ok (.iadd, 1) := by decide +kernel
theorem dX4_mayImprove_21 : decode cX4_mayImprove 21 = .ok (.aload_n 0, 1) := by decide +kernel
theorem dX4_mayImprove_22 : decode cX4_mayImprove 22 = .ok (.getfield 54, 3) := by decide +kernel
theorem dX4_mayImprove_25 : decode cX4_mayImprove 25 = .ok (.if_icmp .lt 5, 3) := by decide +kernel
theorem dX4_mayImprove_28 : decode cX4_mayImprove 28 = .ok (.iconst 0, 1) := by decide +kernel
theorem dX4_mayImprove_29 : decode cX4_mayImprove 29 = .ok (.ireturn, 1) := by decide +kernel
theorem dX4_mayImprove_30 : decode cX4_mayImprove 30 = .ok (.iconst 0, 1) := by decide +kernel
theorem dX4_mayImprove_31 : decode cX4_mayImprove 31 = .ok (.istore 4, 2) := by decide +kernel
theorem dX4_mayImprove_33 : decode cX4_mayImprove 33 = .ok (.iload 4, 2) := by decide +kernel
theorem dX4_mayImprove_35 : decode cX4_mayImprove 35 = .ok (.iconst 3, 1) := by decide +kernel
theorem dX4_mayImprove_36 : decode cX4_mayImprove 36 = .ok (.if_icmp .ge 65, 3) := by decide +kernel
theorem dX4_mayImprove_39 : decode cX4_mayImprove 39 = .ok (.aload_n 3, 1) := by decide +kernel
theorem dX4_mayImprove_40 : decode cX4_mayImprove 40 = .ok (.iload 4, 2) := by decide +kernel
theorem dX4_mayImprove_42 : decode cX4_mayImprove 42 = .ok (.iaload, 1) := by decide +kernel
theorem dX4_mayImprove_43 : decode cX4_mayImprove 43 = .ok (.iload_n 2, 1) := by decide +kernel
theorem dX4_mayImprove_44 : decode cX4_mayImprove 44 = .ok (.aload_n 0, 1) := by decide +kernel
theorem dX4_mayImprove_45 : decode cX4_mayImprove 45 = .ok (.getfield 32, 3) := by decide +kernel
theorem dX4_mayImprove_48 : decode cX4_mayImprove 48 = .ok (.iload_n 1, 1) := by decide +kernel
theorem dX4_mayImprove_49 : decode cX4_mayImprove 49 = .ok (.aaload, 1) := by decide +kernel
theorem dX4_mayImprove_50 : decode cX4_mayImprove 50 = .ok (.iload 4, 2) := by decide +kernel
theorem dX4_mayImprove_52 : decode cX4_mayImprove 52 = .ok (.iaload, 1) := by decide +kernel
theorem dX4_mayImprove_53 : decode cX4_mayImprove 53 = .ok (.imul, 1) := by decide +kernel
theorem dX4_mayImprove_54 : decode cX4_mayImprove 54 = .ok (.iadd, 1) := by decide +kernel
theorem dX4_mayImprove_55 : decode cX4_mayImprove 55 = .ok (.aload_n 0, 1) := by decide +kernel
theorem dX4_mayImprove_56 : decode cX4_mayImprove 56 = .ok (.getfield 18, 3) := by decide +kernel
theorem dX4_mayImprove_59 : decode cX4_mayImprove 59 = .ok (.iload 4, 2) := by decide +kernel
theorem dX4_mayImprove_61 : decode cX4_mayImprove 61 = .ok (.iaload, 1) := by decide +kernel
theorem dX4_mayImprove_62 : decode cX4_mayImprove 62 = .ok (.if_icmp .ge 5, 3) := by decide +kernel
theorem dX4_mayImprove_65 : decode cX4_mayImprove 65 = .ok (.iconst 0, 1) := by decide +kernel
theorem dX4_mayImprove_66 : decode cX4_mayImprove 66 = .ok (.ireturn, 1) := by decide +kernel
theorem dX4_mayImprove_67 : decode cX4_mayImprove 67 = .ok (.aload_n 3, 1) := by decide +kernel
theorem dX4_mayImprove_68 : decode cX4_mayImprove 68 = .ok (.iload 4, 2) := by decide +kernel
theorem dX4_mayImprove_70 : decode cX4_mayImprove 70 = .ok (.iaload, 1) := by decide +kernel
theorem dX4_mayImprove_71 : decode cX4_mayImprove 71 = .ok (.iload_n 2, 1) := by decide +kernel
theorem dX4_mayImprove_72 : decode cX4_mayImprove 72 = .ok (.aload_n 0, 1) := by decide +kernel
theorem dX4_mayImprove_73 : decode cX4_mayImprove 73 = .ok (.getfield 29, 3) := by decide +kernel
theorem dX4_mayImprove_76 : decode cX4_mayImprove 76 = .ok (.iload_n 1, 1) := by decide +kernel
theorem dX4_mayImprove_77 : decode cX4_mayImprove 77 = .ok (.aaload, 1) := by decide +kernel
theorem dX4_mayImprove_78 : decode cX4_mayImprove 78 = .ok (.iload 4, 2) := by decide +kernel
theorem dX4_mayImprove_80 : decode cX4_mayImprove 80 = .ok (.iaload, 1) := by decide +kernel
theorem dX4_mayImprove_81 : decode cX4_mayImprove 81 = .ok (.imul, 1) := by decide +kernel
theorem dX4_mayImprove_82 : decode cX4_mayImprove 82 = .ok (.iadd, 1) := by decide +kernel
theorem dX4_mayImprove_83 : decode cX4_mayImprove 83 = .ok (.aload_n 0, 1) := by decide +kernel
theorem dX4_mayImprove_84 : decode cX4_mayImprove 84 = .ok (.getfield 21, 3) := by decide +kernel
theorem dX4_mayImprove_87 : decode cX4_mayImprove 87 = .ok (.iload 4, 2) := by decide +kernel
theorem dX4_mayImprove_89 : decode cX4_mayImprove 89 = .ok (.iaload, 1) := by decide +kernel
theorem dX4_mayImprove_90 : decode cX4_mayImprove 90 = .ok (.if_icmp .le 5, 3) := by decide +kernel
theorem dX4_mayImprove_93 : decode cX4_mayImprove 93 = .ok (.iconst 0, 1) := by decide +kernel
theorem dX4_mayImprove_94 : decode cX4_mayImprove 94 = .ok (.ireturn, 1) := by decide +kernel
theorem dX4_mayImprove_95 : decode cX4_mayImprove 95 = .ok (.iinc 4 1, 3) := by decide +kernel
theorem dX4_mayImprove_98 : decode cX4_mayImprove 98 = .ok (.goto (-65), 3) := by decide +kernel
theorem dX4_mayImprove_101 : decode cX4_mayImprove 101 = .ok (.iconst 1, 1) := by decide +kernel
theorem dX4_mayImprove_102 : decode cX4_mayImprove 102 = .ok (.ireturn, 1) := by decide +kernel
theorem dX4_giveTo_0 : decode cX4_giveTo 0 = .ok (.aload_n 0, 1) := by decide +kernel
theorem dX4_giveTo_1 : decode cX4_giveTo 1 = .ok (.getfield 15, 3) := by decide +kernel
theorem dX4_giveTo_4 : decode cX4_giveTo 4 = .ok (.iload_n 1, 1) := by decide +kernel
theorem dX4_giveTo_5 : decode cX4_giveTo 5 = .ok (.iload_n 2, 1) := by decide +kernel
theorem dX4_giveTo_6 : decode cX4_giveTo 6 = .ok (.iastore, 1) := by decide +kernel
theorem dX4_giveTo_7 : decode cX4_giveTo 7 = .ok (.iconst 0, 1) := by decide +kernel
theorem dX4_giveTo_8 : decode cX4_giveTo 8 = .ok (.istore_n 3, 1) := by decide +kernel
theorem dX4_giveTo_9 : decode cX4_giveTo 9 = .ok (.iload_n 3, 1) := by decide +kernel
theorem dX4_giveTo_10 : decode cX4_giveTo 10 = .ok (.iconst 4, 1) := by decide +kernel
theorem dX4_giveTo_11 : decode cX4_giveTo 11 = .ok (.if_icmp .ge 38, 3) := by decide +kernel
theorem dX4_giveTo_14 : decode cX4_giveTo 14 = .ok (.aload_n 0, 1) := by decide +kernel
theorem dX4_giveTo_15 : decode cX4_giveTo 15 = .ok (.getfield 35, 3) := by decide +kernel
theorem dX4_giveTo_18 : decode cX4_giveTo 18 = .ok (.iload_n 1, 1) := by decide +kernel
theorem dX4_giveTo_19 : decode cX4_giveTo 19 = .ok (.iconst 1, 1) := by decide +kernel
theorem dX4_giveTo_20 : decode cX4_giveTo 20 = .ok (.iadd, 1) := by decide +kernel
theorem dX4_giveTo_21 : decode cX4_giveTo 21 = .ok (.aaload, 1) := by decide +kernel
theorem dX4_giveTo_22 : decode cX4_giveTo 22 = .ok (.iload_n 3, 1) := by decide +kernel
theorem dX4_giveTo_23 : decode cX4_giveTo 23 = .ok (.aload_n 0, 1) := by decide +kernel
theorem dX4_giveTo_24 : decode cX4_giveTo 24 = .ok (.getfield 35, 3) := by decide +kernel
theorem dX4_giveTo_27 : decode cX4_giveTo 27 = .ok (.iload_n 1, 1) := by decide +kernel
theorem dX4_giveTo_28 : decode cX4_giveTo 28 = .ok (.aaload, 1) := by decide +kernel
theorem dX4_giveTo_29 : decode cX4_giveTo 29 = .ok (.iload_n 3, 1) := by decide +kernel
theorem dX4_giveTo_30 : decode cX4_giveTo 30 = .ok (.iaload, 1) := by decide +kernel
theorem dX4_giveTo_31 : decode cX4_giveTo 31 = .ok (.iload_n 2, 1) := by decide +kernel
theorem dX4_giveTo_32 : decode cX4_giveTo 32 = .ok (.aload_n 0, 1) := by decide +kernel
theorem dX4_giveTo_33 : decode cX4_giveTo 33 = .ok (.getfield 26, 3) := by decide +kernel
theorem dX4_giveTo_36 : decode cX4_giveTo 36 = .ok (.iload_n 1, 1) := by decide +kernel
theorem dX4_giveTo_37 : decode cX4_giveTo 37 = .ok (.aaload, 1) := by decide +kernel
theorem dX4_giveTo_38 : decode cX4_giveTo 38 = .ok (.iload_n 3, 1) := by decide +kernel
theorem dX4_giveTo_39 : decode cX4_giveTo 39 = .ok (.iaload, 1) := by decide +kernel
theorem dX4_giveTo_40 : decode cX4_giveTo 40 = .ok (.imul, 1) := by decide +kernel
theorem dX4_giveTo_41 : decode cX4_giveTo 41 = .ok (.iadd, 1) := by decide +kernel
theorem dX4_giveTo_42 : decode cX4_giveTo 42 = .ok (.iastore, 1) := by decide +kernel
theorem dX4_giveTo_43 : decode cX4_giveTo 43 = .ok (.iinc 3 1, 3) := by decide +kernel
theorem dX4_giveTo_46 : decode cX4_giveTo 46 = .ok (.goto (-37), 3) := by decide +kernel
theorem dX4_giveTo_49 : decode cX4_giveTo 49 = .ok (.return_, 1) := by decide +kernel
theorem dX4_keepBest_0 : decode cX4_keepBest 0 = .ok (.aload_n 0, 1) := by decide +kernel
theorem dX4_keepBest_1 : decode cX4_keepBest 1 = .ok (.getfield 15, 3) := by decide +kernel
theorem dX4_keepBest_4 : decode cX4_keepBest 4 = .ok (.iload_n 1, 1) := by decide +kernel
theorem dX4_keepBest_5 : decode cX4_keepBest 5 = .ok (.iload_n 2, 1) := by decide +kernel
theorem dX4_keepBest_6 : decode cX4_keepBest 6 = .ok (.iastore, 1) := by decide +kernel
theorem dX4_keepBest_7 : decode cX4_keepBest 7 = .ok (.aload_n 0, 1) := by decide +kernel
theorem dX4_keepBest_8 : decode cX4_keepBest 8 = .ok (.getfield 15, 3) := by decide +kernel
theorem dX4_keepBest_11 : decode cX4_keepBest 11 = .ok (.iconst 0, 1) := by decide +kernel
theorem dX4_keepBest_12 : decode cX4_keepBest 12 = .ok (.aload_n 0, 1) := by decide +kernel
theorem dX4_keepBest_13 : decode cX4_keepBest 13 = .ok (.getfield 9, 3) := by decide +kernel
theorem dX4_keepBest_16 : decode cX4_keepBest 16 = .ok (.iconst 0, 1) := by decide +kernel
theorem dX4_keepBest_17 : decode cX4_keepBest 17 = .ok (.aload_n 0, 1) := by decide +kernel
theorem dX4_keepBest_18 : decode cX4_keepBest 18 = .ok (.getfield 44, 3) := by decide +kernel
theorem dX4_keepBest_21 : decode cX4_keepBest 21 = .ok (.invokestatic 101, 3) := by decide +kernel
theorem dX4_keepBest_24 : decode cX4_keepBest 24 = .ok (.aload_n 0, 1) := by decide +kernel
theorem dX4_keepBest_25 : decode cX4_keepBest 25 = .ok (.aload_n 0, 1) := by decide +kernel
theorem dX4_keepBest_26 : decode cX4_keepBest 26 = .ok (.getfield 35, 3) := by decide +kernel
theorem dX4_keepBest_29 : decode cX4_keepBest 29 = .ok (.iload_n 1, 1) := by decide +kernel
theorem dX4_keepBest_30 : decode cX4_keepBest 30 = .ok (.aaload, 1) := by decide +kernel
theorem dX4_keepBest_31 : decode cX4_keepBest 31 = .ok (.iconst 3, 1) := by decide +kernel
theorem dX4_keepBest_32 : decode cX4_keepBest 32 = .ok (.iaload, 1) := by decide +kernel
theorem dX4_keepBest_33 : decode cX4_keepBest 33 = .ok (.iload_n 2, 1) := by decide +kernel
theorem dX4_keepBest_34 : decode cX4_keepBest 34 = .ok (.aload_n 0, 1) := by decide +kernel
theorem dX4_keepBest_35 : decode cX4_keepBest 35 = .ok (.getfield 26, 3) := by decide +kernel
theorem dX4_keepBest_38 : decode cX4_keepBest 38 = .ok (.iload_n 1, 1) := by decide +kernel
theorem dX4_keepBest_39 : decode cX4_keepBest 39 = .ok (.aaload, 1) := by decide +kernel
theorem dX4_keepBest_40 : decode cX4_keepBest 40 = .ok (.iconst 3, 1) := by decide +kernel
theorem dX4_keepBest_41 : decode cX4_keepBest 41 = .ok (.iaload, 1) := by decide +kernel
theorem dX4_keepBest_42 : decode cX4_keepBest 42 = .ok (.imul, 1) := by decide +kernel
theorem dX4_keepBest_43 : decode cX4_keepBest 43 = .ok (.iadd, 1) := by decide +kernel
theorem dX4_keepBest_44 : decode cX4_keepBest 44 = .ok (.putfield 54, 3) := by decide +kernel
theorem dX4_keepBest_47 : decode cX4_keepBest 47 = .ok (.return_, 1) := by decide +kernel
theorem dX5_init_0 : decode cX5_init 0 = .ok (.aload_n 0, 1) := by decide +kernel
theorem dX5_init_1 : decode cX5_init 1 = .ok (.invokespecial 3, 3) := by decide +kernel
theorem dX5_init_4 : decode cX5_init 4 = .ok (.aload_n 0, 1) := by decide +kernel
theorem dX5_init_5 : decode cX5_init 5 = .ok (.iconst 5, 1) := by decide +kernel
theorem dX5_init_6 : decode cX5_init 6 = .ok (.anewarray 9, 3) := by decide +kernel
theorem dX5_init_9 : decode cX5_init 9 = .ok (.putfield 11, 3) := by decide +kernel
theorem dX5_init_12 : decode cX5_init 12 = .ok (.aload_n 0, 1) := by decide +kernel
theorem dX5_init_13 : decode cX5_init 13 = .ok (.iconst 3, 1) := by decide +kernel
theorem dX5_init_14 : decode cX5_init 14 = .ok (.newarray .int, 2) := by decide +kernel
theorem dX5_init_16 : decode cX5_init 16 = .ok (.putfield 17, 3) := by decide +kernel
theorem dX5_init_19 : decode cX5_init 19 = .ok (.aload_n 0, 1) := by decide +kernel
theorem dX5_init_20 : decode cX5_init 20 = .ok (.iconst 3, 1) := by decide +kernel
theorem dX5_init_21 : decode cX5_init 21 = .ok (.newarray .int, 2) := by decide +kernel
theorem dX5_init_23 : decode cX5_init 23 = .ok (.putfield 21, 3) := by decide +kernel
theorem dX5_init_26 : decode cX5_init 26 = .ok (.aload_n 0, 1) := by decide +kernel
theorem dX5_init_27 : decode cX5_init 27 = .ok (.getstatic 24, 3) := by decide +kernel
theorem dX5_init_30 : decode cX5_init 30 = .ok (.invokevirtual 27, 3) := by decide +kernel
theorem dX5_init_33 : decode cX5_init 33 = .ok (.checkcast 28, 3) := by decide +kernel
theorem dX5_init_36 : decode cX5_init 36 = .ok (.putfield 32, 3) := by decide +kernel
theorem dX5_init_39 : decode cX5_init 39 = .ok (.iconst 0, 1) := by decide +kernel
theorem dX5_init_40 : decode cX5_init 40 = .ok (.istore_n 1, 1) := by decide +kernel
theorem dX5_init_41 : decode cX5_init 41 = .ok (.iload_n 1, 1) := by decide +kernel
theorem dX5_init_42 : decode cX5_init 42 = .ok (.aload_n 0, 1) := by decide +kernel
theorem dX5_init_43 : decode cX5_init 43 = .ok (.getfield 11, 3) := by decide +kernel
theorem dX5_init_46 : decode cX5_init 46 = .ok (.arraylength, 1) := by decide +kernel
theorem dX5_init_47 : decode cX5_init 47 = .ok (.if_icmp .ge 22, 3) := by decide +kernel
theorem dX5_init_50 : decode cX5_init 50 = .ok (.aload_n 0, 1) := by decide +kernel
theorem dX5_init_51 : decode cX5_init 51 = .ok (.getfield 11, 3) := by decide +kernel
theorem dX5_init_54 : decode cX5_init 54 = .ok (.iload_n 1, 1) := by decide +kernel
theorem dX5_init_55 : decode cX5_init 55 = .ok (.new 9, 3) := by decide +kernel
theorem dX5_init_58 : decode cX5_init 58 = .ok (.dup, 1) := by decide +kernel
theorem dX5_init_59 : decode cX5_init 59 = .ok (.invokespecial 35, 3) := by decide +kernel
theorem dX5_init_62 : decode cX5_init 62 = .ok (.aastore, 1) := by decide +kernel
theorem dX5_init_63 : decode cX5_init 63 = .ok (.iinc 1 1, 3) := by decide +kernel
theorem dX5_init_66 : decode cX5_init 66 = .ok (.goto (-25), 3) := by decide +kernel
theorem dX5_init_69 : decode cX5_init 69 = .ok (.aload_n 0, 1) := by decide +kernel
theorem dX5_init_70 : decode cX5_init 70 = .ok (.getfield 21, 3) := by decide +kernel
theorem dX5_init_73 : decode cX5_init 73 = .ok (.bipush 100, 2) := by decide +kernel
theorem dX5_init_75 : decode cX5_init 75 = .ok (.invokestatic 36, 3) := by decide +kernel
theorem dX5_init_78 : decode cX5_init 78 = .ok (.return_, 1) := by decide +kernel
theorem dX5_copyFrom_0 : decode cX5_copyFrom 0 = .ok (.iconst 0, 1) := by decide +kernel
theorem dX5_copyFrom_1 : decode cX5_copyFrom 1 = .ok (.istore_n 2, 1) := by decide +kernel
theorem dX5_copyFrom_2 : decode cX5_copyFrom 2 = .ok (.iload_n 2, 1) := by decide +kernel
theorem dX5_copyFrom_3 : decode cX5_copyFrom 3 = .ok (.iconst 5, 1) := by decide +kernel
theorem dX5_copyFrom_4 : decode cX5_copyFrom 4 = .ok (.if_icmp .ge 24, 3) := by decide +kernel
theorem dX5_copyFrom_7 : decode cX5_copyFrom 7 = .ok (.aload_n 0, 1) := by decide +kernel
theorem dX5_copyFrom_8 : decode cX5_copyFrom 8 = .ok (.getfield 11, 3) := by decide +kernel
theorem dX5_copyFrom_11 : decode cX5_copyFrom 11 = .ok (.iload_n 2, 1) := by decide +kernel
theorem dX5_copyFrom_12 : decode cX5_copyFrom 12 = .ok (.aaload, 1) := by decide +kernel
theorem dX5_copyFrom_13 : decode cX5_copyFrom 13 = .ok (.aload_n 1, 1) := by decide +kernel
theorem dX5_copyFrom_14 : decode cX5_copyFrom 14 = .ok (.getfield 11, 3) := by decide +kernel
theorem dX5_copyFrom_17 : decode cX5_copyFrom 17 = .ok (.iload_n 2, 1) := by decide +kernel
theorem dX5_copyFrom_18 : decode cX5_copyFrom 18 = .ok (.aaload, 1) := by decide +kernel
theorem dX5_copyFrom_19 : decode cX5_copyFrom 19 = .ok (.invokevirtual 42, 3) := by decide +kernel
theorem dX5_copyFrom_22 : decode cX5_copyFrom 22 = .ok (.iinc 2 1, 3) := by decide +kernel
theorem dX5_copyFrom_25 : decode cX5_copyFrom 25 = .ok (.goto (-23), 3) := by decide +kernel
theorem dX5_copyFrom_28 : decode cX5_copyFrom 28 = .ok (.aload_n 1, 1) := by decide +kernel
theorem dX5_copyFrom_29 : decode cX5_copyFrom 29 = .ok (.getfield 17, 3) := by decide +kernel
theorem dX5_copyFrom_32 : decode cX5_copyFrom 32 = .ok (.iconst 0, 1) := by decide +kernel
theorem dX5_copyFrom_33 : decode cX5_copyFrom 33 = .ok (.aload_n 0, 1) := by decide +kernel
theorem dX5_copyFrom_34 : decode cX5_copyFrom 34 = .ok (.getfield 17, 3) := by decide +kernel
theorem dX5_copyFrom_37 : decode cX5_copyFrom 37 = .ok (.iconst 0, 1) := by decide +kernel
theorem dX5_copyFrom_38 : decode cX5_copyFrom 38 = .ok (.iconst 3, 1) := by decide +kernel
theorem dX5_copyFrom_39 : decode cX5_copyFrom 39 = .ok (.invokestatic 46, 3) := by decide +kernel
theorem dX5_copyFrom_42 : decode cX5_copyFrom 42 = .ok (.aload_n 1, 1) := by decide +kernel
theorem dX5_copyFrom_43 : decode cX5_copyFrom 43 = .ok (.getfield 21, 3) := by decide +kernel
theorem dX5_copyFrom_46 : decode cX5_copyFrom 46 = .ok (.iconst 0, 1) := by decide +kernel
theorem dX5_copyFrom_47 : decode cX5_copyFrom 47 = .ok (.aload_n 0, 1) := by decide +kernel
theorem dX5_copyFrom_48 : decode cX5_copyFrom 48 = .ok (.getfield 21, 3) := by decide +kernel
theorem dX5_copyFrom_51 : decode cX5_copyFrom 51 = .ok (.iconst 0, 1) := by decide +kernel
theorem dX5_copyFrom_52 : decode cX5_copyFrom 52 = .ok (.iconst 3, 1) := by decide +kernel
theorem dX5_copyFrom_53 : decode cX5_copyFrom 53 = .ok (.invokestatic 46, 3) := by decide +kernel
theorem dX5_copyFrom_56 : decode cX5_copyFrom 56 = .ok (.aload_n 1, 1) := by decide +kernel
theorem dX5_copyFrom_57 : decode cX5_copyFrom 57 = .ok (.getfield 32, 3) := by decide +kernel
theorem dX5_copyFrom_60 : decode cX5_copyFrom 60 = .ok (.iconst 0, 1) := by decide +kernel
theorem dX5_copyFrom_61 : decode cX5_copyFrom 61 = .ok (.aload_n 0, 1) := by decide +kernel
theorem dX5_copyFrom_62 : decode cX5_copyFrom 62 = .ok (.getfield 32, 3) := by decide +kernel
theorem dX5_copyFrom_65 : decode cX5_copyFrom 65 = .ok (.iconst 0, 1) := by decide +kernel
theorem dX5_copyFrom_66 : decode cX5_copyFrom 66 = .ok (.aload_n 0, 1) := by decide +kernel
theorem dX5_copyFrom_67 : decode cX5_copyFrom 67 = .ok (.getfield 32, 3) := by decide +kernel
theorem dX5_copyFrom_70 : decode cX5_copyFrom 70 = .ok (.arraylength, 1) := by decide +kernel
theorem dX5_copyFrom_71 : decode cX5_copyFrom 71 = .ok (.invokestatic 46, 3) := by decide +kernel
theorem dX5_copyFrom_74 : decode cX5_copyFrom 74 = .ok (.aload_n 0, 1) := by decide +kernel
theorem dX5_copyFrom_75 : decode cX5_copyFrom 75 = .ok (.aload_n 1, 1) := by decide +kernel
theorem dX5_copyFrom_76 : decode cX5_copyFrom 76 = .ok (.getfield 52, 3) := by decide +kernel
theorem dX5_copyFrom_79 : decode cX5_copyFrom 79 = .ok (.putfield 52, 3) := by decide +kernel
theorem dX5_copyFrom_82 : decode cX5_copyFrom 82 = .ok (.aload_n 0, 1) := by decide +kernel
theorem dX5_copyFrom_83 : decode cX5_copyFrom 83 = .ok (.aload_n 1, 1) := by decide +kernel
theorem dX5_copyFrom_84 : decode cX5_copyFrom 84 = .ok (.getfield 56, 3) := by decide +kernel
theorem dX5_copyFrom_87 : decode cX5_copyFrom 87 = .ok (.putfield 56, 3) := by decide +kernel
theorem dX5_copyFrom_90 : decode cX5_copyFrom 90 = .ok (.aload_n 0, 1) := by decide +kernel
theorem dX5_copyFrom_91 : decode cX5_copyFrom 91 = .ok (.aload_n 1, 1) := by decide +kernel
theorem dX5_copyFrom_92 : decode cX5_copyFrom 92 = .ok (.getfield 59, 3) := by decide +kernel
theorem dX5_copyFrom_95 : decode cX5_copyFrom 95 = .ok (.putfield 59, 3) := by decide +kernel
theorem dX5_copyFrom_98 : decode cX5_copyFrom 98 = .ok (.aload_n 0, 1) := by decide +kernel
theorem dX5_copyFrom_99 : decode cX5_copyFrom 99 = .ok (.aload_n 1, 1) := by decide +kernel
theorem dX5_copyFrom_100 : decode cX5_copyFrom 100 = .ok (.getfield 62, 3) := by decide +kernel
theorem dX5_copyFrom_103 : decode cX5_copyFrom 103 = .ok (.putfield 62, 3) := by decide +kernel
theorem dX5_copyFrom_106 : decode cX5_copyFrom 106 = .ok (.return_, 1) := by decide +kernel
theorem dX5_hasLeaf_0 : decode cX5_hasLeaf 0 = .ok (.iload_n 1, 1) := by decide +kernel
theorem dX5_hasLeaf_1 : decode cX5_hasLeaf 1 = .ok (.ifCond .lt 15, 3) := by decide +kernel
theorem dX5_hasLeaf_4 : decode cX5_hasLeaf 4 = .ok (.iload_n 1, 1) := by decide +kernel
theorem dX5_hasLeaf_5 : decode cX5_hasLeaf 5 = .ok (.aload_n 0, 1) := by decide +kernel
theorem dX5_hasLeaf_6 : decode cX5_hasLeaf 6 = .ok (.getfield 52, 3) := by decide +kernel
theorem dX5_hasLeaf_9 : decode cX5_hasLeaf 9 = .ok (.if_icmp .ge 7, 3) := by decide +kernel
theorem dX5_hasLeaf_12 : decode cX5_hasLeaf 12 = .ok (.iconst 1, 1) := by decide +kernel
theorem dX5_hasLeaf_13 : decode cX5_hasLeaf 13 = .ok (.goto 4, 3) := by decide +kernel
theorem dX5_hasLeaf_16 : decode cX5_hasLeaf 16 = .ok (.iconst 0, 1) := by decide +kernel
theorem dX5_hasLeaf_17 : decode cX5_hasLeaf 17 = .ok (.ireturn, 1) := by decide +kernel
theorem dX5_changeSetting_0 : decode cX5_changeSetting 0 = .ok (.iload_n 1, 1) := by decide +kernel
theorem dX5_changeSetting_1 : decode cX5_changeSetting 1 = .ok (.ifCond .lt 12, 3) := by decide +kernel
theorem dX5_changeSetting_4 : decode cX5_changeSetting 4 = .ok (.iload_n 1, 1) := by decide +kernel
theorem dX5_changeSetting_5 : decode cX5_changeSetting 5 = .ok (.aload_n 0, 1) := by decide +kernel
theorem dX5_changeSetting_6 : decode cX5_changeSetting 6 = .ok (.getfield 32, 3) := by decide +kernel
theorem dX5_changeSetting_9 : decode cX5_changeSetting 9 = .ok (.arraylength, 1) := by decide +kernel
theorem dX5_changeSetting_10 : decode cX5_changeSetting 10 = .ok (.if_icmp .lt 6, 3) := by decide +kernel
theorem dX5_changeSetting_13 : decode cX5_changeSetting 13 = .ok (.bipush (-2), 2) := by decide +kernel
theorem dX5_changeSetting_15 : decode cX5_changeSetting 15 = .ok (.ireturn, 1) := by decide +kernel
theorem dX5_changeSetting_16 : decode cX5_changeSetting 16 = .ok (.iload_n 2, 1) := by decide +kernel
theorem dX5_changeSetting_17 : decode cX5_changeSetting 17 = .ok (.getstatic 65, 3) := by decide +kernel
theorem dX5_changeSetting_20 : decode cX5_changeSetting 20 = .ok (.iload_n 1, 1) := by decide +kernel
theorem dX5_changeSetting_21 : decode cX5_changeSetting 21 = .ok (.iaload, 1) := by decide +kernel
theorem dX5_changeSetting_22 : decode cX5_changeSetting 22 = .ok (.getstatic 68, 3) := by decide +kernel
theorem dX5_changeSetting_25 : decode cX5_changeSetting 25 = .ok (.iload_n 1, 1) := by decide +kernel
theorem dX5_changeSetting_26 : decode cX5_changeSetting 26 = .ok (.iaload, 1) := by decide +kernel
theorem dX5_changeSetting_27 : decode cX5_changeSetting 27 = .ok (.invokestatic 71, 3) := by decide +kernel
theorem dX5_changeSetting_30 : decode cX5_changeSetting 30 = .ok (.ifCond .ne 6, 3) := by decide +kernel
theorem dX5_changeSetting_33 : decode cX5_changeSetting 33 = .ok (.bipush (-2), 2) := by decide +kernel
theorem dX5_changeSetting_35 : decode cX5_changeSetting 35 = .ok (.ireturn, 1) := by decide +kernel
theorem dX5_changeSetting_36 : decode cX5_changeSetting 36 = .ok (.aload_n 0, 1) := by decide +kernel
theorem dX5_changeSetting_37 : decode cX5_changeSetting 37 = .ok (.getfield 32, 3) := by decide +kernel
theorem dX5_changeSetting_40 : decode cX5_changeSetting 40 = .ok (.iload_n 1, 1) := by decide +kernel
theorem dX5_changeSetting_41 : decode cX5_changeSetting 41 = .ok (.iaload, 1) := by decide +kernel
theorem dX5_changeSetting_42 : decode cX5_changeSetting 42 = .ok (.istore_n 3, 1) := by decide +kernel
theorem dX5_changeSetting_43 : decode cX5_changeSetting 43 = .ok (.aload_n 0, 1) := by decide +kernel
theorem dX5_changeSetting_44 : decode cX5_changeSetting 44 = .ok (.getfield 32, 3) := by decide +kernel
theorem dX5_changeSetting_47 : decode cX5_changeSetting 47 = .ok (.iload_n 1, 1) := by decide +kernel
theorem dX5_changeSetting_48 : decode cX5_changeSetting 48 = .ok (.iload_n 2, 1) := by decide +kernel
theorem dX5_changeSetting_49 : decode cX5_changeSetting 49 = .ok (.iastore, 1) := by decide +kernel
theorem dX5_changeSetting_50 : decode cX5_changeSetting 50 = .ok (.iload_n 3, 1) := by decide +kernel
theorem dX5_changeSetting_51 : decode cX5_changeSetting 51 = .ok (.ireturn, 1) := by decide +kernel
theorem dX5_addLeaf_0 : decode cX5_addLeaf 0 = .ok (.iload_n 2, 1) := by decide +kernel
theorem dX5_addLeaf_1 : decode cX5_addLeaf 1 = .ok (.iconst 0, 1) := by decide +kernel
theorem dX5_addLeaf_2 : decode cX5_addLeaf 2 = .ok (.bipush 100, 2) := by decide +kernel
theorem dX5_addLeaf_4 : decode cX5_addLeaf 4 = .ok (.invokestatic 71, 3) := by decide +kernel
theorem dX5_addLeaf_7 : decode cX5_addLeaf 7 = .ok (.ifCond .eq 28, 3) := by decide +kernel
theorem dX5_addLeaf_10 : decode cX5_addLeaf 10 = .ok (.iload_n 3, 1) := by decide +kernel
theorem dX5_addLeaf_11 : decode cX5_addLeaf 11 = .ok (.iconst 0, 1) := by decide +kernel
theorem dX5_addLeaf_12 : decode cX5_addLeaf 12 = .ok (.bipush 100, 2) := by decide +kernel
theorem dX5_addLeaf_14 : decode cX5_addLeaf 14 = .ok (.invokestatic 71, 3) := by decide +kernel
theorem dX5_addLeaf_17 : decode cX5_addLeaf 17 = .ok (.ifCond .eq 18, 3) := by decide +kernel
theorem dX5_addLeaf_20 : decode cX5_addLeaf 20 = .ok (.iload 4, 2) := by decide +kernel
theorem dX5_addLeaf_22 : decode cX5_addLeaf 22 = .ok (.iconst 0, 1) := by decide +kernel
theorem dX5_addLeaf_23 : decode cX5_addLeaf 23 = .ok (.bipush 100, 2) := by decide +kernel
theorem dX5_addLeaf_25 : decode cX5_addLeaf 25 = .ok (.invokestatic 71, 3) := by decide +kernel
theorem dX5_addLeaf_28 : decode cX5_addLeaf 28 = .ok (.ifCond .eq 7, 3) := by decide +kernel
theorem dX5_addLeaf_31 : decode cX5_addLeaf 31 = .ok (.iconst 1, 1) := by decide +kernel
theorem dX5_addLeaf_32 : decode cX5_addLeaf 32 = .ok (.goto 4, 3) := by decide +kernel
theorem dX5_addLeaf_35 : decode cX5_addLeaf 35 = .ok (.iconst 0, 1) := by decide +kernel
theorem dX5_addLeaf_36 : decode cX5_addLeaf 36 = .ok (.istore 6, 2) := by decide +kernel
theorem dX5_addLeaf_38 : decode cX5_addLeaf 38 = .ok (.iload 6, 2) := by decide +kernel
theorem dX5_addLeaf_40 : decode cX5_addLeaf 40 = .ok (.ifCond .eq 26, 3) := by decide +kernel
theorem dX5_addLeaf_43 : decode cX5_addLeaf 43 = .ok (.iload_n 1, 1) := by decide +kernel
theorem dX5_addLeaf_44 : decode cX5_addLeaf 44 = .ok (.iconst 0, 1) := by decide +kernel
theorem dX5_addLeaf_45 : decode cX5_addLeaf 45 = .ok (.sipush 999, 3) := by decide +kernel
theorem dX5_addLeaf_48 : decode cX5_addLeaf 48 = .ok (.invokestatic 71, 3) := by decide +kernel
theorem dX5_addLeaf_51 : decode cX5_addLeaf 51 = .ok (.ifCond .eq 15, 3) := by decide +kernel
theorem dX5_addLeaf_54 : decode cX5_addLeaf 54 = .ok (.iload 5, 2) := by decide +kernel
theorem dX5_addLeaf_56 : decode cX5_addLeaf 56 = .ok (.iconst 0, 1) := by decide +kernel
theorem dX5_addLeaf_57 : decode cX5_addLeaf 57 = .ok (.sipush 9999, 3) := by decide +kernel
theorem dX5_addLeaf_60 : decode cX5_addLeaf 60 = .ok (.invokestatic 71, 3) := by decide +kernel
theorem dX5_addLeaf_63 : decode cX5_addLeaf 63 = .ok (.ifCond .ne 6, 3) := by decide +kernel
theorem dX5_addLeaf_66 : decode cX5_addLeaf 66 = .ok (.bipush (-2), 2) := by decide +kernel
theorem dX5_addLeaf_68 : decode cX5_addLeaf 68 = .ok (.ireturn, 1) := by decide +kernel
theorem dX5_addLeaf_69 : decode cX5_addLeaf 69 = .ok (.aload_n 0, 1) := by decide +kernel
theorem dX5_addLeaf_70 : decode cX5_addLeaf 70 = .ok (.getfield 52, 3) := by decide +kernel
theorem dX5_addLeaf_73 : decode cX5_addLeaf 73 = .ok (.iconst 5, 1) := by decide +kernel
theorem dX5_addLeaf_74 : decode cX5_addLeaf 74 = .ok (.if_icmp .lt 6, 3) := by decide +kernel
theorem dX5_addLeaf_77 : decode cX5_addLeaf 77 = .ok (.bipush (-4), 2) := by decide +kernel
theorem dX5_addLeaf_79 : decode cX5_addLeaf 79 = .ok (.ireturn, 1) := by decide +kernel
theorem dX5_addLeaf_80 : decode cX5_addLeaf 80 = .ok (.aload_n 0, 1) := by decide +kernel
theorem dX5_addLeaf_81 : decode cX5_addLeaf 81 = .ok (.getfield 11, 3) := by decide +kernel
theorem dX5_addLeaf_84 : decode cX5_addLeaf 84 = .ok (.aload_n 0, 1) := by decide +kernel
theorem dX5_addLeaf_85 : decode cX5_addLeaf 85 = .ok (.getfield 52, 3) := by decide +kernel
theorem dX5_addLeaf_88 : decode cX5_addLeaf 88 = .ok (.aaload, 1) := by decide +kernel
theorem dX5_addLeaf_89 : decode cX5_addLeaf 89 = .ok (.astore 7, 2) := by decide +kernel
theorem dX5_addLeaf_91 : decode cX5_addLeaf 91 = .ok (.aload 7, 2) := by decide +kernel
theorem dX5_addLeaf_93 : decode cX5_addLeaf 93 = .ok (.iload_n 1, 1) := by decide +kernel
theorem dX5_addLeaf_94 : decode cX5_addLeaf 94 = .ok (.iload 5, 2) := by decide +kernel
theorem dX5_addLeaf_96 : decode cX5_addLeaf 96 = .ok (.invokevirtual 75, 3) := by decide +kernel
theorem dX5_addLeaf_99 : decode cX5_addLeaf 99 = .ok (.aload 7, 2) := by decide +kernel
theorem dX5_addLeaf_101 : decode cX5_addLeaf 101 = .ok (.getfield 79, 3) := by decide +kernel
theorem dX5_addLeaf_104 : decode cX5_addLeaf 104 = .ok (.iconst 0, 1) := by decide +kernel
theorem dX5_addLeaf_105 : decode cX5_addLeaf 105 = .ok (.iload_n 2, 1) := by decide +kernel
theorem dX5_addLeaf_106 : decode cX5_addLeaf 106 = .ok (.iastore, 1) := by decide +kernel
theorem dX5_addLeaf_107 : decode cX5_addLeaf 107 = .ok (.aload 7, 2) := by decide +kernel
theorem dX5_addLeaf_109 : decode cX5_addLeaf 109 = .ok (.getfield 79, 3) := by decide +kernel
theorem dX5_addLeaf_112 : decode cX5_addLeaf 112 = .ok (.iconst 1, 1) := by decide +kernel
theorem dX5_addLeaf_113 : decode cX5_addLeaf 113 = .ok (.iload_n 3, 1) := by decide +kernel
theorem dX5_addLeaf_114 : decode cX5_addLeaf 114 = .ok (.iastore, 1) := by decide +kernel
theorem dX5_addLeaf_115 : decode cX5_addLeaf 115 = .ok (.aload 7, 2) := by decide +kernel
theorem dX5_addLeaf_117 : decode cX5_addLeaf 117 = .ok (.getfield 79, 3) := by decide +kernel
theorem dX5_addLeaf_120 : decode cX5_addLeaf 120 = .ok (.iconst 2, 1) := by decide +kernel
theorem dX5_addLeaf_121 : decode cX5_addLeaf 121 = .ok (.iload 4, 2) := by decide +kernel
theorem dX5_addLeaf_123 : decode cX5_addLeaf 123 = .ok (.iastore, 1) := by decide +kernel
theorem dX5_addLeaf_124 : decode cX5_addLeaf 124 = .ok (.aload_n 0, 1) := by decide +kernel
theorem dX5_addLeaf_125 : decode cX5_addLeaf 125 = .ok (.dup, 1) := by decide +kernel
theorem dX5_addLeaf_126 : decode cX5_addLeaf 126 = .ok (.getfield 52, 3) := by decide +kernel
theorem dX5_addLeaf_129 : decode cX5_addLeaf 129 = .ok (.iconst 1, 1) := by decide +kernel
theorem dX5_addLeaf_130 : decode cX5_addLeaf 130 = .ok (.iadd, 1) := by decide +kernel
theorem dX5_addLeaf_131 : decode cX5_addLeaf 131 = .ok (.putfield 52, 3) := by decide +kernel
theorem dX5_addLeaf_134 : decode cX5_addLeaf 134 = .ok (.aload_n 0, 1) := by decide +kernel
theorem dX5_addLeaf_135 : decode cX5_addLeaf 135 = .ok (.getfield 52, 3) := by decide +kernel
theorem dX5_addLeaf_138 : decode cX5_addLeaf 138 = .ok (.iconst 1, 1) := by decide +kernel
theorem dX5_addLeaf_139 : decode cX5_addLeaf 139 = .ok (.isub, 1) := by decide +kernel
theorem dX5_addLeaf_140 : decode cX5_addLeaf 140 = .ok (.ireturn, 1) := by decide +kernel
theorem dX5_changeRow_0 : decode cX5_changeRow 0 = .ok (.aload_n 0, 1) := by decide +kernel
theorem dX5_changeRow_1 : decode cX5_changeRow 1 = .ok (.iload_n 1, 1) := by decide +kernel
theorem dX5_changeRow_2 : decode cX5_changeRow 2 = .ok (.invokevirtual 82, 3) := by decide +kernel
theorem dX5_changeRow_5 : decode cX5_changeRow 5 = .ok (.ifCond .ne 5, 3) := by decide +kernel
theorem dX5_changeRow_8 : decode cX5_changeRow 8 = .ok (.iconst (-1), 1) := by decide +kernel
theorem dX5_changeRow_9 : decode cX5_changeRow 9 = .ok (.ireturn, 1) := by decide +kernel
theorem dX5_changeRow_10 : decode cX5_changeRow 10 = .ok (.iconst 0, 1) := by decide +kernel
theorem dX5_changeRow_11 : decode cX5_changeRow 11 = .ok (.istore 4, 2) := by decide +kernel
theorem dX5_changeRow_13 : decode cX5_changeRow 13 = .ok (.iload 4, 2) := by decide +kernel
theorem dX5_changeRow_15 : decode cX5_changeRow 15 = .ok (.bipush 7, 2) := by decide +kernel
theorem dX5_changeRow_17 : decode cX5_changeRow 17 = .ok (.if_icmp .ge 28, 3) := by decide +kernel
theorem dX5_changeRow_20 : decode cX5_changeRow 20 = .ok (.lload_n 2, 1) := by decide +kernel
theorem dX5_changeRow_21 : decode cX5_changeRow 21 = .ok (.iload 4, 2) := by decide +kernel
theorem dX5_changeRow_23 : decode cX5_changeRow 23 = .ok (.invokestatic 86, 3) := by decide +kernel
theorem dX5_changeRow_26 : decode cX5_changeRow 26 = .ok (.bipush (-9), 2) := by decide +kernel
theorem dX5_changeRow_28 : decode cX5_changeRow 28 = .ok (.bipush 9, 2) := by decide +kernel
theorem dX5_changeRow_30 : decode cX5_changeRow 30 = .ok (.invokestatic 71, 3) := by decide +kernel
theorem dX5_changeRow_33 : decode cX5_changeRow 33 = .ok (.ifCond .ne 6, 3) := by decide +kernel
theorem dX5_changeRow_36 : decode cX5_changeRow 36 = .ok (.bipush (-2), 2) := by decide +kernel
theorem dX5_changeRow_38 : decode cX5_changeRow 38 = .ok (.ireturn, 1) := by decide +kernel
theorem dX5_changeRow_39 : decode cX5_changeRow 39 = .ok (.iinc 4 1, 3) := by decide +kernel
theorem dX5_changeRow_42 : decode cX5_changeRow 42 = .ok (.goto (-29), 3) := by decide +kernel
theorem dX5_changeRow_45 : decode cX5_changeRow 45 = .ok (.aload_n 0, 1) := by decide +kernel
theorem dX5_changeRow_46 : decode cX5_changeRow 46 = .ok (.getfield 11, 3) := by decide +kernel
theorem dX5_changeRow_49 : decode cX5_changeRow 49 = .ok (.iload_n 1, 1) := by decide +kernel
theorem dX5_changeRow_50 : decode cX5_changeRow 50 = .ok (.aaload, 1) := by decide +kernel
theorem dX5_changeRow_51 : decode cX5_changeRow 51 = .ok (.getfield 90, 3) := by decide +kernel
theorem dX5_changeRow_54 : decode cX5_changeRow 54 = .ok (.astore 4, 2) := by decide +kernel
theorem dX5_changeRow_56 : decode cX5_changeRow 56 = .ok (.iconst 0, 1) := by decide +kernel
theorem dX5_changeRow_57 : decode cX5_changeRow 57 = .ok (.istore 5, 2) := by decide +kernel
theorem dX5_changeRow_59 : decode cX5_changeRow 59 = .ok (.iload 5, 2) := by decide +kernel
theorem dX5_changeRow_61 : decode cX5_changeRow 61 = .ok (.bipush 7, 2) := by decide +kernel
theorem dX5_changeRow_63 : decode cX5_changeRow 63 = .ok (.if_icmp .ge 20, 3) := by decide +kernel
theorem dX5_changeRow_66 : decode cX5_changeRow 66 = .ok (.aload 4, 2) := by decide +kernel
theorem dX5_changeRow_68 : decode cX5_changeRow 68 = .ok (.iload 5, 2) := by decide +kernel
theorem dX5_changeRow_70 : decode cX5_changeRow 70 = .ok (.lload_n 2, 1) := by decide +kernel
theorem dX5_changeRow_71 : decode cX5_changeRow 71 = .ok (.iload 5, 2) := by decide +kernel
theorem dX5_changeRow_73 : decode cX5_changeRow 73 = .ok (.invokestatic 86, 3) := by decide +kernel
theorem dX5_changeRow_76 : decode cX5_changeRow 76 = .ok (.iastore, 1) := by decide +kernel
theorem dX5_changeRow_77 : decode cX5_changeRow 77 = .ok (.iinc 5 1, 3) := by decide +kernel
theorem dX5_changeRow_80 : decode cX5_changeRow 80 = .ok (.goto (-21), 3) := by decide +kernel
theorem dX5_changeRow_83 : decode cX5_changeRow 83 = .ok (.aload_n 0, 1) := by decide +kernel
theorem dX5_changeRow_84 : decode cX5_changeRow 84 = .ok (.iload_n 1, 1) := by decide +kernel
theorem dX5_changeRow_85 : decode cX5_changeRow 85 = .ok (.invokevirtual 93, 3) := by decide +kernel
theorem dX5_changeRow_88 : decode cX5_changeRow 88 = .ok (.ireturn, 1) := by decide +kernel
theorem dX5_changeIn_0 : decode cX5_changeIn 0 = .ok (.lload_n 0, 1) := by decide +kernel
theorem dX5_changeIn_1 : decode cX5_changeIn 1 = .ok (.iconst 5, 1) := by decide +kernel
theorem dX5_changeIn_2 : decode cX5_changeIn 2 = .ok (.iload_n 2, 1) := by decide +kernel
theorem dX5_changeIn_3 : decode cX5_changeIn 3 = .ok (.imul, 1) := by decide +kernel
theorem dX5_changeIn_4 : decode cX5_changeIn 4 = .ok (.lshr, 1) := by decide +kernel
theorem dX5_changeIn_5 : decode cX5_changeIn 5 = .ok (.ldc2_w 97, 3) := by decide +kernel
theorem dX5_changeIn_8 : decode cX5_changeIn 8 = .ok (.land, 1) := by decide +kernel
theorem dX5_changeIn_9 : decode cX5_changeIn 9 = .ok (.l2i, 1) := by decide +kernel
theorem dX5_changeIn_10 : decode cX5_changeIn 10 = .ok (.bipush 9, 2) := by decide +kernel
theorem dX5_changeIn_12 : decode cX5_changeIn 12 = .ok (.isub, 1) := by decide +kernel
theorem dX5_changeIn_13 : decode cX5_changeIn 13 = .ok (.ireturn, 1) := by decide +kernel
theorem dX5_addGrams_0 : decode cX5_addGrams 0 = .ok (.aload_n 0, 1) := by decide +kernel
theorem dX5_addGrams_1 : decode cX5_addGrams 1 = .ok (.iload_n 1, 1) := by decide +kernel
theorem dX5_addGrams_2 : decode cX5_addGrams 2 = .ok (.invokevirtual 82, 3) := by decide +kernel
theorem dX5_addGrams_5 : decode cX5_addGrams 5 = .ok (.ifCond .ne 5, 3) := by decide +kernel
theorem dX5_addGrams_8 : decode cX5_addGrams 8 = .ok (.iconst (-1), 1) := by decide +kernel
theorem dX5_addGrams_9 : decode cX5_addGrams 9 = .ok (.ireturn, 1) := by decide +kernel
theorem dX5_addGrams_10 : decode cX5_addGrams 10 = .ok (.iload_n 2, 1) := by decide +kernel
theorem dX5_addGrams_11 : decode cX5_addGrams 11 = .ok (.iconst 1, 1) := by decide +kernel
theorem dX5_addGrams_12 : decode cX5_addGrams 12 = .ok (.sipush 9999, 3) := by decide +kernel
theorem dX5_addGrams_15 : decode cX5_addGrams 15 = .ok (.invokestatic 71, 3) := by decide +kernel
theorem dX5_addGrams_18 : decode cX5_addGrams 18 = .ok (.ifCond .ne 6, 3) := by decide +kernel
theorem dX5_addGrams_21 : decode cX5_addGrams 21 = .ok (.bipush (-2), 2) := by decide +kernel
theorem dX5_addGrams_23 : decode cX5_addGrams 23 = .ok (.ireturn, 1) := by decide +kernel
theorem dX5_addGrams_24 : decode cX5_addGrams 24 = .ok (.aload_n 0, 1) := by decide +kernel
theorem dX5_addGrams_25 : decode cX5_addGrams 25 = .ok (.getfield 11, 3) := by decide +kernel
theorem dX5_addGrams_28 : decode cX5_addGrams 28 = .ok (.iload_n 1, 1) := by decide +kernel
theorem dX5_addGrams_29 : decode cX5_addGrams 29 = .ok (.aaload, 1) := by decide +kernel
theorem dX5_addGrams_30 : decode cX5_addGrams 30 = .ok (.astore_n 3, 1) := by decide +kernel
theorem dX5_addGrams_31 : decode cX5_addGrams 31 = .ok (.aload_n 3, 1) := by decide +kernel
theorem dX5_addGrams_32 : decode cX5_addGrams 32 = .ok (.getfield 99, 3) := by decide +kernel
theorem dX5_addGrams_35 : decode cX5_addGrams 35 = .ok (.iload_n 2, 1) := by decide +kernel
theorem dX5_addGrams_36 : decode cX5_addGrams 36 = .ok (.iadd, 1) := by decide +kernel
theorem dX5_addGrams_37 : decode cX5_addGrams 37 = .ok (.istore 4, 2) := by decide +kernel
theorem dX5_addGrams_39 : decode cX5_addGrams 39 = .ok (.iload 4, 2) := by decide +kernel
theorem dX5_addGrams_41 : decode cX5_addGrams 41 = .ok (.sipush 9999, 3) := by decide +kernel
theorem dX5_addGrams_44 : decode cX5_addGrams 44 = .ok (.if_icmp .le 6, 3) := by decide +kernel
theorem dX5_addGrams_47 : decode cX5_addGrams 47 = .ok (.bipush (-5), 2) := by decide +kernel
theorem dX5_addGrams_49 : decode cX5_addGrams 49 = .ok (.ireturn, 1) := by decide +kernel
theorem dX5_addGrams_50 : decode cX5_addGrams 50 = .ok (.aload_n 3, 1) := by decide +kernel
theorem dX5_addGrams_51 : decode cX5_addGrams 51 = .ok (.iload 4, 2) := by decide +kernel
theorem dX5_addGrams_53 : decode cX5_addGrams 53 = .ok (.ifCond .le 18, 3) := by decide +kernel
theorem dX5_addGrams_56 : decode cX5_addGrams 56 = .ok (.aload_n 3, 1) := by decide +kernel
theorem dX5_addGrams_57 : decode cX5_addGrams 57 = .ok (.getfield 99, 3) := by decide +kernel
theorem dX5_addGrams_60 : decode cX5_addGrams 60 = .ok (.aload_n 3, 1) := by decide +kernel
theorem dX5_addGrams_61 : decode cX5_addGrams 61 = .ok (.getfield 102, 3) := by decide +kernel
theorem dX5_addGrams_64 : decode cX5_addGrams 64 = .ok (.imul, 1) := by decide +kernel
theorem dX5_addGrams_65 : decode cX5_addGrams 65 = .ok (.iload 4, 2) := by decide +kernel
theorem dX5_addGrams_67 : decode cX5_addGrams 67 = .ok (.idiv, 1) := by decide +kernel
theorem dX5_addGrams_68 : decode cX5_addGrams 68 = .ok (.goto 4, 3) := by decide +kernel
theorem dX5_addGrams_71 : decode cX5_addGrams 71 = .ok (.iconst 0, 1) := by decide +kernel
theorem dX5_addGrams_72 : decode cX5_addGrams 72 = .ok (.putfield 102, 3) := by decide +kernel
theorem dX5_addGrams_75 : decode cX5_addGrams 75 = .ok (.aload_n 3, 1) := by decide +kernel
theorem dX5_addGrams_76 : decode cX5_addGrams 76 = .ok (.iload 4, 2) := by decide +kernel
theorem dX5_addGrams_78 : decode cX5_addGrams 78 = .ok (.putfield 99, 3) := by decide +kernel
theorem dX5_addGrams_81 : decode cX5_addGrams 81 = .ok (.iload 4, 2) := by decide +kernel
theorem dX5_addGrams_83 : decode cX5_addGrams 83 = .ok (.ireturn, 1) := by decide +kernel
theorem dX5_changeBounds_0 : decode cX5_changeBounds 0 = .ok (.iload_n 1, 1) := by decide +kernel
theorem dX5_changeBounds_1 : decode cX5_changeBounds 1 = .ok (.ifCond .lt 8, 3) := by decide +kernel
theorem dX5_changeBounds_4 : decode cX5_changeBounds 4 = .ok (.iload_n 1, 1) := by decide +kernel
theorem dX5_changeBounds_5 : decode cX5_changeBounds 5 = .ok (.iconst 3, 1) := by decide +kernel
theorem dX5_changeBounds_6 : decode cX5_changeBounds 6 = .ok (.if_icmp .lt 5, 3) := by decide +kernel
theorem dX5_changeBounds_9 : decode cX5_changeBounds 9 = .ok (.iconst (-1), 1) := by decide +kernel
theorem dX5_changeBounds_10 : decode cX5_changeBounds 10 = .ok (.ireturn, 1) := by decide +kernel
theorem dX5_changeBounds_11 : decode cX5_changeBounds 11 = .ok (.iload_n 2, 1) := by decide +kernel
theorem dX5_changeBounds_12 : decode cX5_changeBounds 12 = .ok (.iconst 0, 1) := by decide +kernel
theorem dX5_changeBounds_13 : decode cX5_changeBounds 13 = .ok (.bipush 100, 2) := by decide +kernel
theorem dX5_changeBounds_15 : decode cX5_changeBounds 15 = .ok (.invokestatic 71, 3) := by decide +kernel
theorem dX5_changeBounds_18 : decode cX5_changeBounds 18 = .ok (.ifCond .eq 13, 3) := by decide +kernel
theorem dX5_changeBounds_21 : decode cX5_changeBounds 21 = .ok (.iload_n 3, 1) := by decide +kernel
theorem dX5_changeBounds_22 : decode cX5_changeBounds 22 = .ok (.iload_n 2, 1) := by decide +kernel
theorem dX5_changeBounds_23 : decode cX5_changeBounds 23 = .ok (.bipush 100, 2) := by decide +kernel
theorem dX5_changeBounds_25 : decode cX5_changeBounds 25 = .ok (.invokestatic 71, 3) := by decide +kernel
theorem dX5_changeBounds_28 : decode cX5_changeBounds 28 = .ok (.ifCond .ne 6, 3) := by decide +kernel
theorem dX5_changeBounds_31 : decode cX5_changeBounds 31 = .ok (.bipush (-2), 2) := by decide +kernel
theorem dX5_changeBounds_33 : decode cX5_changeBounds 33 = .ok (.ireturn, 1) := by decide +kernel
theorem dX5_changeBounds_34 : decode cX5_changeBounds 34 = .ok (.bipush 100, 2) := by decide +kernel
theorem dX5_changeBounds_36 : decode cX5_changeBounds 36 = .ok (.aload_n 0, 1) := by decide +kernel
theorem dX5_changeBounds_37 : decode cX5_changeBounds 37 = .ok (.getfield 17, 3) := by decide +kernel
theorem dX5_changeBounds_40 : decode cX5_changeBounds 40 = .ok (.iload_n 1, 1) := by decide +kernel
theorem dX5_changeBounds_41 : decode cX5_changeBounds 41 = .ok (.iaload, 1) := by decide +kernel
theorem dX5_changeBounds_42 : decode cX5_changeBounds 42 = .ok (.imul, 1) := by decide +kernel
theorem dX5_changeBounds_43 : decode cX5_changeBounds 43 = .ok (.aload_n 0, 1) := by decide +kernel
theorem dX5_changeBounds_44 : decode cX5_changeBounds 44 = .ok (.getfield 21, 3) := by decide +kernel
theorem dX5_changeBounds_47 : decode cX5_changeBounds 47 = .ok (.iload_n 1, 1) := by decide +kernel
theorem dX5_changeBounds_48 : decode cX5_changeBounds 48 = .ok (.iaload, 1) := by decide +kernel
theorem dX5_changeBounds_49 : decode cX5_changeBounds 49 = .ok (.iadd, 1) := by decide +kernel
theorem dX5_changeBounds_50 : decode cX5_changeBounds 50 = .ok (.istore 4, 2) := by decide +kernel
theorem dX5_changeBounds_52 : decode cX5_changeBounds 52 = .ok (.aload_n 0, 1) := by decide +kernel
theorem dX5_changeBounds_53 : decode cX5_changeBounds 53 = .ok (.getfield 17, 3) := by decide +kernel
theorem dX5_changeBounds_56 : decode cX5_changeBounds 56 = .ok (.iload_n 1, 1) := by decide +kernel
theorem dX5_changeBounds_57 : decode cX5_changeBounds 57 = .ok (.iload_n 2, 1) := by decide +kernel
theorem dX5_changeBounds_58 : decode cX5_changeBounds 58 = .ok (.iastore, 1) := by decide +kernel
theorem dX5_changeBounds_59 : decode cX5_changeBounds 59 = .ok (.aload_n 0, 1) := by decide +kernel
theorem dX5_changeBounds_60 : decode cX5_changeBounds 60 = .ok (.getfield 21, 3) := by decide +kernel
theorem dX5_changeBounds_63 : decode cX5_changeBounds 63 = .ok (.iload_n 1, 1) := by decide +kernel
theorem dX5_changeBounds_64 : decode cX5_changeBounds 64 = .ok (.iload_n 3, 1) := by decide +kernel
theorem dX5_changeBounds_65 : decode cX5_changeBounds 65 = .ok (.iastore, 1) := by decide +kernel
theorem dX5_changeBounds_66 : decode cX5_changeBounds 66 = .ok (.iload 4, 2) := by decide +kernel
theorem dX5_changeBounds_68 : decode cX5_changeBounds 68 = .ok (.ireturn, 1) := by decide +kernel
theorem dX5_changeShare_0 : decode cX5_changeShare 0 = .ok (.aload_n 0, 1) := by decide +kernel
theorem dX5_changeShare_1 : decode cX5_changeShare 1 = .ok (.iload_n 1, 1) := by decide +kernel
theorem dX5_changeShare_2 : decode cX5_changeShare 2 = .ok (.invokevirtual 82, 3) := by decide +kernel
theorem dX5_changeShare_5 : decode cX5_changeShare 5 = .ok (.ifCond .ne 5, 3) := by decide +kernel
theorem dX5_changeShare_8 : decode cX5_changeShare 8 = .ok (.iconst (-1), 1) := by decide +kernel
theorem dX5_changeShare_9 : decode cX5_changeShare 9 = .ok (.ireturn, 1) := by decide +kernel
theorem dX5_changeShare_10 : decode cX5_changeShare 10 = .ok (.iload_n 2, 1) := by decide +kernel
theorem dX5_changeShare_11 : decode cX5_changeShare 11 = .ok (.iconst 0, 1) := by decide +kernel
theorem dX5_changeShare_12 : decode cX5_changeShare 12 = .ok (.bipush 20, 2) := by decide +kernel
theorem dX5_changeShare_14 : decode cX5_changeShare 14 = .ok (.invokestatic 71, 3) := by decide +kernel
theorem dX5_changeShare_17 : decode cX5_changeShare 17 = .ok (.ifCond .ne 6, 3) := by decide +kernel
theorem dX5_changeShare_20 : decode cX5_changeShare 20 = .ok (.bipush (-2), 2) := by decide +kernel
theorem dX5_changeShare_22 : decode cX5_changeShare 22 = .ok (.ireturn, 1) := by decide +kernel
theorem dX5_changeShare_23 : decode cX5_changeShare 23 = .ok (.aload_n 0, 1) := by decide +kernel
theorem dX5_changeShare_24 : decode cX5_changeShare 24 = .ok (.invokevirtual 105, 3) := by decide +kernel
theorem dX5_changeShare_27 : decode cX5_changeShare 27 = .ok (.aload_n 0, 1) := by decide +kernel
theorem dX5_changeShare_28 : decode cX5_changeShare 28 = .ok (.getfield 11, 3) := by decide +kernel
theorem dX5_changeShare_31 : decode cX5_changeShare 31 = .ok (.iload_n 1, 1) := by decide +kernel
theorem dX5_changeShare_32 : decode cX5_changeShare 32 = .ok (.aaload, 1) := by decide +kernel
theorem dX5_changeShare_33 : decode cX5_changeShare 33 = .ok (.getfield 109, 3) := by decide +kernel
theorem dX5_changeShare_36 : decode cX5_changeShare 36 = .ok (.isub, 1) := by decide +kernel
theorem dX5_changeShare_37 : decode cX5_changeShare 37 = .ok (.iload_n 2, 1) := by decide +kernel
theorem dX5_changeShare_38 : decode cX5_changeShare 38 = .ok (.iadd, 1) := by decide +kernel
theorem dX5_changeShare_39 : decode cX5_changeShare 39 = .ok (.istore_n 3, 1) := by decide +kernel
theorem dX5_changeShare_40 : decode cX5_changeShare 40 = .ok (.iload_n 3, 1) := by decide +kernel
theorem dX5_changeShare_41 : decode cX5_changeShare 41 = .ok (.bipush 20, 2) := by decide +kernel
theorem dX5_changeShare_43 : decode cX5_changeShare 43 = .ok (.if_icmp .le 6, 3) := by decide +kernel
theorem dX5_changeShare_46 : decode cX5_changeShare 46 = .ok (.bipush (-5), 2) := by decide +kernel
theorem dX5_changeShare_48 : decode cX5_changeShare 48 = .ok (.ireturn, 1) := by decide +kernel
theorem dX5_changeShare_49 : decode cX5_changeShare 49 = .ok (.aload_n 0, 1) := by decide +kernel
theorem dX5_changeShare_50 : decode cX5_changeShare 50 = .ok (.getfield 11, 3) := by decide +kernel
theorem dX5_changeShare_53 : decode cX5_changeShare 53 = .ok (.iload_n 1, 1) := by decide +kernel
theorem dX5_changeShare_54 : decode cX5_changeShare 54 = .ok (.aaload, 1) := by decide +kernel
theorem dX5_changeShare_55 : decode cX5_changeShare 55 = .ok (.iload_n 2, 1) := by decide +kernel
theorem dX5_changeShare_56 : decode cX5_changeShare 56 = .ok (.putfield 109, 3) := by decide +kernel
theorem dX5_changeShare_59 : decode cX5_changeShare 59 = .ok (.iload_n 3, 1) := by decide +kernel
theorem dX5_changeShare_60 : decode cX5_changeShare 60 = .ok (.ireturn, 1) := by decide +kernel
theorem dX5_takeShares_0 : decode cX5_takeShares 0 = .ok (.iconst 0, 1) := by decide +kernel
theorem dX5_takeShares_1 : decode cX5_takeShares 1 = .ok (.istore_n 2, 1) := by decide +kernel
theorem dX5_takeShares_2 : decode cX5_takeShares 2 = .ok (.iload_n 2, 1) := by decide +kernel
theorem dX5_takeShares_3 : decode cX5_takeShares 3 = .ok (.aload_n 0, 1) := by decide +kernel
theorem dX5_takeShares_4 : decode cX5_takeShares 4 = .ok (.getfield 52, 3) := by decide +kernel
theorem dX5_takeShares_7 : decode cX5_takeShares 7 = .ok (.if_icmp .ge 27, 3) := by decide +kernel
theorem dX5_takeShares_10 : decode cX5_takeShares 10 = .ok (.iload_n 2, 1) := by decide +kernel
theorem dX5_takeShares_11 : decode cX5_takeShares 11 = .ok (.aload_n 1, 1) := by decide +kernel
theorem dX5_takeShares_12 : decode cX5_takeShares 12 = .ok (.arraylength, 1) := by decide +kernel
theorem dX5_takeShares_13 : decode cX5_takeShares 13 = .ok (.if_icmp .ge 21, 3) := by decide +kernel
theorem dX5_takeShares_16 : decode cX5_takeShares 16 = .ok (.aload_n 0, 1) := by decide +kernel
theorem dX5_takeShares_17 : decode cX5_takeShares 17 = .ok (.getfield 11, 3) := by decide +kernel
theorem dX5_takeShares_20 : decode cX5_takeShares 20 = .ok (.iload_n 2, 1) := by decide +kernel
theorem dX5_takeShares_21 : decode cX5_takeShares 21 = .ok (.aaload, 1) := by decide +kernel
theorem dX5_takeShares_22 : decode cX5_takeShares 22 = .ok (.aload_n 1, 1) := by decide +kernel
theorem dX5_takeShares_23 : decode cX5_takeShares 23 = .ok (.iload_n 2, 1) := by decide +kernel
theorem dX5_takeShares_24 : decode cX5_takeShares 24 = .ok (.iaload, 1) := by decide +kernel
theorem dX5_takeShares_25 : decode cX5_takeShares 25 = .ok (.putfield 109, 3) := by decide +kernel
theorem dX5_takeShares_28 : decode cX5_takeShares 28 = .ok (.iinc 2 1, 3) := by decide +kernel
theorem dX5_takeShares_31 : decode cX5_takeShares 31 = .ok (.goto (-29), 3) := by decide +kernel
theorem dX5_takeShares_34 : decode cX5_takeShares 34 = .ok (.return_, 1) := by decide +kernel
theorem dX5_mixGrams_0 : decode cX5_mixGrams 0 = .ok (.iload_n 1, 1) := by decide +kernel
theorem dX5_mixGrams_1 : decode cX5_mixGrams 1 = .ok (.iconst 1, 1) := by decide +kernel
theorem dX5_mixGrams_2 : decode cX5_mixGrams 2 = .ok (.sipush 9999, 3) := by decide +kernel
theorem dX5_mixGrams_5 : decode cX5_mixGrams 5 = .ok (.invokestatic 71, 3) := by decide +kernel
theorem dX5_mixGrams_8 : decode cX5_mixGrams 8 = .ok (.ifCond .ne 6, 3) := by decide +kernel
theorem dX5_mixGrams_11 : decode cX5_mixGrams 11 = .ok (.bipush (-2), 2) := by decide +kernel
theorem dX5_mixGrams_13 : decode cX5_mixGrams 13 = .ok (.ireturn, 1) := by decide +kernel
theorem dX5_mixGrams_14 : decode cX5_mixGrams 14 = .ok (.aload_n 0, 1) := by decide +kernel
theorem dX5_mixGrams_15 : decode cX5_mixGrams 15 = .ok (.iconst 0, 1) := by decide +kernel
theorem dX5_mixGrams_16 : decode cX5_mixGrams 16 = .ok (.invokevirtual 112, 3) := by decide +kernel
theorem dX5_mixGrams_19 : decode cX5_mixGrams 19 = .ok (.ifCond .ne 11, 3) := by decide +kernel
theorem dX5_mixGrams_22 : decode cX5_mixGrams 22 = .ok (.aload_n 0, 1) := by decide +kernel
theorem dX5_mixGrams_23 : decode cX5_mixGrams 23 = .ok (.iload_n 1, 1) := by decide +kernel
theorem dX5_mixGrams_24 : decode cX5_mixGrams 24 = .ok (.invokevirtual 115, 3) := by decide +kernel
theorem dX5_mixGrams_27 : decode cX5_mixGrams 27 = .ok (.ifCond .ne 6, 3) := by decide +kernel
theorem dX5_mixGrams_30 : decode cX5_mixGrams 30 = .ok (.bipush (-5), 2) := by decide +kernel
theorem dX5_mixGrams_32 : decode cX5_mixGrams 32 = .ok (.ireturn, 1) := by decide +kernel
theorem dX5_mixGrams_33 : decode cX5_mixGrams 33 = .ok (.iconst 0, 1) := by decide +kernel
theorem dX5_mixGrams_34 : decode cX5_mixGrams 34 = .ok (.istore_n 2, 1) := by decide +kernel
theorem dX5_mixGrams_35 : decode cX5_mixGrams 35 = .ok (.iload_n 2, 1) := by decide +kernel
theorem dX5_mixGrams_36 : decode cX5_mixGrams 36 = .ok (.aload_n 0, 1) := by decide +kernel
theorem dX5_mixGrams_37 : decode cX5_mixGrams 37 = .ok (.getfield 52, 3) := by decide +kernel
theorem dX5_mixGrams_40 : decode cX5_mixGrams 40 = .ok (.if_icmp .ge 33, 3) := by decide +kernel
theorem dX5_mixGrams_43 : decode cX5_mixGrams 43 = .ok (.aload_n 0, 1) := by decide +kernel
theorem dX5_mixGrams_44 : decode cX5_mixGrams 44 = .ok (.getfield 11, 3) := by decide +kernel
theorem dX5_mixGrams_47 : decode cX5_mixGrams 47 = .ok (.iload_n 2, 1) := by decide +kernel
theorem dX5_mixGrams_48 : decode cX5_mixGrams 48 = .ok (.aaload, 1) := by decide +kernel
theorem dX5_mixGrams_49 : decode cX5_mixGrams 49 = .ok (.dup, 1) := by decide +kernel
theorem dX5_mixGrams_50 : decode cX5_mixGrams 50 = .ok (.getfield 99, 3) := by decide +kernel
theorem dX5_mixGrams_53 : decode cX5_mixGrams 53 = .ok (.aload_n 0, 1) := by decide +kernel
theorem dX5_mixGrams_54 : decode cX5_mixGrams 54 = .ok (.getfield 11, 3) := by decide +kernel
theorem dX5_mixGrams_57 : decode cX5_mixGrams 57 = .ok (.iload_n 2, 1) := by decide +kernel
theorem dX5_mixGrams_58 : decode cX5_mixGrams 58 = .ok (.aaload, 1) := by decide +kernel
theorem dX5_mixGrams_59 : decode cX5_mixGrams 59 = .ok (.iload_n 1, 1) := by decide +kernel
theorem dX5_mixGrams_60 : decode cX5_mixGrams 60 = .ok (.invokevirtual 118, 3) := by decide +kernel
theorem dX5_mixGrams_63 : decode cX5_mixGrams 63 = .ok (.isub, 1) := by decide +kernel
theorem dX5_mixGrams_64 : decode cX5_mixGrams 64 = .ok (.putfield 99, 3) := by decide +kernel
theorem dX5_mixGrams_67 : decode cX5_mixGrams 67 = .ok (.iinc 2 1, 3) := by decide +kernel
theorem dX5_mixGrams_70 : decode cX5_mixGrams 70 = .ok (.goto (-35), 3) := by decide +kernel
theorem dX5_mixGrams_73 : decode cX5_mixGrams 73 = .ok (.aload_n 0, 1) := by decide +kernel
theorem dX5_mixGrams_74 : decode cX5_mixGrams 74 = .ok (.invokevirtual 121, 3) := by decide +kernel
theorem dX5_mixGrams_77 : decode cX5_mixGrams 77 = .ok (.istore_n 2, 1) := by decide +kernel
theorem dX5_mixGrams_78 : decode cX5_mixGrams 78 = .ok (.aload_n 0, 1) := by decide +kernel
theorem dX5_mixGrams_79 : decode cX5_mixGrams 79 = .ok (.dup, 1) := by decide +kernel
theorem dX5_mixGrams_80 : decode cX5_mixGrams 80 = .ok (.getfield 59, 3) := by decide +kernel
theorem dX5_mixGrams_83 : decode cX5_mixGrams 83 = .ok (.iload_n 1, 1) := by decide +kernel
theorem dX5_mixGrams_84 : decode cX5_mixGrams 84 = .ok (.iadd, 1) := by decide +kernel
theorem dX5_mixGrams_85 : decode cX5_mixGrams 85 = .ok (.putfield 59, 3) := by decide +kernel
theorem dX5_mixGrams_88 : decode cX5_mixGrams 88 = .ok (.aload_n 0, 1) := by decide +kernel
theorem dX5_mixGrams_89 : decode cX5_mixGrams 89 = .ok (.dup, 1) := by decide +kernel
theorem dX5_mixGrams_90 : decode cX5_mixGrams 90 = .ok (.getfield 62, 3) := by decide +kernel
theorem dX5_mixGrams_93 : decode cX5_mixGrams 93 = .ok (.iload_n 1, 1) := by decide +kernel
theorem dX5_mixGrams_94 : decode cX5_mixGrams 94 = .ok (.iload_n 2, 1) := by decide +kernel
theorem dX5_mixGrams_95 : decode cX5_mixGrams 95 = .ok (.imul, 1) := by decide +kernel
theorem dX5_mixGrams_96 : decode cX5_mixGrams 96 = .ok (.bipush 100, 2) := by decide +kernel
theorem dX5_mixGrams_98 : decode cX5_mixGrams 98 = .ok (.idiv, 1) := by decide +kernel
theorem dX5_mixGrams_99 : decode cX5_mixGrams 99 = .ok (.iadd, 1) := by decide +kernel
theorem dX5_mixGrams_100 : decode cX5_mixGrams 100 = .ok (.putfield 62, 3) := by decide +kernel
theorem dX5_mixGrams_103 : decode cX5_mixGrams 103 = .ok (.iload_n 2, 1) := by decide +kernel
theorem dX5_mixGrams_104 : decode cX5_mixGrams 104 = .ok (.ireturn, 1) := by decide +kernel
theorem dX5_stocksSuffice_0 : decode cX5_stocksSuffice 0 = .ok (.iconst 0, 1) := by decide +kernel
theorem dX5_stocksSuffice_1 : decode cX5_stocksSuffice 1 = .ok (.istore_n 2, 1) := by decide +kernel
theorem dX5_stocksSuffice_2 : decode cX5_stocksSuffice 2 = .ok (.iload_n 2, 1) := by decide +kernel
theorem dX5_stocksSuffice_3 : decode cX5_stocksSuffice 3 = .ok (.aload_n 0, 1) := by decide +kernel
theorem dX5_stocksSuffice_4 : decode cX5_stocksSuffice 4 = .ok (.getfield 52, 3) := by decide +kernel
theorem dX5_stocksSuffice_7 : decode cX5_stocksSuffice 7 = .ok (.if_icmp .ge 33, 3) := by decide +kernel
theorem dX5_stocksSuffice_10 : decode cX5_stocksSuffice 10 = .ok (.aload_n 0, 1) := by decide +kernel
theorem dX5_stocksSuffice_11 : decode cX5_stocksSuffice 11 = .ok (.getfield 11, 3) := by decide +kernel
theorem dX5_stocksSuffice_14 : decode cX5_stocksSuffice 14 = .ok (.iload_n 2, 1) := by decide +kernel
theorem dX5_stocksSuffice_15 : decode cX5_stocksSuffice 15 = .ok (.aaload, 1) := by decide +kernel
theorem dX5_stocksSuffice_16 : decode cX5_stocksSuffice 16 = .ok (.iload_n 1, 1) := by decide +kernel
theorem dX5_stocksSuffice_17 : decode cX5_stocksSuffice 17 = .ok (.invokevirtual 118, 3) := by decide +kernel
theorem dX5_stocksSuffice_20 : decode cX5_stocksSuffice 20 = .ok (.aload_n 0, 1) := by decide +kernel
theorem dX5_stocksSuffice_21 : decode cX5_stocksSuffice 21 = .ok (.getfield 11, 3) := by decide +kernel
theorem dX5_stocksSuffice_24 : decode cX5_stocksSuffice 24 = .ok (.iload_n 2, 1) := by decide +kernel
theorem dX5_stocksSuffice_25 : decode cX5_stocksSuffice 25 = .ok (.aaload, 1) := by decide +kernel
theorem dX5_stocksSuffice_26 : decode cX5_stocksSuffice 26 = .ok (.getfield 99, 3) := by decide +kernel
theorem dX5_stocksSuffice_29 : decode cX5_stocksSuffice 29 = .ok (.if_icmp .le 5, 3) := by decide +kernel
theorem dX5_stocksSuffice_32 : decode cX5_stocksSuffice 32 = .ok (.iconst 0, 1) := by decide +kernel
theorem dX5_stocksSuffice_33 : decode cX5_stocksSuffice 33 = .ok (.ireturn, 1) := by decide +kernel
theorem dX5_stocksSuffice_34 : decode cX5_stocksSuffice 34 = .ok (.iinc 2 1, 3) := by decide +kernel
theorem dX5_stocksSuffice_37 : decode cX5_stocksSuffice 37 = .ok (.goto (-35), 3) := by decide +kernel
theorem dX5_stocksSuffice_40 : decode cX5_stocksSuffice 40 = .ok (.iconst 1, 1) := by decide +kernel
theorem dX5_stocksSuffice_41 : decode cX5_stocksSuffice 41 = .ok (.ireturn, 1) := by decide +kernel
theorem dX5_passDays_0 : decode cX5_passDays 0 = .ok (.iload_n 1, 1) := by decide +kernel
theorem dX5_passDays_1 : decode cX5_passDays 1 = .ok (.iconst 1, 1) := by decide +kernel
theorem dX5_passDays_2 : decode cX5_passDays 2 = .ok (.bipush 99, 2) := by decide +kernel
theorem dX5_passDays_4 : decode cX5_passDays 4 = .ok (.invokestatic 71, 3) := by decide +kernel
theorem dX5_passDays_7 : decode cX5_passDays 7 = .ok (.ifCond .ne 6, 3) := by decide +kernel
theorem dX5_passDays_10 : decode cX5_passDays 10 = .ok (.bipush (-2), 2) := by decide +kernel
theorem dX5_passDays_12 : decode cX5_passDays 12 = .ok (.ireturn, 1) := by decide +kernel
theorem dX5_passDays_13 : decode cX5_passDays 13 = .ok (.aload_n 0, 1) := by decide +kernel
theorem dX5_passDays_14 : decode cX5_passDays 14 = .ok (.getfield 56, 3) := by decide +kernel
theorem dX5_passDays_17 : decode cX5_passDays 17 = .ok (.iload_n 1, 1) := by decide +kernel
theorem dX5_passDays_18 : decode cX5_passDays 18 = .ok (.iadd, 1) := by decide +kernel
theorem dX5_passDays_19 : decode cX5_passDays 19 = .ok (.sipush 9999, 3) := by decide +kernel
theorem dX5_passDays_22 : decode cX5_passDays 22 = .ok (.if_icmp .le 6, 3) := by decide +kernel
theorem dX5_passDays_25 : decode cX5_passDays 25 = .ok (.bipush (-5), 2) := by decide +kernel
theorem dX5_passDays_27 : decode cX5_passDays 27 = .ok (.ireturn, 1) := by decide +kernel
theorem dX5_passDays_28 : decode cX5_passDays 28 = .ok (.iconst 0, 1) := by decide +kernel
theorem dX5_passDays_29 : decode cX5_passDays 29 = .ok (.istore_n 2, 1) := by decide +kernel
theorem dX5_passDays_30 : decode cX5_passDays 30 = .ok (.iload_n 2, 1) := by decide +kernel
theorem dX5_passDays_31 : decode cX5_passDays 31 = .ok (.aload_n 0, 1) := by decide +kernel
theorem dX5_passDays_32 : decode cX5_passDays 32 = .ok (.getfield 52, 3) := by decide +kernel
theorem dX5_passDays_35 : decode cX5_passDays 35 = .ok (.if_icmp .ge 24, 3) := by decide +kernel
theorem dX5_passDays_38 : decode cX5_passDays 38 = .ok (.aload_n 0, 1) := by decide +kernel
theorem dX5_passDays_39 : decode cX5_passDays 39 = .ok (.getfield 11, 3) := by decide +kernel
theorem dX5_passDays_42 : decode cX5_passDays 42 = .ok (.iload_n 2, 1) := by decide +kernel
theorem dX5_passDays_43 : decode cX5_passDays 43 = .ok (.aaload, 1) := by decide +kernel
theorem dX5_passDays_44 : decode cX5_passDays 44 = .ok (.dup, 1) := by decide +kernel
theorem dX5_passDays_45 : decode cX5_passDays 45 = .ok (.getfield 102, 3) := by decide +kernel
theorem dX5_passDays_48 : decode cX5_passDays 48 = .ok (.iload_n 1, 1) := by decide +kernel
theorem dX5_passDays_49 : decode cX5_passDays 49 = .ok (.iadd, 1) := by decide +kernel
theorem dX5_passDays_50 : decode cX5_passDays 50 = .ok (.putfield 102, 3) := by decide +kernel
theorem dX5_passDays_53 : decode cX5_passDays 53 = .ok (.iinc 2 1, 3) := by decide +kernel
theorem dX5_passDays_56 : decode cX5_passDays 56 = .ok (.goto (-26), 3) := by decide +kernel
theorem dX5_passDays_59 : decode cX5_passDays 59 = .ok (.aload_n 0, 1) := by decide +kernel
theorem dX5_passDays_60 : decode cX5_passDays 60 = .ok (.dup, 1) := by decide +kernel
theorem dX5_passDays_61 : decode cX5_passDays 61 = .ok (.getfield 56, 3) := by decide +kernel
theorem dX5_passDays_64 : decode cX5_passDays 64 = .ok (.iload_n 1, 1) := by decide +kernel
theorem dX5_passDays_65 : decode cX5_passDays 65 = .ok (.iadd, 1) := by decide +kernel
theorem dX5_passDays_66 : decode cX5_passDays 66 = .ok (.putfield 56, 3) := by decide +kernel
theorem dX5_passDays_69 : decode cX5_passDays 69 = .ok (.aload_n 0, 1) := by decide +kernel
theorem dX5_passDays_70 : decode cX5_passDays 70 = .ok (.getfield 56, 3) := by decide +kernel
theorem dX5_passDays_73 : decode cX5_passDays 73 = .ok (.ireturn, 1) := by decide +kernel
theorem dX5_priceOf_0 : decode cX5_priceOf 0 = .ok (.aload_n 0, 1) := by decide +kernel
theorem dX5_priceOf_1 : decode cX5_priceOf 1 = .ok (.getfield 32, 3) := by decide +kernel
theorem dX5_priceOf_4 : decode cX5_priceOf 4 = .ok (.iconst 1, 1) := by decide +kernel
theorem dX5_priceOf_5 : decode cX5_priceOf 5 = .ok (.iaload, 1) := by decide +kernel
theorem dX5_priceOf_6 : decode cX5_priceOf 6 = .ok (.istore_n 2, 1) := by decide +kernel
theorem dX5_priceOf_7 : decode cX5_priceOf 7 = .ok (.iload_n 2, 1) := by decide +kernel
theorem dX5_priceOf_8 : decode cX5_priceOf 8 = .ok (.ifCond .le 12, 3) := by decide +kernel
theorem dX5_priceOf_11 : decode cX5_priceOf 11 = .ok (.aload_n 0, 1) := by decide +kernel
theorem dX5_priceOf_12 : decode cX5_priceOf 12 = .ok (.getfield 56, 3) := by decide +kernel
theorem dX5_priceOf_15 : decode cX5_priceOf 15 = .ok (.iload_n 2, 1) := by decide +kernel
theorem dX5_priceOf_16 : decode cX5_priceOf 16 = .ok (.irem, 1) := by decide +kernel
theorem dX5_priceOf_17 : decode cX5_priceOf 17 = .ok (.goto 4, 3) := by decide +kernel
theorem dX5_priceOf_20 : decode cX5_priceOf 20 = .ok (.iconst 0, 1) := by decide +kernel
theorem dX5_priceOf_21 : decode cX5_priceOf 21 = .ok (.istore_n 3, 1) := by decide +kernel
theorem dX5_priceOf_22 : decode cX5_priceOf 22 = .ok (.iconst 0, 1) := by decide +kernel
theorem dX5_priceOf_23 : decode cX5_priceOf 23 = .ok (.aload_n 0, 1) := by decide +kernel
theorem dX5_priceOf_24 : decode cX5_priceOf 24 = .ok (.getfield 11, 3) := by decide +kernel
theorem dX5_priceOf_27 : decode cX5_priceOf 27 = .ok (.iload_n 1, 1) := by decide +kernel
theorem dX5_priceOf_28 : decode cX5_priceOf 28 = .ok (.aaload, 1) := by decide +kernel
theorem dX5_priceOf_29 : decode cX5_priceOf 29 = .ok (.getfield 124, 3) := by decide +kernel
theorem dX5_priceOf_32 : decode cX5_priceOf 32 = .ok (.aload_n 0, 1) := by decide +kernel
theorem dX5_priceOf_33 : decode cX5_priceOf 33 = .ok (.getfield 11, 3) := by decide +kernel
theorem dX5_priceOf_36 : decode cX5_priceOf 36 = .ok (.iload_n 1, 1) := by decide +kernel
theorem dX5_priceOf_37 : decode cX5_priceOf 37 = .ok (.aaload, 1) := by decide +kernel
theorem dX5_priceOf_38 : decode cX5_priceOf 38 = .ok (.getfield 90, 3) := by decide +kernel
theorem dX5_priceOf_41 : decode cX5_priceOf 41 = .ok (.iload_n 3, 1) := by decide +kernel
theorem dX5_priceOf_42 : decode cX5_priceOf 42 = .ok (.iaload, 1) := by decide +kernel
theorem dX5_priceOf_43 : decode cX5_priceOf 43 = .ok (.iadd, 1) := by decide +kernel
theorem dX5_priceOf_44 : decode cX5_priceOf 44 = .ok (.invokestatic 127, 3) := by decide +kernel
theorem dX5_priceOf_47 : decode cX5_priceOf 47 = .ok (.ireturn, 1) := by decide +kernel
theorem dX5_tasteOf_0 : decode cX5_tasteOf 0 = .ok (.iconst 0, 1) := by decide +kernel
theorem dX5_tasteOf_1 : decode cX5_tasteOf 1 = .ok (.sipush 1000, 3) := by decide +kernel
theorem dX5_tasteOf_4 : decode cX5_tasteOf 4 = .ok (.aload_n 0, 1) := by decide +kernel
theorem dX5_tasteOf_5 : decode cX5_tasteOf 5 = .ok (.getfield 32, 3) := by decide +kernel
theorem dX5_tasteOf_8 : decode cX5_tasteOf 8 = .ok (.iconst 0, 1) := by decide +kernel
theorem dX5_tasteOf_9 : decode cX5_tasteOf 9 = .ok (.iaload, 1) := by decide +kernel
theorem dX5_tasteOf_10 : decode cX5_tasteOf 10 = .ok (.aload_n 0, 1) := by decide +kernel
theorem dX5_tasteOf_11 : decode cX5_tasteOf 11 = .ok (.getfield 11, 3) := by decide +kernel
theorem dX5_tasteOf_14 : decode cX5_tasteOf 14 = .ok (.iload_n 1, 1) := by decide +kernel
theorem dX5_tasteOf_15 : decode cX5_tasteOf 15 = .ok (.aaload, 1) := by decide +kernel
theorem dX5_tasteOf_16 : decode cX5_tasteOf 16 = .ok (.getfield 102, 3) := by decide +kernel
theorem dX5_tasteOf_19 : decode cX5_tasteOf 19 = .ok (.iload_n 3, 1) := by decide +kernel
theorem dX5_tasteOf_20 : decode cX5_tasteOf 20 = .ok (.iadd, 1) := by decide +kernel
theorem dX5_tasteOf_21 : decode cX5_tasteOf 21 = .ok (.imul, 1) := by decide +kernel
theorem dX5_tasteOf_22 : decode cX5_tasteOf 22 = .ok (.isub, 1) := by decide +kernel
theorem dX5_tasteOf_23 : decode cX5_tasteOf 23 = .ok (.invokestatic 127, 3) := by decide +kernel
theorem dX5_tasteOf_26 : decode cX5_tasteOf 26 = .ok (.istore 4, 2) := by decide +kernel
theorem dX5_tasteOf_28 : decode cX5_tasteOf 28 = .ok (.aload_n 0, 1) := by decide +kernel
theorem dX5_tasteOf_29 : decode cX5_tasteOf 29 = .ok (.getfield 11, 3) := by decide +kernel
theorem dX5_tasteOf_32 : decode cX5_tasteOf 32 = .ok (.iload_n 1, 1) := by decide +kernel
theorem dX5_tasteOf_33 : decode cX5_tasteOf 33 = .ok (.aaload, 1) := by decide +kernel
theorem dX5_tasteOf_34 : decode cX5_tasteOf 34 = .ok (.getfield 79, 3) := by decide +kernel
theorem dX5_tasteOf_37 : decode cX5_tasteOf 37 = .ok (.iload_n 2, 1) := by decide +kernel
theorem dX5_tasteOf_38 : decode cX5_tasteOf 38 = .ok (.iaload, 1) := by decide +kernel
theorem dX5_tasteOf_39 : decode cX5_tasteOf 39 = .ok (.iload 4, 2) := by decide +kernel
theorem dX5_tasteOf_41 : decode cX5_tasteOf 41 = .ok (.imul, 1) := by decide +kernel
theorem dX5_tasteOf_42 : decode cX5_tasteOf 42 = .ok (.sipush 1000, 3) := by decide +kernel
theorem dX5_tasteOf_45 : decode cX5_tasteOf 45 = .ok (.idiv, 1) := by decide +kernel
theorem dX5_tasteOf_46 : decode cX5_tasteOf 46 = .ok (.ireturn, 1) := by decide +kernel
theorem dX5_blendPrice_0 : decode cX5_blendPrice 0 = .ok (.iconst 0, 1) := by decide +kernel
theorem dX5_blendPrice_1 : decode cX5_blendPrice 1 = .ok (.istore_n 1, 1) := by decide +kernel
theorem dX5_blendPrice_2 : decode cX5_blendPrice 2 = .ok (.iconst 0, 1) := by decide +kernel
theorem dX5_blendPrice_3 : decode cX5_blendPrice 3 = .ok (.istore_n 2, 1) := by decide +kernel
theorem dX5_blendPrice_4 : decode cX5_blendPrice 4 = .ok (.iload_n 2, 1) := by decide +kernel
theorem dX5_blendPrice_5 : decode cX5_blendPrice 5 = .ok (.aload_n 0, 1) := by decide +kernel
theorem dX5_blendPrice_6 : decode cX5_blendPrice 6 = .ok (.getfield 52, 3) := by decide +kernel
theorem dX5_blendPrice_9 : decode cX5_blendPrice 9 = .ok (.if_icmp .ge 27, 3) := by decide +kernel
theorem dX5_blendPrice_12 : decode cX5_blendPrice 12 = .ok (.iload_n 1, 1) := by decide +kernel
theorem dX5_blendPrice_13 : decode cX5_blendPrice 13 = .ok (.aload_n 0, 1) := by decide +kernel
theorem dX5_blendPrice_14 : decode cX5_blendPrice 14 = .ok (.getfield 11, 3) := by decide +kernel
theorem dX5_blendPrice_17 : decode cX5_blendPrice 17 = .ok (.iload_n 2, 1) := by decide +kernel
theorem dX5_blendPrice_18 : decode cX5_blendPrice 18 = .ok (.aaload, 1) := by decide +kernel
theorem dX5_blendPrice_19 : decode cX5_blendPrice 19 = .ok (.getfield 109, 3) := by decide +kernel
theorem dX5_blendPrice_22 : decode cX5_blendPrice 22 = .ok (.aload_n 0, 1) := by decide +kernel
theorem dX5_blendPrice_23 : decode cX5_blendPrice 23 = .ok (.iload_n 2, 1) := by decide +kernel
theorem dX5_blendPrice_24 : decode cX5_blendPrice 24 = .ok (.invokevirtual 93, 3) := by decide +kernel
theorem dX5_blendPrice_27 : decode cX5_blendPrice 27 = .ok (.imul, 1) := by decide +kernel
theorem dX5_blendPrice_28 : decode cX5_blendPrice 28 = .ok (.iadd, 1) := by decide +kernel
theorem dX5_blendPrice_29 : decode cX5_blendPrice 29 = .ok (.istore_n 1, 1) := by decide +kernel
theorem dX5_blendPrice_30 : decode cX5_blendPrice 30 = .ok (.iinc 2 1, 3) := by decide +kernel
theorem dX5_blendPrice_33 : decode cX5_blendPrice 33 = .ok (.goto (-29), 3) := by decide +kernel
theorem dX5_blendPrice_36 : decode cX5_blendPrice 36 = .ok (.iload_n 1, 1) := by decide +kernel
theorem dX5_blendPrice_37 : decode cX5_blendPrice 37 = .ok (.bipush 20, 2) := by decide +kernel
theorem dX5_blendPrice_39 : decode cX5_blendPrice 39 = .ok (.idiv, 1) := by decide +kernel
theorem dX5_blendPrice_40 : decode cX5_blendPrice 40 = .ok (.ireturn, 1) := by decide +kernel
theorem dX5_tasteSum_0 : decode cX5_tasteSum 0 = .ok (.iconst 0, 1) := by decide +kernel
theorem dX5_tasteSum_1 : decode cX5_tasteSum 1 = .ok (.istore_n 3, 1) := by decide +kernel
theorem dX5_tasteSum_2 : decode cX5_tasteSum 2 = .ok (.iconst 0, 1) := by decide +kernel
theorem dX5_tasteSum_3 : decode cX5_tasteSum 3 = .ok (.istore 4, 2) := by decide +kernel
theorem dX5_tasteSum_5 : decode cX5_tasteSum 5 = .ok (.iload 4, 2) := by decide +kernel
theorem dX5_tasteSum_7 : decode cX5_tasteSum 7 = .ok (.aload_n 0, 1) := by decide +kernel
theorem dX5_tasteSum_8 : decode cX5_tasteSum 8 = .ok (.getfield 52, 3) := by decide +kernel
theorem dX5_tasteSum_11 : decode cX5_tasteSum 11 = .ok (.if_icmp .ge 31, 3) := by decide +kernel
theorem dX5_tasteSum_14 : decode cX5_tasteSum 14 = .ok (.iload_n 3, 1) := by decide +kernel
theorem dX5_tasteSum_15 : decode cX5_tasteSum 15 = .ok (.aload_n 0, 1) := by decide +kernel
theorem dX5_tasteSum_16 : decode cX5_tasteSum 16 = .ok (.getfield 11, 3) := by decide +kernel
theorem dX5_tasteSum_19 : decode cX5_tasteSum 19 = .ok (.iload 4, 2) := by decide +kernel
theorem dX5_tasteSum_21 : decode cX5_tasteSum 21 = .ok (.aaload, 1) := by decide +kernel
theorem dX5_tasteSum_22 : decode cX5_tasteSum 22 = .ok (.getfield 109, 3) := by decide +kernel
theorem dX5_tasteSum_25 : decode cX5_tasteSum 25 = .ok (.aload_n 0, 1) := by decide +kernel
theorem dX5_tasteSum_26 : decode cX5_tasteSum 26 = .ok (.iload 4, 2) := by decide +kernel
theorem dX5_tasteSum_28 : decode cX5_tasteSum 28 = .ok (.iload_n 1, 1) := by decide +kernel
theorem dX5_tasteSum_29 : decode cX5_tasteSum 29 = .ok (.iload_n 2, 1) := by decide +kernel
theorem dX5_tasteSum_30 : decode cX5_tasteSum 30 = .ok (.invokevirtual 133, 3) := by decide +kernel
theorem dX5_tasteSum_33 : decode cX5_tasteSum 33 = .ok (.imul, 1) := by decide +kernel
theorem dX5_tasteSum_34 : decode cX5_tasteSum 34 = .ok (.iadd, 1) := by decide +kernel
theorem dX5_tasteSum_35 : decode cX5_tasteSum 35 = .ok (.istore_n 3, 1) := by decide +kernel
theorem dX5_tasteSum_36 : decode cX5_tasteSum 36 = .ok (.iinc 4 1, 3) := by decide +kernel
theorem dX5_tasteSum_39 : decode cX5_tasteSum 39 = .ok (.goto (-34), 3) := by decide +kernel
theorem dX5_tasteSum_42 : decode cX5_tasteSum 42 = .ok (.iload_n 3, 1) := by decide +kernel
theorem dX5_tasteSum_43 : decode cX5_tasteSum 43 = .ok (.ireturn, 1) := by decide +kernel
theorem dX5_allShares_0 : decode cX5_allShares 0 = .ok (.iconst 0, 1) := by decide +kernel
theorem dX5_allShares_1 : decode cX5_allShares 1 = .ok (.istore_n 1, 1) := by decide +kernel
theorem dX5_allShares_2 : decode cX5_allShares 2 = .ok (.iconst 0, 1) := by decide +kernel
theorem dX5_allShares_3 : decode cX5_allShares 3 = .ok (.istore_n 2, 1) := by decide +kernel
theorem dX5_allShares_4 : decode cX5_allShares 4 = .ok (.iload_n 2, 1) := by decide +kernel
theorem dX5_allShares_5 : decode cX5_allShares 5 = .ok (.aload_n 0, 1) := by decide +kernel
theorem dX5_allShares_6 : decode cX5_allShares 6 = .ok (.getfield 52, 3) := by decide +kernel
theorem dX5_allShares_9 : decode cX5_allShares 9 = .ok (.if_icmp .ge 21, 3) := by decide +kernel
theorem dX5_allShares_12 : decode cX5_allShares 12 = .ok (.iload_n 1, 1) := by decide +kernel
theorem dX5_allShares_13 : decode cX5_allShares 13 = .ok (.aload_n 0, 1) := by decide +kernel
theorem dX5_allShares_14 : decode cX5_allShares 14 = .ok (.getfield 11, 3) := by decide +kernel
theorem dX5_allShares_17 : decode cX5_allShares 17 = .ok (.iload_n 2, 1) := by decide +kernel
theorem dX5_allShares_18 : decode cX5_allShares 18 = .ok (.aaload, 1) := by decide +kernel
theorem dX5_allShares_19 : decode cX5_allShares 19 = .ok (.getfield 109, 3) := by decide +kernel
theorem dX5_allShares_22 : decode cX5_allShares 22 = .ok (.iadd, 1) := by decide +kernel
theorem dX5_allShares_23 : decode cX5_allShares 23 = .ok (.istore_n 1, 1) := by decide +kernel
theorem dX5_allShares_24 : decode cX5_allShares 24 = .ok (.iinc 2 1, 3) := by decide +kernel
theorem dX5_allShares_27 : decode cX5_allShares 27 = .ok (.goto (-23), 3) := by decide +kernel
theorem dX5_allShares_30 : decode cX5_allShares 30 = .ok (.iload_n 1, 1) := by decide +kernel
theorem dX5_allShares_31 : decode cX5_allShares 31 = .ok (.ireturn, 1) := by decide +kernel
theorem dX5_leavesInBlend_0 : decode cX5_leavesInBlend 0 = .ok (.iconst 0, 1) := by decide +kernel
theorem dX5_leavesInBlend_1 : decode cX5_leavesInBlend 1 = .ok (.istore_n 1, 1) := by decide +kernel
theorem dX5_leavesInBlend_2 : decode cX5_leavesInBlend 2 = .ok (.iconst 0, 1) := by decide +kernel
theorem dX5_leavesInBlend_3 : decode cX5_leavesInBlend 3 = .ok (.istore_n 2, 1) := by decide +kernel
theorem dX5_leavesInBlend_4 : decode cX5_leavesInBlend 4 = .ok (.iload_n 2, 1) := by decide +kernel
theorem dX5_leavesInBlend_5 : decode cX5_leavesInBlend 5 = .ok (.aload_n 0, 1) := by decide +kernel
theorem dX5_leavesInBlend_6 : decode cX5_leavesInBlend 6 = .ok (.getfield 52, 3) := by decide +kernel
theorem dX5_leavesInBlend_9 : decode cX5_leavesInBlend 9 = .ok (.if_icmp .ge 27, 3) := by decide +kernel
theorem dX5_leavesInBlend_12 : decode cX5_leavesInBlend 12 = .ok (.aload_n 0, 1) := by decide +kernel
theorem dX5_leavesInBlend_13 : decode cX5_leavesInBlend 13 = .ok (.getfield 11, 3) := by decide +kernel
theorem dX5_leavesInBlend_16 : decode cX5_leavesInBlend 16 = .ok (.iload_n 2, 1) := by decide +kernel
theorem dX5_leavesInBlend_17 : decode cX5_leavesInBlend 17 = .ok (.aaload, 1) := by decide +kernel
theorem dX5_leavesInBlend_18 : decode cX5_leavesInBlend 18 = .ok (.getfield 109, 3) := by decide +kernel
theorem dX5_leavesInBlend_21 : decode cX5_leavesInBlend 21 = .ok (.ifCond .le 9, 3) := by decide +kernel
theorem dX5_leavesInBlend_24 : decode cX5_leavesInBlend 24 = .ok (.iload_n 1, 1) := by decide +kernel
theorem dX5_leavesInBlend_25 : decode cX5_leavesInBlend 25 = .ok (.iconst 1, 1) := by decide +kernel
theorem dX5_leavesInBlend_26 : decode cX5_leavesInBlend 26 = .ok (.iload_n 2, 1) := by decide +kernel
theorem dX5_leavesInBlend_27 : decode cX5_leavesInBlend 27 = .ok (.ishl, 1) := by decide +kernel
theorem dX5_leavesInBlend_28 : decode cX5_leavesInBlend 28 = .ok (.ior, 1) := by decide +kernel
theorem dX5_leavesInBlend_29 : decode cX5_leavesInBlend 29 = .ok (.istore_n 1, 1) := by decide +kernel
theorem dX5_leavesInBlend_30 : decode cX5_leavesInBlend 30 = .ok (.iinc 2 1, 3) := by decide +kernel
theorem dX5_leavesInBlend_33 : decode cX5_leavesInBlend 33 = .ok (.goto (-29), 3) := by decide +kernel
theorem dX5_leavesInBlend_36 : decode cX5_leavesInBlend 36 = .ok (.iload_n 1, 1) := by decide +kernel
theorem dX5_leavesInBlend_37 : decode cX5_leavesInBlend 37 = .ok (.ireturn, 1) := by decide +kernel
theorem dX5_whyBroken_0 : decode cX5_whyBroken 0 = .ok (.aload_n 0, 1) := by decide +kernel
theorem dX5_whyBroken_1 : decode cX5_whyBroken 1 = .ok (.invokevirtual 105, 3) := by decide +kernel
theorem dX5_whyBroken_4 : decode cX5_whyBroken 4 = .ok (.bipush 20, 2) := by decide +kernel
theorem dX5_whyBroken_6 : decode cX5_whyBroken 6 = .ok (.if_icmp .eq 5, 3) := by decide +kernel
theorem dX5_whyBroken_9 : decode cX5_whyBroken 9 = .ok (.iconst 1, 1) := by decide +kernel
theorem dX5_whyBroken_10 : decode cX5_whyBroken 10 = .ok (.ireturn, 1) := by decide +kernel
theorem dX5_whyBroken_11 : decode cX5_whyBroken 11 = .ok (.iconst 0, 1) := by decide +kernel
theorem dX5_whyBroken_12 : decode cX5_whyBroken 12 = .ok (.istore_n 2, 1) := by decide +kernel
theorem dX5_whyBroken_13 : decode cX5_whyBroken 13 = .ok (.iconst 0, 1) := by decide +kernel
theorem dX5_whyBroken_14 : decode cX5_whyBroken 14 = .ok (.istore_n 3, 1) := by decide +kernel
theorem dX5_whyBroken_15 : decode cX5_whyBroken 15 = .ok (.iload_n 3, 1) := by decide +kernel
theorem dX5_whyBroken_16 : decode cX5_whyBroken 16 = .ok (.iconst 3, 1) := by decide +kernel
theorem dX5_whyBroken_17 : decode cX5_whyBroken 17 = .ok (.if_icmp .ge 54, 3) := by decide +kernel
theorem dX5_whyBroken_20 : decode cX5_whyBroken 20 = .ok (.aload_n 0, 1) := by decide +kernel
theorem dX5_whyBroken_21 : decode cX5_whyBroken 21 = .ok (.iload_n 3, 1) := by decide +kernel
theorem dX5_whyBroken_22 : decode cX5_whyBroken 22 = .ok (.iload_n 1, 1) := by decide +kernel
theorem dX5_whyBroken_23 : decode cX5_whyBroken 23 = .ok (.invokevirtual 137, 3) := by decide +kernel
theorem dX5_whyBroken_26 : decode cX5_whyBroken 26 = .ok (.bipush 20, 2) := by decide +kernel
theorem dX5_whyBroken_28 : decode cX5_whyBroken 28 = .ok (.idiv, 1) := by decide +kernel
theorem dX5_whyBroken_29 : decode cX5_whyBroken 29 = .ok (.istore 4, 2) := by decide +kernel
theorem dX5_whyBroken_31 : decode cX5_whyBroken 31 = .ok (.iload 4, 2) := by decide +kernel
theorem dX5_whyBroken_33 : decode cX5_whyBroken 33 = .ok (.aload_n 0, 1) := by decide +kernel
theorem dX5_whyBroken_34 : decode cX5_whyBroken 34 = .ok (.getfield 17, 3) := by decide +kernel
theorem dX5_whyBroken_37 : decode cX5_whyBroken 37 = .ok (.iload_n 3, 1) := by decide +kernel
theorem dX5_whyBroken_38 : decode cX5_whyBroken 38 = .ok (.iaload, 1) := by decide +kernel
theorem dX5_whyBroken_39 : decode cX5_whyBroken 39 = .ok (.if_icmp .ge 7, 3) := by decide +kernel
theorem dX5_whyBroken_42 : decode cX5_whyBroken 42 = .ok (.iconst 2, 1) := by decide +kernel
theorem dX5_whyBroken_43 : decode cX5_whyBroken 43 = .ok (.iload_n 3, 1) := by decide +kernel
theorem dX5_whyBroken_44 : decode cX5_whyBroken 44 = .ok (.iadd, 1) := by decide +kernel
theorem dX5_whyBroken_45 : decode cX5_whyBroken 45 = .ok (.ireturn, 1) := by decide +kernel
theorem dX5_whyBroken_46 : decode cX5_whyBroken 46 = .ok (.iload 4, 2) := by decide +kernel
theorem dX5_whyBroken_48 : decode cX5_whyBroken 48 = .ok (.aload_n 0, 1) := by decide +kernel
theorem dX5_whyBroken_49 : decode cX5_whyBroken 49 = .ok (.getfield 21, 3) := by decide +kernel
theorem dX5_whyBroken_52 : decode cX5_whyBroken 52 = .ok (.iload_n 3, 1) := by decide +kernel
theorem dX5_whyBroken_53 : decode cX5_whyBroken 53 = .ok (.iaload, 1) := by decide +kernel
theorem dX5_whyBroken_54 : decode cX5_whyBroken 54 = .ok (.if_icmp .le 11, 3) := by decide +kernel
theorem dX5_whyBroken_57 : decode cX5_whyBroken 57 = .ok (.iload_n 2, 1) := by decide +kernel
theorem dX5_whyBroken_58 : decode cX5_whyBroken 58 = .ok (.ifCond .ne 7, 3) := by decide +kernel
theorem dX5_whyBroken_61 : decode cX5_whyBroken 61 = .ok (.iconst 5, 1) := by decide +kernel
theorem dX5_whyBroken_62 : decode cX5_whyBroken 62 = .ok (.iload_n 3, 1) := by decide +kernel
theorem dX5_whyBroken_63 : decode cX5_whyBroken 63 = .ok (.iadd, 1) := by decide +kernel
theorem dX5_whyBroken_64 : decode cX5_whyBroken 64 = .ok (.istore_n 2, 1) := by decide +kernel
theorem dX5_whyBroken_65 : decode cX5_whyBroken 65 = .ok (.iinc 3 1, 3) := by decide +kernel
theorem dX5_whyBroken_68 : decode cX5_whyBroken 68 = .ok (.goto (-53), 3) := by decide +kernel
theorem dX5_whyBroken_71 : decode cX5_whyBroken 71 = .ok (.iload_n 2, 1) := by decide +kernel
theorem dX5_whyBroken_72 : decode cX5_whyBroken 72 = .ok (.ireturn, 1) := by decide +kernel
theorem dX5_gramsByStocks_0 : decode cX5_gramsByStocks 0 = .ok (.sipush 9999, 3) := by decide +kernel
theorem dX5_gramsByStocks_3 : decode cX5_gramsByStocks 3 = .ok (.istore_n 1, 1) := by decide +kernel
theorem dX5_gramsByStocks_4 : decode cX5_gramsByStocks 4 = .ok (.iconst 0, 1) := by decide +kernel
theorem dX5_gramsByStocks_5 : decode cX5_gramsByStocks 5 = .ok (.istore_n 2, 1) := by decide +kernel
theorem dX5_gramsByStocks_6 : decode cX5_gramsByStocks 6 = .ok (.iload_n 2, 1) := by decide +kernel
theorem dX5_gramsByStocks_7 : decode cX5_gramsByStocks 7 = .ok (.aload_n 0, 1) := by decide +kernel
theorem dX5_gramsByStocks_8 : decode cX5_gramsByStocks 8 = .ok (.getfield 52, 3) := by decide +kernel
theorem dX5_gramsByStocks_11 : decode cX5_gramsByStocks 11 = .ok (.if_icmp .ge 48, 3) := by decide +kernel
theorem dX5_gramsByStocks_14 : decode cX5_gramsByStocks 14 = .ok (.aload_n 0, 1) := by decide +kernel
theorem dX5_gramsByStocks_15 : decode cX5_gramsByStocks 15 = .ok (.getfield 11, 3) := by decide +kernel
theorem dX5_gramsByStocks_18 : decode cX5_gramsByStocks 18 = .ok (.iload_n 2, 1) := by decide +kernel
theorem dX5_gramsByStocks_19 : decode cX5_gramsByStocks 19 = .ok (.aaload, 1) := by decide +kernel
theorem dX5_gramsByStocks_20 : decode cX5_gramsByStocks 20 = .ok (.getfield 109, 3) := by decide +kernel
theorem dX5_gramsByStocks_23 : decode cX5_gramsByStocks 23 = .ok (.ifCond .le 30, 3) := by decide +kernel
theorem dX5_gramsByStocks_26 : decode cX5_gramsByStocks 26 = .ok (.iload_n 1, 1) := by decide +kernel
theorem dX5_gramsByStocks_27 : decode cX5_gramsByStocks 27 = .ok (.aload_n 0, 1) := by decide +kernel
theorem dX5_gramsByStocks_28 : decode cX5_gramsByStocks 28 = .ok (.getfield 11, 3) := by decide +kernel
theorem dX5_gramsByStocks_31 : decode cX5_gramsByStocks 31 = .ok (.iload_n 2, 1) := by decide +kernel
theorem dX5_gramsByStocks_32 : decode cX5_gramsByStocks 32 = .ok (.aaload, 1) := by decide +kernel
theorem dX5_gramsByStocks_33 : decode cX5_gramsByStocks 33 = .ok (.getfield 99, 3) := by decide +kernel
theorem dX5_gramsByStocks_36 : decode cX5_gramsByStocks 36 = .ok (.bipush 20, 2) := by decide +kernel
theorem dX5_gramsByStocks_38 : decode cX5_gramsByStocks 38 = .ok (.imul, 1) := by decide +kernel
theorem dX5_gramsByStocks_39 : decode cX5_gramsByStocks 39 = .ok (.aload_n 0, 1) := by decide +kernel
theorem dX5_gramsByStocks_40 : decode cX5_gramsByStocks 40 = .ok (.getfield 11, 3) := by decide +kernel
theorem dX5_gramsByStocks_43 : decode cX5_gramsByStocks 43 = .ok (.iload_n 2, 1) := by decide +kernel
theorem dX5_gramsByStocks_44 : decode cX5_gramsByStocks 44 = .ok (.aaload, 1) := by decide +kernel
theorem dX5_gramsByStocks_45 : decode cX5_gramsByStocks 45 = .ok (.getfield 109, 3) := by decide +kernel
theorem dX5_gramsByStocks_48 : decode cX5_gramsByStocks 48 = .ok (.idiv, 1) := by decide +kernel
theorem dX5_gramsByStocks_49 : decode cX5_gramsByStocks 49 = .ok (.invokestatic 140, 3) := by decide +kernel
theorem dX5_gramsByStocks_52 : decode cX5_gramsByStocks 52 = .ok (.istore_n 1, 1) := by decide +kernel
theorem dX5_gramsByStocks_53 : decode cX5_gramsByStocks 53 = .ok (.iinc 2 1, 3) := by decide +kernel
theorem dX5_gramsByStocks_56 : decode cX5_gramsByStocks 56 = .ok (.goto (-50), 3) := by decide +kernel
theorem dX5_gramsByStocks_59 : decode cX5_gramsByStocks 59 = .ok (.iload_n 1, 1) := by decide +kernel
theorem dX5_gramsByStocks_60 : decode cX5_gramsByStocks 60 = .ok (.ireturn, 1) := by decide +kernel
theorem dX5_isWithin_0 : decode cX5_isWithin 0 = .ok (.iload_n 0, 1) := by decide +kernel
theorem dX5_isWithin_1 : decode cX5_isWithin 1 = .ok (.iload_n 1, 1) := by decide +kernel
theorem dX5_isWithin_2 : decode cX5_isWithin 2 = .ok (.if_icmp .lt 12, 3) := by decide +kernel
theorem dX5_isWithin_5 : decode cX5_isWithin 5 = .ok (.iload_n 0, 1) := by decide +kernel
theorem dX5_isWithin_6 : decode cX5_isWithin 6 = .ok (.iload_n 2, 1) := by decide +kernel
theorem dX5_isWithin_7 : decode cX5_isWithin 7 = .ok (.if_icmp .gt 7, 3) := by decide +kernel
theorem dX5_isWithin_10 : decode cX5_isWithin 10 = .ok (.iconst 1, 1) := by decide +kernel
theorem dX5_isWithin_11 : decode cX5_isWithin 11 = .ok (.goto 4, 3) := by decide +kernel
theorem dX5_isWithin_14 : decode cX5_isWithin 14 = .ok (.iconst 0, 1) := by decide +kernel
theorem dX5_isWithin_15 : decode cX5_isWithin 15 = .ok (.ireturn, 1) := by decide +kernel
theorem dX6_init_0 : decode cX6_init 0 = .ok (.aload_n 0, 1) := by decide +kernel
theorem dX6_init_1 : decode cX6_init 1 = .ok (.invokespecial 1, 3) := by decide +kernel
theorem dX6_init_4 : decode cX6_init 4 = .ok (.aload_n 0, 1) := by decide +kernel
theorem dX6_init_5 : decode cX6_init 5 = .ok (.new 7, 3) := by decide +kernel
theorem dX6_init_8 : decode cX6_init 8 = .ok (.dup, 1) := by decide +kernel
theorem dX6_init_9 : decode cX6_init 9 = .ok (.invokespecial 9, 3) := by decide +kernel
theorem dX6_init_12 : decode cX6_init 12 = .ok (.putfield 10, 3) := by decide +kernel
theorem dX6_init_15 : decode cX6_init 15 = .ok (.aload_n 0, 1) := by decide +kernel
theorem dX6_init_16 : decode cX6_init 16 = .ok (.new 16, 3) := by decide +kernel
theorem dX6_init_19 : decode cX6_init 19 = .ok (.dup, 1) := by decide +kernel
theorem dX6_init_20 : decode cX6_init 20 = .ok (.invokespecial 18, 3) := by decide +kernel
theorem dX6_init_23 : decode cX6_init 23 = .ok (.putfield 19, 3) := by decide +kernel
theorem dX6_init_26 : decode cX6_init 26 = .ok (.aload_n 0, 1) := by decide +kernel
theorem dX6_init_27 : decode cX6_init 27 = .ok (.iconst 2, 1) := by decide +kernel
theorem dX6_init_28 : decode cX6_init 28 = .ok (.anewarray 7, 3) := by decide +kernel
theorem dX6_init_31 : decode cX6_init 31 = .ok (.putfield 23, 3) := by decide +kernel
theorem dX6_init_34 : decode cX6_init 34 = .ok (.aload_n 0, 1) := by decide +kernel
theorem dX6_init_35 : decode cX6_init 35 = .ok (.new 27, 3) := by decide +kernel
theorem dX6_init_38 : decode cX6_init 38 = .ok (.dup, 1) := by decide +kernel
theorem dX6_init_39 : decode cX6_init 39 = .ok (.invokespecial 29, 3) := by decide +kernel
theorem dX6_init_42 : decode cX6_init 42 = .ok (.putfield 30, 3) := by decide +kernel
theorem dX6_init_45 : decode cX6_init 45 = .ok (.aload_n 0, 1) := by decide +kernel
theorem dX6_init_46 : decode cX6_init 46 = .ok (.new 34, 3) := by decide +kernel
theorem dX6_init_49 : decode cX6_init 49 = .ok (.dup, 1) := by decide +kernel
theorem dX6_init_50 : decode cX6_init 50 = .ok (.aload_n 0, 1) := by decide +kernel
theorem dX6_init_51 : decode cX6_init 51 = .ok (.getfield 30, 3) := by decide +kernel
theorem dX6_init_54 : decode cX6_init 54 = .ok (.invokespecial 36, 3) := by decide +kernel
theorem dX6_init_57 : decode cX6_init 57 = .ok (.putfield 39, 3) := by decide +kernel
theorem dX6_init_60 : decode cX6_init 60 = .ok (.aload_n 0, 1) := by decide +kernel
theorem dX6_init_61 : decode cX6_init 61 = .ok (.new 43, 3) := by decide +kernel
theorem dX6_init_64 : decode cX6_init 64 = .ok (.dup, 1) := by decide +kernel
theorem dX6_init_65 : decode cX6_init 65 = .ok (.invokespecial 45, 3) := by decide +kernel
theorem dX6_init_68 : decode cX6_init 68 = .ok (.putfield 46, 3) := by decide +kernel
theorem dX6_init_71 : decode cX6_init 71 = .ok (.return_, 1) := by decide +kernel
theorem dX6_set_0 : decode cX6_set 0 = .ok (.aload_n 0, 1) := by decide +kernel
theorem dX6_set_1 : decode cX6_set 1 = .ok (.getfield 19, 3) := by decide +kernel
theorem dX6_set_4 : decode cX6_set 4 = .ok (.aload_n 0, 1) := by decide +kernel
theorem dX6_set_5 : decode cX6_set 5 = .ok (.getfield 10, 3) := by decide +kernel
theorem dX6_set_8 : decode cX6_set 8 = .ok (.invokevirtual 50, 3) := by decide +kernel
theorem dX6_set_11 : decode cX6_set 11 = .ok (.aload_n 0, 1) := by decide +kernel
theorem dX6_set_12 : decode cX6_set 12 = .ok (.getfield 19, 3) := by decide +kernel
theorem dX6_set_15 : decode cX6_set 15 = .ok (.aload_n 0, 1) := by decide +kernel
theorem dX6_set_16 : decode cX6_set 16 = .ok (.getfield 10, 3) := by decide +kernel
theorem dX6_set_19 : decode cX6_set 19 = .ok (.iload_n 1, 1) := by decide +kernel
theorem dX6_set_20 : decode cX6_set 20 = .ok (.iload_n 2, 1) := by decide +kernel
theorem dX6_set_21 : decode cX6_set 21 = .ok (.invokevirtual 54, 3) := by decide +kernel
theorem dX6_set_24 : decode cX6_set 24 = .ok (.invokevirtual 58, 3) := by decide +kernel
theorem dX6_set_27 : decode cX6_set 27 = .ok (.ireturn, 1) := by decide +kernel
theorem dX6_leaf_0 : decode cX6_leaf 0 = .ok (.aload_n 0, 1) := by decide +kernel
theorem dX6_leaf_1 : decode cX6_leaf 1 = .ok (.getfield 19, 3) := by decide +kernel
theorem dX6_leaf_4 : decode cX6_leaf 4 = .ok (.aload_n 0, 1) := by decide +kernel
theorem dX6_leaf_5 : decode cX6_leaf 5 = .ok (.getfield 10, 3) := by decide +kernel
theorem dX6_leaf_8 : decode cX6_leaf 8 = .ok (.invokevirtual 50, 3) := by decide +kernel
theorem dX6_leaf_11 : decode cX6_leaf 11 = .ok (.aload_n 0, 1) := by decide +kernel
theorem dX6_leaf_12 : decode cX6_leaf 12 = .ok (.getfield 19, 3) := by decide +kernel
theorem dX6_leaf_15 : decode cX6_leaf 15 = .ok (.aload_n 0, 1) := by decide +kernel
theorem dX6_leaf_16 : decode cX6_leaf 16 = .ok (.getfield 10, 3) := by decide +kernel
theorem dX6_leaf_19 : decode cX6_leaf 19 = .ok (.iload_n 1, 1) := by decide +kernel
theorem dX6_leaf_20 : decode cX6_leaf 20 = .ok (.iload_n 2, 1) := by decide +kernel
theorem dX6_leaf_21 : decode cX6_leaf 21 = .ok (.bipush 127, 2) := by decide +kernel
theorem dX6_leaf_23 : decode cX6_leaf 23 = .ok (.iand, 1) := by decide +kernel
theorem dX6_leaf_24 : decode cX6_leaf 24 = .ok (.iload_n 2, 1) := by decide +kernel
theorem dX6_leaf_25 : decode cX6_leaf 25 = .ok (.bipush 7, 2) := by decide +kernel
theorem dX6_leaf_27 : decode cX6_leaf 27 = .ok (.ishr, 1) := by decide +kernel
theorem dX6_leaf_28 : decode cX6_leaf 28 = .ok (.bipush 127, 2) := by decide +kernel
theorem dX6_leaf_30 : decode cX6_leaf 30 = .ok (.iand, 1) := by decide +kernel
theorem dX6_leaf_31 : decode cX6_leaf 31 = .ok (.iload_n 2, 1) := by decide +kernel
theorem dX6_leaf_32 : decode cX6_leaf 32 = .ok (.bipush 14, 2) := by decide +kernel
theorem dX6_leaf_34 : decode cX6_leaf 34 = .ok (.ishr, 1) := by decide +kernel
theorem dX6_leaf_35 : decode cX6_leaf 35 = .ok (.bipush 127, 2) := by decide +kernel
theorem dX6_leaf_37 : decode cX6_leaf 37 = .ok (.iand, 1) := by decide +kernel
theorem dX6_leaf_38 : decode cX6_leaf 38 = .ok (.iload_n 3, 1) := by decide +kernel
theorem dX6_leaf_39 : decode cX6_leaf 39 = .ok (.invokevirtual 62, 3) := by decide +kernel
theorem dX6_leaf_42 : decode cX6_leaf 42 = .ok (.invokevirtual 58, 3) := by decide +kernel
theorem dX6_leaf_45 : decode cX6_leaf 45 = .ok (.ireturn, 1) := by decide +kernel
theorem dX6_row_0 : decode cX6_row 0 = .ok (.aload_n 0, 1) := by decide +kernel
theorem dX6_row_1 : decode cX6_row 1 = .ok (.getfield 19, 3) := by decide +kernel
theorem dX6_row_4 : decode cX6_row 4 = .ok (.aload_n 0, 1) := by decide +kernel
theorem dX6_row_5 : decode cX6_row 5 = .ok (.getfield 10, 3) := by decide +kernel
theorem dX6_row_8 : decode cX6_row 8 = .ok (.invokevirtual 50, 3) := by decide +kernel
theorem dX6_row_11 : decode cX6_row 11 = .ok (.aload_n 0, 1) := by decide +kernel
theorem dX6_row_12 : decode cX6_row 12 = .ok (.getfield 19, 3) := by decide +kernel
theorem dX6_row_15 : decode cX6_row 15 = .ok (.aload_n 0, 1) := by decide +kernel
theorem dX6_row_16 : decode cX6_row 16 = .ok (.getfield 10, 3) := by decide +kernel
theorem dX6_row_19 : decode cX6_row 19 = .ok (.iload_n 1, 1) := by decide +kernel
theorem dX6_row_20 : decode cX6_row 20 = .ok (.lload_n 2, 1) := by decide +kernel
theorem dX6_row_21 : decode cX6_row 21 = .ok (.invokevirtual 66, 3) := by decide +kernel
theorem dX6_row_24 : decode cX6_row 24 = .ok (.invokevirtual 58, 3) := by decide +kernel
theorem dX6_row_27 : decode cX6_row 27 = .ok (.ireturn, 1) := by decide +kernel
theorem dX6_buy_0 : decode cX6_buy 0 = .ok (.aload_n 0, 1) := by decide +kernel
theorem dX6_buy_1 : decode cX6_buy 1 = .ok (.getfield 19, 3) := by decide +kernel
theorem dX6_buy_4 : decode cX6_buy 4 = .ok (.aload_n 0, 1) := by decide +kernel
theorem dX6_buy_5 : decode cX6_buy 5 = .ok (.getfield 10, 3) := by decide +kernel
theorem dX6_buy_8 : decode cX6_buy 8 = .ok (.invokevirtual 50, 3) := by decide +kernel
theorem dX6_buy_11 : decode cX6_buy 11 = .ok (.aload_n 0, 1) := by decide +kernel
theorem dX6_buy_12 : decode cX6_buy 12 = .ok (.getfield 19, 3) := by decide +kernel
theorem dX6_buy_15 : decode cX6_buy 15 = .ok (.aload_n 0, 1) := by decide +kernel
theorem dX6_buy_16 : decode cX6_buy 16 = .ok (.getfield 10, 3) := by decide +kernel
theorem dX6_buy_19 : decode cX6_buy 19 = .ok (.iload_n 1, 1) := by decide +kernel
theorem dX6_buy_20 : decode cX6_buy 20 = .ok (.iload_n 2, 1) := by decide +kernel
theorem dX6_buy_21 : decode cX6_buy 21 = .ok (.invokevirtual 70, 3) := by decide +kernel
theorem dX6_buy_24 : decode cX6_buy 24 = .ok (.invokevirtual 58, 3) := by decide +kernel
theorem dX6_buy_27 : decode cX6_buy 27 = .ok (.ireturn, 1) := by decide +kernel
theorem dX6_bound_0 : decode cX6_bound 0 = .ok (.aload_n 0, 1) := by decide +kernel
theorem dX6_bound_1 : decode cX6_bound 1 = .ok (.getfield 19, 3) := by decide +kernel
theorem dX6_bound_4 : decode cX6_bound 4 = .ok (.aload_n 0, 1) := by decide +kernel
theorem dX6_bound_5 : decode cX6_bound 5 = .ok (.getfield 10, 3) := by decide +kernel
theorem dX6_bound_8 : decode cX6_bound 8 = .ok (.invokevirtual 50, 3) := by decide +kernel
theorem dX6_bound_11 : decode cX6_bound 11 = .ok (.aload_n 0, 1) := by decide +kernel
theorem dX6_bound_12 : decode cX6_bound 12 = .ok (.getfield 19, 3) := by decide +kernel
theorem dX6_bound_15 : decode cX6_bound 15 = .ok (.aload_n 0, 1) := by decide +kernel
theorem dX6_bound_16 : decode cX6_bound 16 = .ok (.getfield 10, 3) := by decide +kernel
theorem dX6_bound_19 : decode cX6_bound 19 = .ok (.iload_n 1, 1) := by decide +kernel
theorem dX6_bound_20 : decode cX6_bound 20 = .ok (.iload_n 2, 1) := by decide +kernel
theorem dX6_bound_21 : decode cX6_bound 21 = .ok (.iload_n 3, 1) := by decide +kernel
theorem dX6_bound_22 : decode cX6_bound 22 = .ok (.invokevirtual 73, 3) := by decide +kernel
theorem dX6_bound_25 : decode cX6_bound 25 = .ok (.invokevirtual 58, 3) := by decide +kernel
theorem dX6_bound_28 : decode cX6_bound 28 = .ok (.ireturn, 1) := by decide +kernel
theorem dX6_share_0 : decode cX6_share 0 = .ok (.aload_n 0, 1) := by decide +kernel
theorem dX6_share_1 : decode cX6_share 1 = .ok (.getfield 19, 3) := by decide +kernel
theorem dX6_share_4 : decode cX6_share 4 = .ok (.aload_n 0, 1) := by decide +kernel
theorem dX6_share_5 : decode cX6_share 5 = .ok (.getfield 10, 3) := by decide +kernel
theorem dX6_share_8 : decode cX6_share 8 = .ok (.invokevirtual 50, 3) := by decide +kernel
theorem dX6_share_11 : decode cX6_share 11 = .ok (.aload_n 0, 1) := by decide +kernel
theorem dX6_share_12 : decode cX6_share 12 = .ok (.getfield 19, 3) := by decide +kernel
theorem dX6_share_15 : decode cX6_share 15 = .ok (.aload_n 0, 1) := by decide +kernel
theorem dX6_share_16 : decode cX6_share 16 = .ok (.getfield 10, 3) := by decide +kernel
theorem dX6_share_19 : decode cX6_share 19 = .ok (.iload_n 1, 1) := by decide +kernel
theorem dX6_share_20 : decode cX6_share 20 = .ok (.iload_n 2, 1) := by decide +kernel
theorem dX6_share_21 : decode cX6_share 21 = .ok (.invokevirtual 77, 3) := by decide +kernel
theorem dX6_share_24 : decode cX6_share 24 = .ok (.invokevirtual 58, 3) := by decide +kernel
theorem dX6_share_27 : decode cX6_share 27 = .ok (.ireturn, 1) := by decide +kernel
theorem dX6_choose_0 : decode cX6_choose 0 = .ok (.aload_n 0, 1) := by decide +kernel
theorem dX6_choose_1 : decode cX6_choose 1 = .ok (.getfield 46, 3) := by decide +kernel
theorem dX6_choose_4 : decode cX6_choose 4 = .ok (.aload_n 0, 1) := by decide +kernel
theorem dX6_choose_5 : decode cX6_choose 5 = .ok (.getfield 10, 3) := by decide +kernel
theorem dX6_choose_8 : decode cX6_choose 8 = .ok (.iconst (-1), 1) := by decide +kernel
theorem dX6_choose_9 : decode cX6_choose 9 = .ok (.invokevirtual 80, 3) := by decide +kernel
theorem dX6_choose_12 : decode cX6_choose 12 = .ok (.ifCond .ne 6, 3) := by decide +kernel
theorem dX6_choose_15 : decode cX6_choose 15 = .ok (.bipush (-5), 2) := by decide +kernel
theorem dX6_choose_17 : decode cX6_choose 17 = .ok (.ireturn, 1) := by decide +kernel
theorem dX6_choose_18 : decode cX6_choose 18 = .ok (.aload_n 0, 1) := by decide +kernel
theorem dX6_choose_19 : decode cX6_choose 19 = .ok (.getfield 19, 3) := by decide +kernel
theorem dX6_choose_22 : decode cX6_choose 22 = .ok (.aload_n 0, 1) := by decide +kernel
theorem dX6_choose_23 : decode cX6_choose 23 = .ok (.getfield 10, 3) := by decide +kernel
theorem dX6_choose_26 : decode cX6_choose 26 = .ok (.invokevirtual 50, 3) := by decide +kernel
theorem dX6_choose_29 : decode cX6_choose 29 = .ok (.aload_n 0, 1) := by decide +kernel
theorem dX6_choose_30 : decode cX6_choose 30 = .ok (.getfield 10, 3) := by decide +kernel
theorem dX6_choose_33 : decode cX6_choose 33 = .ok (.aload_n 0, 1) := by decide +kernel
theorem dX6_choose_34 : decode cX6_choose 34 = .ok (.getfield 46, 3) := by decide +kernel
theorem dX6_choose_37 : decode cX6_choose 37 = .ok (.getfield 84, 3) := by decide +kernel
theorem dX6_choose_40 : decode cX6_choose 40 = .ok (.invokevirtual 88, 3) := by decide +kernel
theorem dX6_choose_43 : decode cX6_choose 43 = .ok (.aload_n 0, 1) := by decide +kernel
theorem dX6_choose_44 : decode cX6_choose 44 = .ok (.getfield 19, 3) := by decide +kernel
theorem dX6_choose_47 : decode cX6_choose 47 = .ok (.aload_n 0, 1) := by decide +kernel
theorem dX6_choose_48 : decode cX6_choose 48 = .ok (.getfield 46, 3) := by decide +kernel
theorem dX6_choose_51 : decode cX6_choose 51 = .ok (.getfield 92, 3) := by decide +kernel
theorem dX6_choose_54 : decode cX6_choose 54 = .ok (.bipush 20, 2) := by decide +kernel
theorem dX6_choose_56 : decode cX6_choose 56 = .ok (.idiv, 1) := by decide +kernel
theorem dX6_choose_57 : decode cX6_choose 57 = .ok (.invokevirtual 58, 3) := by decide +kernel
theorem dX6_choose_60 : decode cX6_choose 60 = .ok (.ireturn, 1) := by decide +kernel
theorem dX6_mix_0 : decode cX6_mix 0 = .ok (.aload_n 0, 1) := by decide +kernel
theorem dX6_mix_1 : decode cX6_mix 1 = .ok (.getfield 19, 3) := by decide +kernel
theorem dX6_mix_4 : decode cX6_mix 4 = .ok (.aload_n 0, 1) := by decide +kernel
theorem dX6_mix_5 : decode cX6_mix 5 = .ok (.getfield 10, 3) := by decide +kernel
theorem dX6_mix_8 : decode cX6_mix 8 = .ok (.invokevirtual 50, 3) := by decide +kernel
theorem dX6_mix_11 : decode cX6_mix 11 = .ok (.aload_n 0, 1) := by decide +kernel
theorem dX6_mix_12 : decode cX6_mix 12 = .ok (.getfield 19, 3) := by decide +kernel
theorem dX6_mix_15 : decode cX6_mix 15 = .ok (.aload_n 0, 1) := by decide +kernel
theorem dX6_mix_16 : decode cX6_mix 16 = .ok (.getfield 10, 3) := by decide +kernel
theorem dX6_mix_19 : decode cX6_mix 19 = .ok (.iload_n 1, 1) := by decide +kernel
theorem dX6_mix_20 : decode cX6_mix 20 = .ok (.invokevirtual 96, 3) := by decide +kernel
theorem dX6_mix_23 : decode cX6_mix 23 = .ok (.invokevirtual 58, 3) := by decide +kernel
theorem dX6_mix_26 : decode cX6_mix 26 = .ok (.ireturn, 1) := by decide +kernel
theorem dX6_pass_0 : decode cX6_pass 0 = .ok (.aload_n 0, 1) := by decide +kernel
theorem dX6_pass_1 : decode cX6_pass 1 = .ok (.getfield 19, 3) := by decide +kernel
theorem dX6_pass_4 : decode cX6_pass 4 = .ok (.aload_n 0, 1) := by decide +kernel
theorem dX6_pass_5 : decode cX6_pass 5 = .ok (.getfield 10, 3) := by decide +kernel
theorem dX6_pass_8 : decode cX6_pass 8 = .ok (.invokevirtual 50, 3) := by decide +kernel
theorem dX6_pass_11 : decode cX6_pass 11 = .ok (.aload_n 0, 1) := by decide +kernel
theorem dX6_pass_12 : decode cX6_pass 12 = .ok (.getfield 19, 3) := by decide +kernel
theorem dX6_pass_15 : decode cX6_pass 15 = .ok (.aload_n 0, 1) := by decide +kernel
theorem dX6_pass_16 : decode cX6_pass 16 = .ok (.getfield 10, 3) := by decide +kernel
theorem dX6_pass_19 : decode cX6_pass 19 = .ok (.iload_n 1, 1) := by decide +kernel
theorem dX6_pass_20 : decode cX6_pass 20 = .ok (.invokevirtual 99, 3) := by decide +kernel
theorem dX6_pass_23 : decode cX6_pass 23 = .ok (.invokevirtual 58, 3) := by decide +kernel
theorem dX6_pass_26 : decode cX6_pass 26 = .ok (.ireturn, 1) := by decide +kernel
theorem dX6_of_0 : decode cX6_of 0 = .ok (.aload_n 0, 1) := by decide +kernel
theorem dX6_of_1 : decode cX6_of 1 = .ok (.getfield 10, 3) := by decide +kernel
theorem dX6_of_4 : decode cX6_of 4 = .ok (.iload_n 1, 1) := by decide +kernel
theorem dX6_of_5 : decode cX6_of 5 = .ok (.invokevirtual 102, 3) := by decide +kernel
theorem dX6_of_8 : decode cX6_of 8 = .ok (.ifCond .ne 5, 3) := by decide +kernel
theorem dX6_of_11 : decode cX6_of 11 = .ok (.iconst (-1), 1) := by decide +kernel
theorem dX6_of_12 : decode cX6_of 12 = .ok (.ireturn, 1) := by decide +kernel
theorem dX6_of_13 : decode cX6_of 13 = .ok (.iload_n 2, 1) := by decide +kernel
theorem dX6_of_14 : decode cX6_of 14 = .ok (.tableswitch 103 0 6 #[42, 51, 51, 51, 64, 77, 90], 42) := by decide +kernel
theorem dX6_of_56 : decode cX6_of 56 = .ok (.aload_n 0, 1) := by decide +kernel
theorem dX6_of_57 : decode cX6_of 57 = .ok (.getfield 10, 3) := by decide +kernel
theorem dX6_of_60 : decode cX6_of 60 = .ok (.iload_n 1, 1) := by decide +kernel
theorem dX6_of_61 : decode cX6_of 61 = .ok (.invokevirtual 106, 3) := by decide +kernel
theorem dX6_of_64 : decode cX6_of 64 = .ok (.ireturn, 1) := by decide +kernel
theorem dX6_of_65 : decode cX6_of 65 = .ok (.aload_n 0, 1) := by decide +kernel
theorem dX6_of_66 : decode cX6_of 66 = .ok (.getfield 10, 3) := by decide +kernel
theorem dX6_of_69 : decode cX6_of 69 = .ok (.iload_n 1, 1) := by decide +kernel
theorem dX6_of_70 : decode cX6_of 70 = .ok (.iload_n 2, 1) := by decide +kernel
theorem dX6_of_71 : decode cX6_of 71 = .ok (.iconst 1, 1) := by decide +kernel
theorem dX6_of_72 : decode cX6_of 72 = .ok (.isub, 1) := by decide +kernel
theorem dX6_of_73 : decode cX6_of 73 = .ok (.iconst 0, 1) := by decide +kernel
theorem dX6_of_74 : decode cX6_of 74 = .ok (.invokevirtual 109, 3) := by decide +kernel
theorem dX6_of_77 : decode cX6_of 77 = .ok (.ireturn, 1) := by decide +kernel
theorem dX6_of_78 : decode cX6_of 78 = .ok (.aload_n 0, 1) := by decide +kernel
theorem dX6_of_79 : decode cX6_of 79 = .ok (.getfield 10, 3) := by decide +kernel
theorem dX6_of_82 : decode cX6_of 82 = .ok (.getfield 112, 3) := by decide +kernel
theorem dX6_of_85 : decode cX6_of 85 = .ok (.iload_n 1, 1) := by decide +kernel
theorem dX6_of_86 : decode cX6_of 86 = .ok (.aaload, 1) := by decide +kernel
theorem dX6_of_87 : decode cX6_of 87 = .ok (.getfield 116, 3) := by decide +kernel
theorem dX6_of_90 : decode cX6_of 90 = .ok (.ireturn, 1) := by decide +kernel
theorem dX6_of_91 : decode cX6_of 91 = .ok (.aload_n 0, 1) := by decide +kernel
theorem dX6_of_92 : decode cX6_of 92 = .ok (.getfield 10, 3) := by decide +kernel
theorem dX6_of_95 : decode cX6_of 95 = .ok (.getfield 112, 3) := by decide +kernel
theorem dX6_of_98 : decode cX6_of 98 = .ok (.iload_n 1, 1) := by decide +kernel
theorem dX6_of_99 : decode cX6_of 99 = .ok (.aaload, 1) := by decide +kernel
theorem dX6_of_100 : decode cX6_of 100 = .ok (.getfield 121, 3) := by decide +kernel
theorem dX6_of_103 : decode cX6_of 103 = .ok (.ireturn, 1) := by decide +kernel
theorem dX6_of_104 : decode cX6_of 104 = .ok (.aload_n 0, 1) := by decide +kernel
theorem dX6_of_105 : decode cX6_of 105 = .ok (.getfield 10, 3) := by decide +kernel
theorem dX6_of_108 : decode cX6_of 108 = .ok (.getfield 112, 3) := by decide +kernel
theorem dX6_of_111 : decode cX6_of 111 = .ok (.iload_n 1, 1) := by decide +kernel
theorem dX6_of_112 : decode cX6_of 112 = .ok (.aaload, 1) := by decide +kernel
theorem dX6_of_113 : decode cX6_of 113 = .ok (.getfield 124, 3) := by decide +kernel
theorem dX6_of_116 : decode cX6_of 116 = .ok (.ireturn, 1) := by decide +kernel
theorem dX6_of_117 : decode cX6_of 117 = .ok (.bipush (-2), 2) := by decide +kernel
theorem dX6_of_119 : decode cX6_of 119 = .ok (.ireturn, 1) := by decide +kernel
theorem dX6_blend_0 : decode cX6_blend 0 = .ok (.iload_n 1, 1) := by decide +kernel
theorem dX6_blend_1 : decode cX6_blend 1 = .ok (.tableswitch 78 0 5 #[39, 47, 47, 47, 62, 70], 39) := by decide +kernel
theorem dX6_blend_40 : decode cX6_blend 40 = .ok (.aload_n 0, 1) := by decide +kernel
theorem dX6_blend_41 : decode cX6_blend 41 = .ok (.getfield 10, 3) := by decide +kernel
theorem dX6_blend_44 : decode cX6_blend 44 = .ok (.invokevirtual 127, 3) := by decide +kernel
theorem dX6_blend_47 : decode cX6_blend 47 = .ok (.ireturn, 1) := by decide +kernel
theorem dX6_blend_48 : decode cX6_blend 48 = .ok (.aload_n 0, 1) := by decide +kernel
theorem dX6_blend_49 : decode cX6_blend 49 = .ok (.getfield 10, 3) := by decide +kernel
theorem dX6_blend_52 : decode cX6_blend 52 = .ok (.iload_n 1, 1) := by decide +kernel
theorem dX6_blend_53 : decode cX6_blend 53 = .ok (.iconst 1, 1) := by decide +kernel
theorem dX6_blend_54 : decode cX6_blend 54 = .ok (.isub, 1) := by decide +kernel
theorem dX6_blend_55 : decode cX6_blend 55 = .ok (.iconst 0, 1) := by decide +kernel
theorem dX6_blend_56 : decode cX6_blend 56 = .ok (.invokevirtual 131, 3) := by decide +kernel
theorem dX6_blend_59 : decode cX6_blend 59 = .ok (.bipush 20, 2) := by decide +kernel
theorem dX6_blend_61 : decode cX6_blend 61 = .ok (.idiv, 1) := by decide +kernel
theorem dX6_blend_62 : decode cX6_blend 62 = .ok (.ireturn, 1) := by decide +kernel
theorem dX6_blend_63 : decode cX6_blend 63 = .ok (.aload_n 0, 1) := by decide +kernel
theorem dX6_blend_64 : decode cX6_blend 64 = .ok (.getfield 10, 3) := by decide +kernel
theorem dX6_blend_67 : decode cX6_blend 67 = .ok (.invokevirtual 134, 3) := by decide +kernel
theorem dX6_blend_70 : decode cX6_blend 70 = .ok (.ireturn, 1) := by decide +kernel
theorem dX6_blend_71 : decode cX6_blend 71 = .ok (.aload_n 0, 1) := by decide +kernel
theorem dX6_blend_72 : decode cX6_blend 72 = .ok (.getfield 10, 3) := by decide +kernel
theorem dX6_blend_75 : decode cX6_blend 75 = .ok (.invokevirtual 137, 3) := by decide +kernel
theorem dX6_blend_78 : decode cX6_blend 78 = .ok (.ireturn, 1) := by decide +kernel
theorem dX6_blend_79 : decode cX6_blend 79 = .ok (.bipush (-2), 2) := by decide +kernel
theorem dX6_blend_81 : decode cX6_blend 81 = .ok (.ireturn, 1) := by decide +kernel
theorem dX6_why_0 : decode cX6_why 0 = .ok (.aload_n 0, 1) := by decide +kernel
theorem dX6_why_1 : decode cX6_why 1 = .ok (.getfield 10, 3) := by decide +kernel
theorem dX6_why_4 : decode cX6_why 4 = .ok (.iconst 0, 1) := by decide +kernel
theorem dX6_why_5 : decode cX6_why 5 = .ok (.invokevirtual 140, 3) := by decide +kernel
theorem dX6_why_8 : decode cX6_why 8 = .ok (.ireturn, 1) := by decide +kernel
theorem dX6_count_0 : decode cX6_count 0 = .ok (.iload_n 1, 1) := by decide +kernel
theorem dX6_count_1 : decode cX6_count 1 = .ok (.iconst 4, 1) := by decide +kernel
theorem dX6_count_2 : decode cX6_count 2 = .ok (.if_icmp .lt 21, 3) := by decide +kernel
theorem dX6_count_5 : decode cX6_count 5 = .ok (.iload_n 1, 1) := by decide +kernel
theorem dX6_count_6 : decode cX6_count 6 = .ok (.bipush 7, 2) := by decide +kernel
theorem dX6_count_8 : decode cX6_count 8 = .ok (.if_icmp .ge 15, 3) := by decide +kernel
theorem dX6_count_11 : decode cX6_count 11 = .ok (.aload_n 0, 1) := by decide +kernel
theorem dX6_count_12 : decode cX6_count 12 = .ok (.getfield 10, 3) := by decide +kernel
theorem dX6_count_15 : decode cX6_count 15 = .ok (.getfield 143, 3) := by decide +kernel
theorem dX6_count_18 : decode cX6_count 18 = .ok (.iload_n 1, 1) := by decide +kernel
theorem dX6_count_19 : decode cX6_count 19 = .ok (.iconst 4, 1) := by decide +kernel
theorem dX6_count_20 : decode cX6_count 20 = .ok (.isub, 1) := by decide +kernel
theorem dX6_count_21 : decode cX6_count 21 = .ok (.iaload, 1) := by decide +kernel
theorem dX6_count_22 : decode cX6_count 22 = .ok (.ireturn, 1) := by decide +kernel
theorem dX6_count_23 : decode cX6_count 23 = .ok (.iload_n 1, 1) := by decide +kernel
theorem dX6_count_24 : decode cX6_count 24 = .ok (.bipush 7, 2) := by decide +kernel
theorem dX6_count_26 : decode cX6_count 26 = .ok (.if_icmp .lt 22, 3) := by decide +kernel
theorem dX6_count_29 : decode cX6_count 29 = .ok (.iload_n 1, 1) := by decide +kernel
theorem dX6_count_30 : decode cX6_count 30 = .ok (.bipush 10, 2) := by decide +kernel
theorem dX6_count_32 : decode cX6_count 32 = .ok (.if_icmp .ge 16, 3) := by decide +kernel
theorem dX6_count_35 : decode cX6_count 35 = .ok (.aload_n 0, 1) := by decide +kernel
theorem dX6_count_36 : decode cX6_count 36 = .ok (.getfield 10, 3) := by decide +kernel
theorem dX6_count_39 : decode cX6_count 39 = .ok (.getfield 146, 3) := by decide +kernel
theorem dX6_count_42 : decode cX6_count 42 = .ok (.iload_n 1, 1) := by decide +kernel
theorem dX6_count_43 : decode cX6_count 43 = .ok (.bipush 7, 2) := by decide +kernel
theorem dX6_count_45 : decode cX6_count 45 = .ok (.isub, 1) := by decide +kernel
theorem dX6_count_46 : decode cX6_count 46 = .ok (.iaload, 1) := by decide +kernel
theorem dX6_count_47 : decode cX6_count 47 = .ok (.ireturn, 1) := by decide +kernel
theorem dX6_count_48 : decode cX6_count 48 = .ok (.iload_n 1, 1) := by decide +kernel
theorem dX6_count_49 : decode cX6_count 49 = .ok (.tableswitch 139 0 13 #[71, 79, 87, 95, 139, 139, 139, 139, 139, 139, 103, 113, 123, 131], 71) := by decide +kernel
theorem dX6_count_120 : decode cX6_count 120 = .ok (.aload_n 0, 1) := by decide +kernel
theorem dX6_count_121 : decode cX6_count 121 = .ok (.getfield 10, 3) := by decide +kernel
theorem dX6_count_124 : decode cX6_count 124 = .ok (.getfield 149, 3) := by decide +kernel
theorem dX6_count_127 : decode cX6_count 127 = .ok (.ireturn, 1) := by decide +kernel
theorem dX6_count_128 : decode cX6_count 128 = .ok (.aload_n 0, 1) := by decide +kernel
theorem dX6_count_129 : decode cX6_count 129 = .ok (.getfield 10, 3) := by decide +kernel
theorem dX6_count_132 : decode cX6_count 132 = .ok (.getfield 152, 3) := by decide +kernel
theorem dX6_count_135 : decode cX6_count 135 = .ok (.ireturn, 1) := by decide +kernel
theorem dX6_count_136 : decode cX6_count 136 = .ok (.aload_n 0, 1) := by decide +kernel
theorem dX6_count_137 : decode cX6_count 137 = .ok (.getfield 10, 3) := by decide +kernel
theorem dX6_count_140 : decode cX6_count 140 = .ok (.getfield 155, 3) := by decide +kernel
theorem dX6_count_143 : decode cX6_count 143 = .ok (.ireturn, 1) := by decide +kernel
theorem dX6_count_144 : decode cX6_count 144 = .ok (.aload_n 0, 1) := by decide +kernel
theorem dX6_count_145 : decode cX6_count 145 = .ok (.getfield 10, 3) := by decide +kernel
theorem dX6_count_148 : decode cX6_count 148 = .ok (.getfield 158, 3) := by decide +kernel
theorem dX6_count_151 : decode cX6_count 151 = .ok (.ireturn, 1) := by decide +kernel
theorem dX6_count_152 : decode cX6_count 152 = .ok (.aload_n 0, 1) := by decide +kernel
theorem dX6_count_153 : decode cX6_count 153 = .ok (.getfield 10, 3) := by decide +kernel
theorem dX6_count_156 : decode cX6_count 156 = .ok (.getfield 161, 3) := by decide +kernel
theorem dX6_count_159 : decode cX6_count 159 = .ok (.iconst 0, 1) := by decide +kernel
theorem dX6_count_160 : decode cX6_count 160 = .ok (.iaload, 1) := by decide +kernel
theorem dX6_count_161 : decode cX6_count 161 = .ok (.ireturn, 1) := by decide +kernel
theorem dX6_count_162 : decode cX6_count 162 = .ok (.aload_n 0, 1) := by decide +kernel
theorem dX6_count_163 : decode cX6_count 163 = .ok (.getfield 10, 3) := by decide +kernel
theorem dX6_count_166 : decode cX6_count 166 = .ok (.getfield 161, 3) := by decide +kernel
theorem dX6_count_169 : decode cX6_count 169 = .ok (.iconst 1, 1) := by decide +kernel
theorem dX6_count_170 : decode cX6_count 170 = .ok (.iaload, 1) := by decide +kernel
theorem dX6_count_171 : decode cX6_count 171 = .ok (.ireturn, 1) := by decide +kernel
theorem dX6_count_172 : decode cX6_count 172 = .ok (.aload_n 0, 1) := by decide +kernel
theorem dX6_count_173 : decode cX6_count 173 = .ok (.getfield 30, 3) := by decide +kernel
theorem dX6_count_176 : decode cX6_count 176 = .ok (.getfield 164, 3) := by decide +kernel
theorem dX6_count_179 : decode cX6_count 179 = .ok (.ireturn, 1) := by decide +kernel
theorem dX6_count_180 : decode cX6_count 180 = .ok (.aload_n 0, 1) := by decide +kernel
theorem dX6_count_181 : decode cX6_count 181 = .ok (.getfield 19, 3) := by decide +kernel
theorem dX6_count_184 : decode cX6_count 184 = .ok (.getfield 167, 3) := by decide +kernel
theorem dX6_count_187 : decode cX6_count 187 = .ok (.ireturn, 1) := by decide +kernel
theorem dX6_count_188 : decode cX6_count 188 = .ok (.bipush (-2), 2) := by decide +kernel
theorem dX6_count_190 : decode cX6_count 190 = .ok (.ireturn, 1) := by decide +kernel
theorem dX6_cheapest_0 : decode cX6_cheapest 0 = .ok (.iload_n 1, 1) := by decide +kernel
theorem dX6_cheapest_1 : decode cX6_cheapest 1 = .ok (.ifCond .lt 8, 3) := by decide +kernel
theorem dX6_cheapest_4 : decode cX6_cheapest 4 = .ok (.iload_n 1, 1) := by decide +kernel
theorem dX6_cheapest_5 : decode cX6_cheapest 5 = .ok (.iconst 5, 1) := by decide +kernel
theorem dX6_cheapest_6 : decode cX6_cheapest 6 = .ok (.if_icmp .le 6, 3) := by decide +kernel
theorem dX6_cheapest_9 : decode cX6_cheapest 9 = .ok (.bipush (-2), 2) := by decide +kernel
theorem dX6_cheapest_11 : decode cX6_cheapest 11 = .ok (.ireturn, 1) := by decide +kernel
theorem dX6_cheapest_12 : decode cX6_cheapest 12 = .ok (.aload_n 0, 1) := by decide +kernel
theorem dX6_cheapest_13 : decode cX6_cheapest 13 = .ok (.getfield 46, 3) := by decide +kernel
theorem dX6_cheapest_16 : decode cX6_cheapest 16 = .ok (.aload_n 0, 1) := by decide +kernel
theorem dX6_cheapest_17 : decode cX6_cheapest 17 = .ok (.getfield 10, 3) := by decide +kernel
theorem dX6_cheapest_20 : decode cX6_cheapest 20 = .ok (.iconst (-1), 1) := by decide +kernel
theorem dX6_cheapest_21 : decode cX6_cheapest 21 = .ok (.invokevirtual 80, 3) := by decide +kernel
theorem dX6_cheapest_24 : decode cX6_cheapest 24 = .ok (.ifCond .ne 6, 3) := by decide +kernel
theorem dX6_cheapest_27 : decode cX6_cheapest 27 = .ok (.bipush (-6), 2) := by decide +kernel
theorem dX6_cheapest_29 : decode cX6_cheapest 29 = .ok (.ireturn, 1) := by decide +kernel
theorem dX6_cheapest_30 : decode cX6_cheapest 30 = .ok (.iload_n 1, 1) := by decide +kernel
theorem dX6_cheapest_31 : decode cX6_cheapest 31 = .ok (.ifCond .ne 16, 3) := by decide +kernel
theorem dX6_cheapest_34 : decode cX6_cheapest 34 = .ok (.aload_n 0, 1) := by decide +kernel
theorem dX6_cheapest_35 : decode cX6_cheapest 35 = .ok (.getfield 46, 3) := by decide +kernel
theorem dX6_cheapest_38 : decode cX6_cheapest 38 = .ok (.getfield 92, 3) := by decide +kernel
theorem dX6_cheapest_41 : decode cX6_cheapest 41 = .ok (.bipush 20, 2) := by decide +kernel
theorem dX6_cheapest_43 : decode cX6_cheapest 43 = .ok (.idiv, 1) := by decide +kernel
theorem dX6_cheapest_44 : decode cX6_cheapest 44 = .ok (.goto 14, 3) := by decide +kernel
theorem dX6_cheapest_47 : decode cX6_cheapest 47 = .ok (.aload_n 0, 1) := by decide +kernel
theorem dX6_cheapest_48 : decode cX6_cheapest 48 = .ok (.getfield 46, 3) := by decide +kernel
theorem dX6_cheapest_51 : decode cX6_cheapest 51 = .ok (.getfield 84, 3) := by decide +kernel
theorem dX6_cheapest_54 : decode cX6_cheapest 54 = .ok (.iload_n 1, 1) := by decide +kernel
theorem dX6_cheapest_55 : decode cX6_cheapest 55 = .ok (.iconst 1, 1) := by decide +kernel
theorem dX6_cheapest_56 : decode cX6_cheapest 56 = .ok (.isub, 1) := by decide +kernel
theorem dX6_cheapest_57 : decode cX6_cheapest 57 = .ok (.iaload, 1) := by decide +kernel
theorem dX6_cheapest_58 : decode cX6_cheapest 58 = .ok (.ireturn, 1) := by decide +kernel
theorem dX6_keepsFor_0 : decode cX6_keepsFor 0 = .ok (.iconst 0, 1) := by decide +kernel
theorem dX6_keepsFor_1 : decode cX6_keepsFor 1 = .ok (.istore_n 1, 1) := by decide +kernel
theorem dX6_keepsFor_2 : decode cX6_keepsFor 2 = .ok (.iload_n 1, 1) := by decide +kernel
theorem dX6_keepsFor_3 : decode cX6_keepsFor 3 = .ok (.sipush 400, 3) := by decide +kernel
theorem dX6_keepsFor_6 : decode cX6_keepsFor 6 = .ok (.if_icmp .gt 22, 3) := by decide +kernel
theorem dX6_keepsFor_9 : decode cX6_keepsFor 9 = .ok (.aload_n 0, 1) := by decide +kernel
theorem dX6_keepsFor_10 : decode cX6_keepsFor 10 = .ok (.getfield 10, 3) := by decide +kernel
theorem dX6_keepsFor_13 : decode cX6_keepsFor 13 = .ok (.iload_n 1, 1) := by decide +kernel
theorem dX6_keepsFor_14 : decode cX6_keepsFor 14 = .ok (.invokevirtual 140, 3) := by decide +kernel
theorem dX6_keepsFor_17 : decode cX6_keepsFor 17 = .ok (.ifCond .eq 5, 3) := by decide +kernel
theorem dX6_keepsFor_20 : decode cX6_keepsFor 20 = .ok (.iload_n 1, 1) := by decide +kernel
theorem dX6_keepsFor_21 : decode cX6_keepsFor 21 = .ok (.ireturn, 1) := by decide +kernel
theorem dX6_keepsFor_22 : decode cX6_keepsFor 22 = .ok (.iinc 1 1, 3) := by decide +kernel
theorem dX6_keepsFor_25 : decode cX6_keepsFor 25 = .ok (.goto (-23), 3) := by decide +kernel
theorem dX6_keepsFor_28 : decode cX6_keepsFor 28 = .ok (.bipush (-6), 2) := by decide +kernel
theorem dX6_keepsFor_30 : decode cX6_keepsFor 30 = .ok (.ireturn, 1) := by decide +kernel
theorem dX6_mostGrams_0 : decode cX6_mostGrams 0 = .ok (.aload_n 0, 1) := by decide +kernel
theorem dX6_mostGrams_1 : decode cX6_mostGrams 1 = .ok (.getfield 10, 3) := by decide +kernel
theorem dX6_mostGrams_4 : decode cX6_mostGrams 4 = .ok (.iconst 0, 1) := by decide +kernel
theorem dX6_mostGrams_5 : decode cX6_mostGrams 5 = .ok (.invokevirtual 140, 3) := by decide +kernel
theorem dX6_mostGrams_8 : decode cX6_mostGrams 8 = .ok (.ifCond .ne 13, 3) := by decide +kernel
theorem dX6_mostGrams_11 : decode cX6_mostGrams 11 = .ok (.aload_n 0, 1) := by decide +kernel
theorem dX6_mostGrams_12 : decode cX6_mostGrams 12 = .ok (.getfield 10, 3) := by decide +kernel
theorem dX6_mostGrams_15 : decode cX6_mostGrams 15 = .ok (.invokevirtual 182, 3) := by decide +kernel
theorem dX6_mostGrams_18 : decode cX6_mostGrams 18 = .ok (.goto 4, 3) := by decide +kernel
theorem dX6_mostGrams_21 : decode cX6_mostGrams 21 = .ok (.iconst 0, 1) := by decide +kernel
theorem dX6_mostGrams_22 : decode cX6_mostGrams 22 = .ok (.ireturn, 1) := by decide +kernel
theorem dJ9_max_7cf53_0 : decode cJ9_max_7cf53 0 = .ok (.iload_n 0, 1) := by decide +kernel
theorem dJ9_max_7cf53_1 : decode cJ9_max_7cf53 1 = .ok (.iload_n 1, 1) := by decide +kernel
theorem dJ9_max_7cf53_2 : decode cJ9_max_7cf53 2 = .ok (.if_icmp .lt 7, 3) := by decide +kernel
theorem dJ9_max_7cf53_5 : decode cJ9_max_7cf53 5 = .ok (.iload_n 0, 1) := by decide +kernel
theorem dJ9_max_7cf53_6 : decode cJ9_max_7cf53 6 = .ok (.goto 4, 3) := by decide +kernel
theorem dJ9_max_7cf53_9 : decode cJ9_max_7cf53 9 = .ok (.iload_n 1, 1) := by decide +kernel
theorem dJ9_max_7cf53_10 : decode cJ9_max_7cf53 10 = .ok (.ireturn, 1) := by decide +kernel
theorem dJ9_min_7cf53_0 : decode cJ9_min_7cf53 0 = .ok (.iload_n 0, 1) := by decide +kernel
theorem dJ9_min_7cf53_1 : decode cJ9_min_7cf53 1 = .ok (.iload_n 1, 1) := by decide +kernel
theorem dJ9_min_7cf53_2 : decode cJ9_min_7cf53 2 = .ok (.if_icmp .gt 7, 3) := by decide +kernel
theorem dJ9_min_7cf53_5 : decode cJ9_min_7cf53 5 = .ok (.iload_n 0, 1) := by decide +kernel
theorem dJ9_min_7cf53_6 : decode cJ9_min_7cf53 6 = .ok (.goto 4, 3) := by decide +kernel
theorem dJ9_min_7cf53_9 : decode cJ9_min_7cf53 9 = .ok (.iload_n 1, 1) := by decide +kernel
theorem dJ9_min_7cf53_10 : decode cJ9_min_7cf53 10 = .ok (.ireturn, 1) := by decide +kernel
theorem dJ7_fill_53178_0 : decode cJ7_fill_53178 0 = .ok (.iconst 0, 1) := by decide +kernel
theorem dJ7_fill_53178_1 : decode cJ7_fill_53178 1 = .ok (.istore_n 2, 1) := by decide +kernel
theorem dJ7_fill_53178_2 : decode cJ7_fill_53178 2 = .ok (.aload_n 0, 1) := by decide +kernel
theorem dJ7_fill_53178_3 : decode cJ7_fill_53178 3 = .ok (.arraylength, 1) := by decide +kernel
theorem dJ7_fill_53178_4 : decode cJ7_fill_53178 4 = .ok (.istore_n 3, 1) := by decide +kernel
theorem dJ7_fill_53178_5 : decode cJ7_fill_53178 5 = .ok (.iload_n 2, 1) := by decide +kernel
theorem dJ7_fill_53178_6 : decode cJ7_fill_53178 6 = .ok (.iload_n 3, 1) := by decide +kernel
theorem dJ7_fill_53178_7 : decode cJ7_fill_53178 7 = .ok (.if_icmp .ge 13, 3) := by decide +kernel
theorem dJ7_fill_53178_10 : decode cJ7_fill_53178 10 = .ok (.aload_n 0, 1) := by decide +kernel
theorem dJ7_fill_53178_11 : decode cJ7_fill_53178 11 = .ok (.iload_n 2, 1) := by decide +kernel
theorem dJ7_fill_53178_12 : decode cJ7_fill_53178 12 = .ok (.iload_n 1, 1) := by decide +kernel
theorem dJ7_fill_53178_13 : decode cJ7_fill_53178 13 = .ok (.iastore, 1) := by decide +kernel
theorem dJ7_fill_53178_14 : decode cJ7_fill_53178 14 = .ok (.iinc 2 1, 3) := by decide +kernel
theorem dJ7_fill_53178_17 : decode cJ7_fill_53178 17 = .ok (.goto (-12), 3) := by decide +kernel
theorem dJ7_fill_53178_20 : decode cJ7_fill_53178 20 = .ok (.return_, 1) := by decide +kernel
theorem dL_cell_0 : decode cL_cell 0 = .ok (.iload_n 1, 1) := by decide +kernel
theorem dL_cell_1 : decode cL_cell 1 = .ok (.aload_n 0, 1) := by decide +kernel
theorem dL_cell_2 : decode cL_cell 2 = .ok (.arraylength, 1) := by decide +kernel
theorem dL_cell_3 : decode cL_cell 3 = .ok (.if_icmp .ge 9, 3) := by decide +kernel
theorem dL_cell_6 : decode cL_cell 6 = .ok (.aload_n 0, 1) := by decide +kernel
theorem dL_cell_7 : decode cL_cell 7 = .ok (.iload_n 1, 1) := by decide +kernel
theorem dL_cell_8 : decode cL_cell 8 = .ok (.iaload, 1) := by decide +kernel
theorem dL_cell_9 : decode cL_cell 9 = .ok (.goto 11, 3) := by decide +kernel
theorem dL_cell_12 : decode cL_cell 12 = .ok (.ldc 7, 2) := by decide +kernel
theorem dL_cell_14 : decode cL_cell 14 = .ok (.iload_n 1, 1) := by decide +kernel
theorem dL_cell_15 : decode cL_cell 15 = .ok (.imul, 1) := by decide +kernel
theorem dL_cell_16 : decode cL_cell 16 = .ok (.sipush 22613, 3) := by decide +kernel
theorem dL_cell_19 : decode cL_cell 19 = .ok (.iadd, 1) := by decide +kernel
theorem dL_cell_20 : decode cL_cell 20 = .ok (.ireturn, 1) := by decide +kernel
theorem dL_low_0 : decode cL_low 0 = .ok (.iload_n 0, 1) := by decide +kernel
theorem dL_low_1 : decode cL_low 1 = .ok (.ldc 8, 2) := by decide +kernel
theorem dL_low_3 : decode cL_low 3 = .ok (.iand, 1) := by decide +kernel
theorem dL_low_4 : decode cL_low 4 = .ok (.iload_n 1, 1) := by decide +kernel
theorem dL_low_5 : decode cL_low 5 = .ok (.irem, 1) := by decide +kernel
theorem dL_low_6 : decode cL_low 6 = .ok (.ireturn, 1) := by decide +kernel
theorem dL_freshTaste_0 : decode cL_freshTaste 0 = .ok (.aload_n 0, 1) := by decide +kernel
theorem dL_freshTaste_1 : decode cL_freshTaste 1 = .ok (.bipush 12, 2) := by decide +kernel
theorem dL_freshTaste_3 : decode cL_freshTaste 3 = .ok (.iload_n 1, 1) := by decide +kernel
theorem dL_freshTaste_4 : decode cL_freshTaste 4 = .ok (.imul, 1) := by decide +kernel
theorem dL_freshTaste_5 : decode cL_freshTaste 5 = .ok (.iconst 1, 1) := by decide +kernel
theorem dL_freshTaste_6 : decode cL_freshTaste 6 = .ok (.iadd, 1) := by decide +kernel
theorem dL_freshTaste_7 : decode cL_freshTaste 7 = .ok (.iload_n 2, 1) := by decide +kernel
theorem dL_freshTaste_8 : decode cL_freshTaste 8 = .ok (.iadd, 1) := by decide +kernel
theorem dL_freshTaste_9 : decode cL_freshTaste 9 = .ok (.iaload, 1) := by decide +kernel
theorem dL_freshTaste_10 : decode cL_freshTaste 10 = .ok (.ireturn, 1) := by decide +kernel
theorem dL_leaves_0 : decode cL_leaves 0 = .ok (.aload_n 0, 1) := by decide +kernel
theorem dL_leaves_1 : decode cL_leaves 1 = .ok (.iconst 0, 1) := by decide +kernel
theorem dL_leaves_2 : decode cL_leaves 2 = .ok (.invokevirtual 9, 3) := by decide +kernel
theorem dL_leaves_5 : decode cL_leaves 5 = .ok (.aload_n 0, 1) := by decide +kernel
theorem dL_leaves_6 : decode cL_leaves 6 = .ok (.bipush 11, 2) := by decide +kernel
theorem dL_leaves_8 : decode cL_leaves 8 = .ok (.invokevirtual 9, 3) := by decide +kernel
theorem dL_leaves_11 : decode cL_leaves 11 = .ok (.irem, 1) := by decide +kernel
theorem dL_leaves_12 : decode cL_leaves 12 = .ok (.istore_n 2, 1) := by decide +kernel
theorem dL_leaves_13 : decode cL_leaves 13 = .ok (.iconst 0, 1) := by decide +kernel
theorem dL_leaves_14 : decode cL_leaves 14 = .ok (.istore_n 3, 1) := by decide +kernel
theorem dL_leaves_15 : decode cL_leaves 15 = .ok (.iload_n 3, 1) := by decide +kernel
theorem dL_leaves_16 : decode cL_leaves 16 = .ok (.aload_n 0, 1) := by decide +kernel
theorem dL_leaves_17 : decode cL_leaves 17 = .ok (.iconst 1, 1) := by decide +kernel
theorem dL_leaves_18 : decode cL_leaves 18 = .ok (.invokevirtual 9, 3) := by decide +kernel
theorem dL_leaves_21 : decode cL_leaves 21 = .ok (.if_icmp .ge 121, 3) := by decide +kernel
theorem dL_leaves_24 : decode cL_leaves 24 = .ok (.aload_n 1, 1) := by decide +kernel
theorem dL_leaves_25 : decode cL_leaves 25 = .ok (.bipush 12, 2) := by decide +kernel
theorem dL_leaves_27 : decode cL_leaves 27 = .ok (.iload_n 3, 1) := by decide +kernel
theorem dL_leaves_28 : decode cL_leaves 28 = .ok (.imul, 1) := by decide +kernel
theorem dL_leaves_29 : decode cL_leaves 29 = .ok (.iaload, 1) := by decide +kernel
theorem dL_leaves_30 : decode cL_leaves 30 = .ok (.aload_n 1, 1) := by decide +kernel
theorem dL_leaves_31 : decode cL_leaves 31 = .ok (.bipush 12, 2) := by decide +kernel
theorem dL_leaves_33 : decode cL_leaves 33 = .ok (.iload_n 3, 1) := by decide +kernel
theorem dL_leaves_34 : decode cL_leaves 34 = .ok (.imul, 1) := by decide +kernel
theorem dL_leaves_35 : decode cL_leaves 35 = .ok (.iconst 4, 1) := by decide +kernel
theorem dL_leaves_36 : decode cL_leaves 36 = .ok (.iadd, 1) := by decide +kernel
theorem dL_leaves_37 : decode cL_leaves 37 = .ok (.iload_n 2, 1) := by decide +kernel
theorem dL_leaves_38 : decode cL_leaves 38 = .ok (.iadd, 1) := by decide +kernel
theorem dL_leaves_39 : decode cL_leaves 39 = .ok (.iaload, 1) := by decide +kernel
theorem dL_leaves_40 : decode cL_leaves 40 = .ok (.iadd, 1) := by decide +kernel
theorem dL_leaves_41 : decode cL_leaves 41 = .ok (.istore 4, 2) := by decide +kernel
theorem dL_leaves_43 : decode cL_leaves 43 = .ok (.sipush 1000, 3) := by decide +kernel
theorem dL_leaves_46 : decode cL_leaves 46 = .ok (.aload_n 0, 1) := by decide +kernel
theorem dL_leaves_47 : decode cL_leaves 47 = .ok (.bipush 10, 2) := by decide +kernel
theorem dL_leaves_49 : decode cL_leaves 49 = .ok (.invokevirtual 9, 3) := by decide +kernel
theorem dL_leaves_52 : decode cL_leaves 52 = .ok (.aload_n 0, 1) := by decide +kernel
theorem dL_leaves_53 : decode cL_leaves 53 = .ok (.iload_n 3, 1) := by decide +kernel
theorem dL_leaves_54 : decode cL_leaves 54 = .ok (.iconst 5, 1) := by decide +kernel
theorem dL_leaves_55 : decode cL_leaves 55 = .ok (.invokevirtual 15, 3) := by decide +kernel
theorem dL_leaves_58 : decode cL_leaves 58 = .ok (.imul, 1) := by decide +kernel
theorem dL_leaves_59 : decode cL_leaves 59 = .ok (.isub, 1) := by decide +kernel
theorem dL_leaves_60 : decode cL_leaves 60 = .ok (.istore 5, 2) := by decide +kernel
theorem dL_leaves_62 : decode cL_leaves 62 = .ok (.aload_n 0, 1) := by decide +kernel
theorem dL_leaves_63 : decode cL_leaves 63 = .ok (.iload_n 3, 1) := by decide +kernel
theorem dL_leaves_64 : decode cL_leaves 64 = .ok (.iconst 0, 1) := by decide +kernel
theorem dL_leaves_65 : decode cL_leaves 65 = .ok (.invokevirtual 15, 3) := by decide +kernel
theorem dL_leaves_68 : decode cL_leaves 68 = .ok (.iload 4, 2) := by decide +kernel
theorem dL_leaves_70 : decode cL_leaves 70 = .ok (.ifCond .ge 7, 3) := by decide +kernel
theorem dL_leaves_73 : decode cL_leaves 73 = .ok (.iconst 0, 1) := by decide +kernel
theorem dL_leaves_74 : decode cL_leaves 74 = .ok (.goto 5, 3) := by decide +kernel
theorem dL_leaves_77 : decode cL_leaves 77 = .ok (.iload 4, 2) := by decide +kernel
theorem dL_leaves_79 : decode cL_leaves 79 = .ok (.if_icmp .eq 5, 3) := by decide +kernel
theorem dL_leaves_82 : decode cL_leaves 82 = .ok (.iconst 0, 1) := by decide +kernel
theorem dL_leaves_83 : decode cL_leaves 83 = .ok (.ireturn, 1) := by decide +kernel
theorem dL_leaves_84 : decode cL_leaves 84 = .ok (.iconst 0, 1) := by decide +kernel
theorem dL_leaves_85 : decode cL_leaves 85 = .ok (.istore 6, 2) := by decide +kernel
theorem dL_leaves_87 : decode cL_leaves 87 = .ok (.iload 6, 2) := by decide +kernel
theorem dL_leaves_89 : decode cL_leaves 89 = .ok (.iconst 3, 1) := by decide +kernel
theorem dL_leaves_90 : decode cL_leaves 90 = .ok (.if_icmp .ge 46, 3) := by decide +kernel
theorem dL_leaves_93 : decode cL_leaves 93 = .ok (.aload_n 0, 1) := by decide +kernel
theorem dL_leaves_94 : decode cL_leaves 94 = .ok (.iload_n 3, 1) := by decide +kernel
theorem dL_leaves_95 : decode cL_leaves 95 = .ok (.iconst 1, 1) := by decide +kernel
theorem dL_leaves_96 : decode cL_leaves 96 = .ok (.iload 6, 2) := by decide +kernel
theorem dL_leaves_98 : decode cL_leaves 98 = .ok (.iadd, 1) := by decide +kernel
theorem dL_leaves_99 : decode cL_leaves 99 = .ok (.invokevirtual 15, 3) := by decide +kernel
theorem dL_leaves_102 : decode cL_leaves 102 = .ok (.iload 5, 2) := by decide +kernel
theorem dL_leaves_104 : decode cL_leaves 104 = .ok (.ifCond .ge 7, 3) := by decide +kernel
theorem dL_leaves_107 : decode cL_leaves 107 = .ok (.iconst 0, 1) := by decide +kernel
theorem dL_leaves_108 : decode cL_leaves 108 = .ok (.goto 17, 3) := by decide +kernel
theorem dL_leaves_111 : decode cL_leaves 111 = .ok (.aload_n 1, 1) := by decide +kernel
theorem dL_leaves_112 : decode cL_leaves 112 = .ok (.iload_n 3, 1) := by decide +kernel
theorem dL_leaves_113 : decode cL_leaves 113 = .ok (.iload 6, 2) := by decide +kernel
theorem dL_leaves_115 : decode cL_leaves 115 = .ok (.invokestatic 19, 3) := by decide +kernel
theorem dL_leaves_118 : decode cL_leaves 118 = .ok (.iload 5, 2) := by decide +kernel
theorem dL_leaves_120 : decode cL_leaves 120 = .ok (.imul, 1) := by decide +kernel
theorem dL_leaves_121 : decode cL_leaves 121 = .ok (.sipush 1000, 3) := by decide +kernel
theorem dL_leaves_124 : decode cL_leaves 124 = .ok (.idiv, 1) := by decide +kernel
theorem dL_leaves_125 : decode cL_leaves 125 = .ok (.if_icmp .eq 5, 3) := by decide +kernel
theorem dL_leaves_128 : decode cL_leaves 128 = .ok (.iconst 0, 1) := by decide +kernel
theorem dL_leaves_129 : decode cL_leaves 129 = .ok (.ireturn, 1) := by decide +kernel
theorem dL_leaves_130 : decode cL_leaves 130 = .ok (.iinc 6 1, 3) := by decide +kernel
theorem dL_leaves_133 : decode cL_leaves 133 = .ok (.goto (-46), 3) := by decide +kernel
theorem dL_leaves_136 : decode cL_leaves 136 = .ok (.iinc 3 1, 3) := by decide +kernel
theorem dL_leaves_139 : decode cL_leaves 139 = .ok (.goto (-124), 3) := by decide +kernel
theorem dL_leaves_142 : decode cL_leaves 142 = .ok (.aload_n 0, 1) := by decide +kernel
theorem dL_leaves_143 : decode cL_leaves 143 = .ok (.aload_n 0, 1) := by decide +kernel
theorem dL_leaves_144 : decode cL_leaves 144 = .ok (.iconst 1, 1) := by decide +kernel
theorem dL_leaves_145 : decode cL_leaves 145 = .ok (.invokevirtual 9, 3) := by decide +kernel
theorem dL_leaves_148 : decode cL_leaves 148 = .ok (.iconst 0, 1) := by decide +kernel
theorem dL_leaves_149 : decode cL_leaves 149 = .ok (.invokevirtual 15, 3) := by decide +kernel
theorem dL_leaves_152 : decode cL_leaves 152 = .ok (.iconst (-1), 1) := by decide +kernel
theorem dL_leaves_153 : decode cL_leaves 153 = .ok (.if_icmp .ne 17, 3) := by decide +kernel
theorem dL_leaves_156 : decode cL_leaves 156 = .ok (.aload_n 0, 1) := by decide +kernel
theorem dL_leaves_157 : decode cL_leaves 157 = .ok (.iconst (-1), 1) := by decide +kernel
theorem dL_leaves_158 : decode cL_leaves 158 = .ok (.iconst 0, 1) := by decide +kernel
theorem dL_leaves_159 : decode cL_leaves 159 = .ok (.invokevirtual 15, 3) := by decide +kernel
theorem dL_leaves_162 : decode cL_leaves 162 = .ok (.iconst (-1), 1) := by decide +kernel
theorem dL_leaves_163 : decode cL_leaves 163 = .ok (.if_icmp .ne 7, 3) := by decide +kernel
theorem dL_leaves_166 : decode cL_leaves 166 = .ok (.iconst 1, 1) := by decide +kernel
theorem dL_leaves_167 : decode cL_leaves 167 = .ok (.goto 4, 3) := by decide +kernel
theorem dL_leaves_170 : decode cL_leaves 170 = .ok (.iconst 0, 1) := by decide +kernel
theorem dL_leaves_171 : decode cL_leaves 171 = .ok (.ireturn, 1) := by decide +kernel
theorem dL_blend_0 : decode cL_blend 0 = .ok (.iconst 0, 1) := by decide +kernel
theorem dL_blend_1 : decode cL_blend 1 = .ok (.istore_n 1, 1) := by decide +kernel
theorem dL_blend_2 : decode cL_blend 2 = .ok (.iconst 0, 1) := by decide +kernel
theorem dL_blend_3 : decode cL_blend 3 = .ok (.istore_n 2, 1) := by decide +kernel
theorem dL_blend_4 : decode cL_blend 4 = .ok (.iconst 0, 1) := by decide +kernel
theorem dL_blend_5 : decode cL_blend 5 = .ok (.istore_n 3, 1) := by decide +kernel
theorem dL_blend_6 : decode cL_blend 6 = .ok (.iconst 0, 1) := by decide +kernel
theorem dL_blend_7 : decode cL_blend 7 = .ok (.istore 4, 2) := by decide +kernel
theorem dL_blend_9 : decode cL_blend 9 = .ok (.iload 4, 2) := by decide +kernel
theorem dL_blend_11 : decode cL_blend 11 = .ok (.aload_n 0, 1) := by decide +kernel
theorem dL_blend_12 : decode cL_blend 12 = .ok (.iconst 1, 1) := by decide +kernel
theorem dL_blend_13 : decode cL_blend 13 = .ok (.invokevirtual 9, 3) := by decide +kernel
theorem dL_blend_16 : decode cL_blend 16 = .ok (.if_icmp .ge 61, 3) := by decide +kernel
theorem dL_blend_19 : decode cL_blend 19 = .ok (.iload_n 1, 1) := by decide +kernel
theorem dL_blend_20 : decode cL_blend 20 = .ok (.aload_n 0, 1) := by decide +kernel
theorem dL_blend_21 : decode cL_blend 21 = .ok (.iload 4, 2) := by decide +kernel
theorem dL_blend_23 : decode cL_blend 23 = .ok (.bipush 6, 2) := by decide +kernel
theorem dL_blend_25 : decode cL_blend 25 = .ok (.invokevirtual 15, 3) := by decide +kernel
theorem dL_blend_28 : decode cL_blend 28 = .ok (.iadd, 1) := by decide +kernel
theorem dL_blend_29 : decode cL_blend 29 = .ok (.istore_n 1, 1) := by decide +kernel
theorem dL_blend_30 : decode cL_blend 30 = .ok (.iload_n 2, 1) := by decide +kernel
theorem dL_blend_31 : decode cL_blend 31 = .ok (.aload_n 0, 1) := by decide +kernel
theorem dL_blend_32 : decode cL_blend 32 = .ok (.iload 4, 2) := by decide +kernel
theorem dL_blend_34 : decode cL_blend 34 = .ok (.bipush 6, 2) := by decide +kernel
theorem dL_blend_36 : decode cL_blend 36 = .ok (.invokevirtual 15, 3) := by decide +kernel
theorem dL_blend_39 : decode cL_blend 39 = .ok (.aload_n 0, 1) := by decide +kernel
theorem dL_blend_40 : decode cL_blend 40 = .ok (.iload 4, 2) := by decide +kernel
theorem dL_blend_42 : decode cL_blend 42 = .ok (.iconst 0, 1) := by decide +kernel
theorem dL_blend_43 : decode cL_blend 43 = .ok (.invokevirtual 15, 3) := by decide +kernel
theorem dL_blend_46 : decode cL_blend 46 = .ok (.imul, 1) := by decide +kernel
theorem dL_blend_47 : decode cL_blend 47 = .ok (.iadd, 1) := by decide +kernel
theorem dL_blend_48 : decode cL_blend 48 = .ok (.istore_n 2, 1) := by decide +kernel
theorem dL_blend_49 : decode cL_blend 49 = .ok (.iload_n 3, 1) := by decide +kernel
theorem dL_blend_50 : decode cL_blend 50 = .ok (.aload_n 0, 1) := by decide +kernel
theorem dL_blend_51 : decode cL_blend 51 = .ok (.iload 4, 2) := by decide +kernel
theorem dL_blend_53 : decode cL_blend 53 = .ok (.bipush 6, 2) := by decide +kernel
theorem dL_blend_55 : decode cL_blend 55 = .ok (.invokevirtual 15, 3) := by decide +kernel
theorem dL_blend_58 : decode cL_blend 58 = .ok (.ifCond .le 10, 3) := by decide +kernel
theorem dL_blend_61 : decode cL_blend 61 = .ok (.iconst 1, 1) := by decide +kernel
theorem dL_blend_62 : decode cL_blend 62 = .ok (.iload 4, 2) := by decide +kernel
theorem dL_blend_64 : decode cL_blend 64 = .ok (.ishl, 1) := by decide +kernel
theorem dL_blend_65 : decode cL_blend 65 = .ok (.goto 4, 3) := by decide +kernel
theorem dL_blend_68 : decode cL_blend 68 = .ok (.iconst 0, 1) := by decide +kernel
theorem dL_blend_69 : decode cL_blend 69 = .ok (.ior, 1) := by decide +kernel
theorem dL_blend_70 : decode cL_blend 70 = .ok (.istore_n 3, 1) := by decide +kernel
theorem dL_blend_71 : decode cL_blend 71 = .ok (.iinc 4 1, 3) := by decide +kernel
theorem dL_blend_74 : decode cL_blend 74 = .ok (.goto (-65), 3) := by decide +kernel
theorem dL_blend_77 : decode cL_blend 77 = .ok (.iload_n 1, 1) := by decide +kernel
theorem dL_blend_78 : decode cL_blend 78 = .ok (.bipush 20, 2) := by decide +kernel
theorem dL_blend_80 : decode cL_blend 80 = .ok (.if_icmp .ne 7, 3) := by decide +kernel
theorem dL_blend_83 : decode cL_blend 83 = .ok (.iconst 0, 1) := by decide +kernel
theorem dL_blend_84 : decode cL_blend 84 = .ok (.goto 4, 3) := by decide +kernel
theorem dL_blend_87 : decode cL_blend 87 = .ok (.iconst 1, 1) := by decide +kernel
theorem dL_blend_88 : decode cL_blend 88 = .ok (.istore 4, 2) := by decide +kernel
theorem dL_blend_90 : decode cL_blend 90 = .ok (.iconst 0, 1) := by decide +kernel
theorem dL_blend_91 : decode cL_blend 91 = .ok (.istore 5, 2) := by decide +kernel
theorem dL_blend_93 : decode cL_blend 93 = .ok (.iload 5, 2) := by decide +kernel
theorem dL_blend_95 : decode cL_blend 95 = .ok (.bipush 6, 2) := by decide +kernel
theorem dL_blend_97 : decode cL_blend 97 = .ok (.if_icmp .ge 151, 3) := by decide +kernel
theorem dL_blend_100 : decode cL_blend 100 = .ok (.iconst 0, 1) := by decide +kernel
theorem dL_blend_101 : decode cL_blend 101 = .ok (.istore 6, 2) := by decide +kernel
theorem dL_blend_103 : decode cL_blend 103 = .ok (.iconst 0, 1) := by decide +kernel
theorem dL_blend_104 : decode cL_blend 104 = .ok (.istore 7, 2) := by decide +kernel
theorem dL_blend_106 : decode cL_blend 106 = .ok (.iload 7, 2) := by decide +kernel
theorem dL_blend_108 : decode cL_blend 108 = .ok (.aload_n 0, 1) := by decide +kernel
theorem dL_blend_109 : decode cL_blend 109 = .ok (.iconst 1, 1) := by decide +kernel
theorem dL_blend_110 : decode cL_blend 110 = .ok (.invokevirtual 9, 3) := by decide +kernel
theorem dL_blend_113 : decode cL_blend 113 = .ok (.if_icmp .ge 35, 3) := by decide +kernel
theorem dL_blend_116 : decode cL_blend 116 = .ok (.iload 6, 2) := by decide +kernel
theorem dL_blend_118 : decode cL_blend 118 = .ok (.aload_n 0, 1) := by decide +kernel
theorem dL_blend_119 : decode cL_blend 119 = .ok (.iload 7, 2) := by decide +kernel
theorem dL_blend_121 : decode cL_blend 121 = .ok (.bipush 6, 2) := by decide +kernel
theorem dL_blend_123 : decode cL_blend 123 = .ok (.invokevirtual 15, 3) := by decide +kernel
theorem dL_blend_126 : decode cL_blend 126 = .ok (.aload_n 0, 1) := by decide +kernel
theorem dL_blend_127 : decode cL_blend 127 = .ok (.iload 7, 2) := by decide +kernel
theorem dL_blend_129 : decode cL_blend 129 = .ok (.iconst 1, 1) := by decide +kernel
theorem dL_blend_130 : decode cL_blend 130 = .ok (.iload 5, 2) := by decide +kernel
theorem dL_blend_132 : decode cL_blend 132 = .ok (.iconst 3, 1) := by decide +kernel
theorem dL_blend_133 : decode cL_blend 133 = .ok (.irem, 1) := by decide +kernel
theorem dL_blend_134 : decode cL_blend 134 = .ok (.iadd, 1) := by decide +kernel
theorem dL_blend_135 : decode cL_blend 135 = .ok (.invokevirtual 15, 3) := by decide +kernel
theorem dL_blend_138 : decode cL_blend 138 = .ok (.imul, 1) := by decide +kernel
theorem dL_blend_139 : decode cL_blend 139 = .ok (.iadd, 1) := by decide +kernel
theorem dL_blend_140 : decode cL_blend 140 = .ok (.istore 6, 2) := by decide +kernel
theorem dL_blend_142 : decode cL_blend 142 = .ok (.iinc 7 1, 3) := by decide +kernel
theorem dL_blend_145 : decode cL_blend 145 = .ok (.goto (-39), 3) := by decide +kernel
theorem dL_blend_148 : decode cL_blend 148 = .ok (.aload_n 0, 1) := by decide +kernel
theorem dL_blend_149 : decode cL_blend 149 = .ok (.iconst 1, 1) := by decide +kernel
theorem dL_blend_150 : decode cL_blend 150 = .ok (.iload 5, 2) := by decide +kernel
theorem dL_blend_152 : decode cL_blend 152 = .ok (.iconst 3, 1) := by decide +kernel
theorem dL_blend_153 : decode cL_blend 153 = .ok (.irem, 1) := by decide +kernel
theorem dL_blend_154 : decode cL_blend 154 = .ok (.iadd, 1) := by decide +kernel
theorem dL_blend_155 : decode cL_blend 155 = .ok (.invokevirtual 25, 3) := by decide +kernel
theorem dL_blend_158 : decode cL_blend 158 = .ok (.iload 6, 2) := by decide +kernel
theorem dL_blend_160 : decode cL_blend 160 = .ok (.bipush 20, 2) := by decide +kernel
theorem dL_blend_162 : decode cL_blend 162 = .ok (.idiv, 1) := by decide +kernel
theorem dL_blend_163 : decode cL_blend 163 = .ok (.if_icmp .eq 5, 3) := by decide +kernel
theorem dL_blend_166 : decode cL_blend 166 = .ok (.iconst 0, 1) := by decide +kernel
theorem dL_blend_167 : decode cL_blend 167 = .ok (.ireturn, 1) := by decide +kernel
theorem dL_blend_168 : decode cL_blend 168 = .ok (.iload 5, 2) := by decide +kernel
theorem dL_blend_170 : decode cL_blend 170 = .ok (.iconst 3, 1) := by decide +kernel
theorem dL_blend_171 : decode cL_blend 171 = .ok (.if_icmp .ge 27, 3) := by decide +kernel
theorem dL_blend_174 : decode cL_blend 174 = .ok (.iload 6, 2) := by decide +kernel
theorem dL_blend_176 : decode cL_blend 176 = .ok (.bipush 20, 2) := by decide +kernel
theorem dL_blend_178 : decode cL_blend 178 = .ok (.idiv, 1) := by decide +kernel
theorem dL_blend_179 : decode cL_blend 179 = .ok (.aload_n 0, 1) := by decide +kernel
theorem dL_blend_180 : decode cL_blend 180 = .ok (.iconst 4, 1) := by decide +kernel
theorem dL_blend_181 : decode cL_blend 181 = .ok (.iload 5, 2) := by decide +kernel
theorem dL_blend_183 : decode cL_blend 183 = .ok (.iadd, 1) := by decide +kernel
theorem dL_blend_184 : decode cL_blend 184 = .ok (.invokevirtual 9, 3) := by decide +kernel
theorem dL_blend_187 : decode cL_blend 187 = .ok (.if_icmp .ge 7, 3) := by decide +kernel
theorem dL_blend_190 : decode cL_blend 190 = .ok (.iconst 1, 1) := by decide +kernel
theorem dL_blend_191 : decode cL_blend 191 = .ok (.goto 28, 3) := by decide +kernel
theorem dL_blend_194 : decode cL_blend 194 = .ok (.iconst 0, 1) := by decide +kernel
theorem dL_blend_195 : decode cL_blend 195 = .ok (.goto 24, 3) := by decide +kernel
theorem dL_blend_198 : decode cL_blend 198 = .ok (.iload 6, 2) := by decide +kernel
theorem dL_blend_200 : decode cL_blend 200 = .ok (.bipush 20, 2) := by decide +kernel
theorem dL_blend_202 : decode cL_blend 202 = .ok (.idiv, 1) := by decide +kernel
theorem dL_blend_203 : decode cL_blend 203 = .ok (.aload_n 0, 1) := by decide +kernel
theorem dL_blend_204 : decode cL_blend 204 = .ok (.iconst 4, 1) := by decide +kernel
theorem dL_blend_205 : decode cL_blend 205 = .ok (.iload 5, 2) := by decide +kernel
theorem dL_blend_207 : decode cL_blend 207 = .ok (.iadd, 1) := by decide +kernel
theorem dL_blend_208 : decode cL_blend 208 = .ok (.invokevirtual 9, 3) := by decide +kernel
theorem dL_blend_211 : decode cL_blend 211 = .ok (.if_icmp .le 7, 3) := by decide +kernel
theorem dL_blend_214 : decode cL_blend 214 = .ok (.iconst 1, 1) := by decide +kernel
theorem dL_blend_215 : decode cL_blend 215 = .ok (.goto 4, 3) := by decide +kernel
theorem dL_blend_218 : decode cL_blend 218 = .ok (.iconst 0, 1) := by decide +kernel
theorem dL_blend_219 : decode cL_blend 219 = .ok (.istore 7, 2) := by decide +kernel
theorem dL_blend_221 : decode cL_blend 221 = .ok (.iload 4, 2) := by decide +kernel
theorem dL_blend_223 : decode cL_blend 223 = .ok (.ifCond .ne 15, 3) := by decide +kernel
theorem dL_blend_226 : decode cL_blend 226 = .ok (.iload 7, 2) := by decide +kernel
theorem dL_blend_228 : decode cL_blend 228 = .ok (.ifCond .eq 10, 3) := by decide +kernel
theorem dL_blend_231 : decode cL_blend 231 = .ok (.iconst 2, 1) := by decide +kernel
theorem dL_blend_232 : decode cL_blend 232 = .ok (.iload 5, 2) := by decide +kernel
theorem dL_blend_234 : decode cL_blend 234 = .ok (.iadd, 1) := by decide +kernel
theorem dL_blend_235 : decode cL_blend 235 = .ok (.goto 5, 3) := by decide +kernel
theorem dL_blend_238 : decode cL_blend 238 = .ok (.iload 4, 2) := by decide +kernel
theorem dL_blend_240 : decode cL_blend 240 = .ok (.istore 4, 2) := by decide +kernel
theorem dL_blend_242 : decode cL_blend 242 = .ok (.iinc 5 1, 3) := by decide +kernel
theorem dL_blend_245 : decode cL_blend 245 = .ok (.goto (-152), 3) := by decide +kernel
theorem dL_blend_248 : decode cL_blend 248 = .ok (.aload_n 0, 1) := by decide +kernel
theorem dL_blend_249 : decode cL_blend 249 = .ok (.iconst 0, 1) := by decide +kernel
theorem dL_blend_250 : decode cL_blend 250 = .ok (.invokevirtual 25, 3) := by decide +kernel
theorem dL_blend_253 : decode cL_blend 253 = .ok (.iload_n 2, 1) := by decide +kernel
theorem dL_blend_254 : decode cL_blend 254 = .ok (.bipush 20, 2) := by decide +kernel
theorem dL_blend_256 : decode cL_blend 256 = .ok (.idiv, 1) := by decide +kernel
theorem dL_blend_257 : decode cL_blend 257 = .ok (.if_icmp .ne 71, 3) := by decide +kernel
theorem dL_blend_260 : decode cL_blend 260 = .ok (.aload_n 0, 1) := by decide +kernel
theorem dL_blend_261 : decode cL_blend 261 = .ok (.iconst 4, 1) := by decide +kernel
theorem dL_blend_262 : decode cL_blend 262 = .ok (.invokevirtual 25, 3) := by decide +kernel
theorem dL_blend_265 : decode cL_blend 265 = .ok (.iload_n 1, 1) := by decide +kernel
theorem dL_blend_266 : decode cL_blend 266 = .ok (.if_icmp .ne 62, 3) := by decide +kernel
theorem dL_blend_269 : decode cL_blend 269 = .ok (.aload_n 0, 1) := by decide +kernel
theorem dL_blend_270 : decode cL_blend 270 = .ok (.iconst 5, 1) := by decide +kernel
theorem dL_blend_271 : decode cL_blend 271 = .ok (.invokevirtual 25, 3) := by decide +kernel
theorem dL_blend_274 : decode cL_blend 274 = .ok (.iload_n 3, 1) := by decide +kernel
theorem dL_blend_275 : decode cL_blend 275 = .ok (.if_icmp .ne 53, 3) := by decide +kernel
theorem dL_blend_278 : decode cL_blend 278 = .ok (.aload_n 0, 1) := by decide +kernel
theorem dL_blend_279 : decode cL_blend 279 = .ok (.invokevirtual 28, 3) := by decide +kernel
theorem dL_blend_282 : decode cL_blend 282 = .ok (.iload 4, 2) := by decide +kernel
theorem dL_blend_284 : decode cL_blend 284 = .ok (.if_icmp .ne 44, 3) := by decide +kernel
theorem dL_blend_287 : decode cL_blend 287 = .ok (.aload_n 0, 1) := by decide +kernel
theorem dL_blend_288 : decode cL_blend 288 = .ok (.invokevirtual 32, 3) := by decide +kernel
theorem dL_blend_291 : decode cL_blend 291 = .ok (.ifCond .ne 7, 3) := by decide +kernel
theorem dL_blend_294 : decode cL_blend 294 = .ok (.iconst 1, 1) := by decide +kernel
theorem dL_blend_295 : decode cL_blend 295 = .ok (.goto 4, 3) := by decide +kernel
theorem dL_blend_298 : decode cL_blend 298 = .ok (.iconst 0, 1) := by decide +kernel
theorem dL_blend_299 : decode cL_blend 299 = .ok (.iload 4, 2) := by decide +kernel
theorem dL_blend_301 : decode cL_blend 301 = .ok (.ifCond .eq 7, 3) := by decide +kernel
theorem dL_blend_304 : decode cL_blend 304 = .ok (.iconst 1, 1) := by decide +kernel
theorem dL_blend_305 : decode cL_blend 305 = .ok (.goto 4, 3) := by decide +kernel
theorem dL_blend_308 : decode cL_blend 308 = .ok (.iconst 0, 1) := by decide +kernel
theorem dL_blend_309 : decode cL_blend 309 = .ok (.if_icmp .ne 19, 3) := by decide +kernel
theorem dL_blend_312 : decode cL_blend 312 = .ok (.iload 4, 2) := by decide +kernel
theorem dL_blend_314 : decode cL_blend 314 = .ok (.ifCond .eq 10, 3) := by decide +kernel
theorem dL_blend_317 : decode cL_blend 317 = .ok (.aload_n 0, 1) := by decide +kernel
theorem dL_blend_318 : decode cL_blend 318 = .ok (.invokevirtual 35, 3) := by decide +kernel
theorem dL_blend_321 : decode cL_blend 321 = .ok (.ifCond .ne 7, 3) := by decide +kernel
theorem dL_blend_324 : decode cL_blend 324 = .ok (.iconst 1, 1) := by decide +kernel
theorem dL_blend_325 : decode cL_blend 325 = .ok (.goto 4, 3) := by decide +kernel
theorem dL_blend_328 : decode cL_blend 328 = .ok (.iconst 0, 1) := by decide +kernel
theorem dL_blend_329 : decode cL_blend 329 = .ok (.ireturn, 1) := by decide +kernel
theorem dL_mixes_0 : decode cL_mixes 0 = .ok (.aload_n 0, 1) := by decide +kernel
theorem dL_mixes_1 : decode cL_mixes 1 = .ok (.invokevirtual 35, 3) := by decide +kernel
theorem dL_mixes_4 : decode cL_mixes 4 = .ok (.istore_n 2, 1) := by decide +kernel
theorem dL_mixes_5 : decode cL_mixes 5 = .ok (.aload_n 0, 1) := by decide +kernel
theorem dL_mixes_6 : decode cL_mixes 6 = .ok (.iconst 0, 1) := by decide +kernel
theorem dL_mixes_7 : decode cL_mixes 7 = .ok (.invokevirtual 25, 3) := by decide +kernel
theorem dL_mixes_10 : decode cL_mixes 10 = .ok (.istore_n 3, 1) := by decide +kernel
theorem dL_mixes_11 : decode cL_mixes 11 = .ok (.iload_n 1, 1) := by decide +kernel
theorem dL_mixes_12 : decode cL_mixes 12 = .ok (.iload_n 2, 1) := by decide +kernel
theorem dL_mixes_13 : decode cL_mixes 13 = .ok (.if_icmp .le 7, 3) := by decide +kernel
theorem dL_mixes_16 : decode cL_mixes 16 = .ok (.iload_n 2, 1) := by decide +kernel
theorem dL_mixes_17 : decode cL_mixes 17 = .ok (.goto 4, 3) := by decide +kernel
theorem dL_mixes_20 : decode cL_mixes 20 = .ok (.iload_n 1, 1) := by decide +kernel
theorem dL_mixes_21 : decode cL_mixes 21 = .ok (.istore 4, 2) := by decide +kernel
theorem dL_mixes_23 : decode cL_mixes 23 = .ok (.iload_n 2, 1) := by decide +kernel
theorem dL_mixes_24 : decode cL_mixes 24 = .ok (.sipush 9999, 3) := by decide +kernel
theorem dL_mixes_27 : decode cL_mixes 27 = .ok (.if_icmp .ge 17, 3) := by decide +kernel
theorem dL_mixes_30 : decode cL_mixes 30 = .ok (.aload_n 0, 1) := by decide +kernel
theorem dL_mixes_31 : decode cL_mixes 31 = .ok (.iload_n 2, 1) := by decide +kernel
theorem dL_mixes_32 : decode cL_mixes 32 = .ok (.iconst 1, 1) := by decide +kernel
theorem dL_mixes_33 : decode cL_mixes 33 = .ok (.iadd, 1) := by decide +kernel
theorem dL_mixes_34 : decode cL_mixes 34 = .ok (.invokevirtual 38, 3) := by decide +kernel
theorem dL_mixes_37 : decode cL_mixes 37 = .ok (.bipush (-5), 2) := by decide +kernel
theorem dL_mixes_39 : decode cL_mixes 39 = .ok (.if_icmp .eq 5, 3) := by decide +kernel
theorem dL_mixes_42 : decode cL_mixes 42 = .ok (.iconst 0, 1) := by decide +kernel
theorem dL_mixes_43 : decode cL_mixes 43 = .ok (.ireturn, 1) := by decide +kernel
theorem dL_mixes_44 : decode cL_mixes 44 = .ok (.iload 4, 2) := by decide +kernel
theorem dL_mixes_46 : decode cL_mixes 46 = .ok (.ifCond .ne 19, 3) := by decide +kernel
theorem dL_mixes_49 : decode cL_mixes 49 = .ok (.aload_n 0, 1) := by decide +kernel
theorem dL_mixes_50 : decode cL_mixes 50 = .ok (.iconst 0, 1) := by decide +kernel
theorem dL_mixes_51 : decode cL_mixes 51 = .ok (.invokevirtual 38, 3) := by decide +kernel
theorem dL_mixes_54 : decode cL_mixes 54 = .ok (.bipush (-2), 2) := by decide +kernel
theorem dL_mixes_56 : decode cL_mixes 56 = .ok (.if_icmp .ne 7, 3) := by decide +kernel
theorem dL_mixes_59 : decode cL_mixes 59 = .ok (.iconst 1, 1) := by decide +kernel
theorem dL_mixes_60 : decode cL_mixes 60 = .ok (.goto 4, 3) := by decide +kernel
theorem dL_mixes_63 : decode cL_mixes 63 = .ok (.iconst 0, 1) := by decide +kernel
theorem dL_mixes_64 : decode cL_mixes 64 = .ok (.ireturn, 1) := by decide +kernel
theorem dL_mixes_65 : decode cL_mixes 65 = .ok (.aload_n 0, 1) := by decide +kernel
theorem dL_mixes_66 : decode cL_mixes 66 = .ok (.iconst 2, 1) := by decide +kernel
theorem dL_mixes_67 : decode cL_mixes 67 = .ok (.invokevirtual 9, 3) := by decide +kernel
theorem dL_mixes_70 : decode cL_mixes 70 = .ok (.istore 5, 2) := by decide +kernel
theorem dL_mixes_72 : decode cL_mixes 72 = .ok (.aload_n 0, 1) := by decide +kernel
theorem dL_mixes_73 : decode cL_mixes 73 = .ok (.iconst 3, 1) := by decide +kernel
theorem dL_mixes_74 : decode cL_mixes 74 = .ok (.invokevirtual 9, 3) := by decide +kernel
theorem dL_mixes_77 : decode cL_mixes 77 = .ok (.istore 6, 2) := by decide +kernel
theorem dL_mixes_79 : decode cL_mixes 79 = .ok (.iconst 5, 1) := by decide +kernel
theorem dL_mixes_80 : decode cL_mixes 80 = .ok (.newarray .int, 2) := by decide +kernel
theorem dL_mixes_82 : decode cL_mixes 82 = .ok (.astore 7, 2) := by decide +kernel
theorem dL_mixes_84 : decode cL_mixes 84 = .ok (.iconst 0, 1) := by decide +kernel
theorem dL_mixes_85 : decode cL_mixes 85 = .ok (.istore 8, 2) := by decide +kernel
theorem dL_mixes_87 : decode cL_mixes 87 = .ok (.iload 8, 2) := by decide +kernel
theorem dL_mixes_89 : decode cL_mixes 89 = .ok (.aload_n 0, 1) := by decide +kernel
theorem dL_mixes_90 : decode cL_mixes 90 = .ok (.iconst 1, 1) := by decide +kernel
theorem dL_mixes_91 : decode cL_mixes 91 = .ok (.invokevirtual 9, 3) := by decide +kernel
theorem dL_mixes_94 : decode cL_mixes 94 = .ok (.if_icmp .ge 21, 3) := by decide +kernel
theorem dL_mixes_97 : decode cL_mixes 97 = .ok (.aload 7, 2) := by decide +kernel
theorem dL_mixes_99 : decode cL_mixes 99 = .ok (.iload 8, 2) := by decide +kernel
theorem dL_mixes_101 : decode cL_mixes 101 = .ok (.aload_n 0, 1) := by decide +kernel
theorem dL_mixes_102 : decode cL_mixes 102 = .ok (.iload 8, 2) := by decide +kernel
theorem dL_mixes_104 : decode cL_mixes 104 = .ok (.iconst 4, 1) := by decide +kernel
theorem dL_mixes_105 : decode cL_mixes 105 = .ok (.invokevirtual 15, 3) := by decide +kernel
theorem dL_mixes_108 : decode cL_mixes 108 = .ok (.iastore, 1) := by decide +kernel
theorem dL_mixes_109 : decode cL_mixes 109 = .ok (.iinc 8 1, 3) := by decide +kernel
theorem dL_mixes_112 : decode cL_mixes 112 = .ok (.goto (-25), 3) := by decide +kernel
theorem dL_mixes_115 : decode cL_mixes 115 = .ok (.aload_n 0, 1) := by decide +kernel
theorem dL_mixes_116 : decode cL_mixes 116 = .ok (.iload 4, 2) := by decide +kernel
theorem dL_mixes_118 : decode cL_mixes 118 = .ok (.invokevirtual 38, 3) := by decide +kernel
theorem dL_mixes_121 : decode cL_mixes 121 = .ok (.iload_n 3, 1) := by decide +kernel
theorem dL_mixes_122 : decode cL_mixes 122 = .ok (.if_icmp .ne 34, 3) := by decide +kernel
theorem dL_mixes_125 : decode cL_mixes 125 = .ok (.aload_n 0, 1) := by decide +kernel
theorem dL_mixes_126 : decode cL_mixes 126 = .ok (.iconst 2, 1) := by decide +kernel
theorem dL_mixes_127 : decode cL_mixes 127 = .ok (.invokevirtual 9, 3) := by decide +kernel
theorem dL_mixes_130 : decode cL_mixes 130 = .ok (.iload 5, 2) := by decide +kernel
theorem dL_mixes_132 : decode cL_mixes 132 = .ok (.iload 4, 2) := by decide +kernel
theorem dL_mixes_134 : decode cL_mixes 134 = .ok (.iadd, 1) := by decide +kernel
theorem dL_mixes_135 : decode cL_mixes 135 = .ok (.if_icmp .ne 21, 3) := by decide +kernel
theorem dL_mixes_138 : decode cL_mixes 138 = .ok (.aload_n 0, 1) := by decide +kernel
theorem dL_mixes_139 : decode cL_mixes 139 = .ok (.iconst 3, 1) := by decide +kernel
theorem dL_mixes_140 : decode cL_mixes 140 = .ok (.invokevirtual 9, 3) := by decide +kernel
theorem dL_mixes_143 : decode cL_mixes 143 = .ok (.iload 6, 2) := by decide +kernel
theorem dL_mixes_145 : decode cL_mixes 145 = .ok (.iload 4, 2) := by decide +kernel
theorem dL_mixes_147 : decode cL_mixes 147 = .ok (.iload_n 3, 1) := by decide +kernel
theorem dL_mixes_148 : decode cL_mixes 148 = .ok (.imul, 1) := by decide +kernel
theorem dL_mixes_149 : decode cL_mixes 149 = .ok (.bipush 100, 2) := by decide +kernel
theorem dL_mixes_151 : decode cL_mixes 151 = .ok (.idiv, 1) := by decide +kernel
theorem dL_mixes_152 : decode cL_mixes 152 = .ok (.iadd, 1) := by decide +kernel
theorem dL_mixes_153 : decode cL_mixes 153 = .ok (.if_icmp .eq 5, 3) := by decide +kernel
theorem dL_mixes_156 : decode cL_mixes 156 = .ok (.iconst 0, 1) := by decide +kernel
theorem dL_mixes_157 : decode cL_mixes 157 = .ok (.ireturn, 1) := by decide +kernel
theorem dL_mixes_158 : decode cL_mixes 158 = .ok (.iconst 0, 1) := by decide +kernel
theorem dL_mixes_159 : decode cL_mixes 159 = .ok (.istore 8, 2) := by decide +kernel
theorem dL_mixes_161 : decode cL_mixes 161 = .ok (.iload 8, 2) := by decide +kernel
theorem dL_mixes_163 : decode cL_mixes 163 = .ok (.aload_n 0, 1) := by decide +kernel
theorem dL_mixes_164 : decode cL_mixes 164 = .ok (.iconst 1, 1) := by decide +kernel
theorem dL_mixes_165 : decode cL_mixes 165 = .ok (.invokevirtual 9, 3) := by decide +kernel
theorem dL_mixes_168 : decode cL_mixes 168 = .ok (.if_icmp .ge 81, 3) := by decide +kernel
theorem dL_mixes_171 : decode cL_mixes 171 = .ok (.aload 7, 2) := by decide +kernel
theorem dL_mixes_173 : decode cL_mixes 173 = .ok (.iload 8, 2) := by decide +kernel
theorem dL_mixes_175 : decode cL_mixes 175 = .ok (.iaload, 1) := by decide +kernel
theorem dL_mixes_176 : decode cL_mixes 176 = .ok (.aload_n 0, 1) := by decide +kernel
theorem dL_mixes_177 : decode cL_mixes 177 = .ok (.iload 8, 2) := by decide +kernel
theorem dL_mixes_179 : decode cL_mixes 179 = .ok (.iconst 4, 1) := by decide +kernel
theorem dL_mixes_180 : decode cL_mixes 180 = .ok (.invokevirtual 15, 3) := by decide +kernel
theorem dL_mixes_183 : decode cL_mixes 183 = .ok (.isub, 1) := by decide +kernel
theorem dL_mixes_184 : decode cL_mixes 184 = .ok (.istore 9, 2) := by decide +kernel
theorem dL_mixes_186 : decode cL_mixes 186 = .ok (.aload_n 0, 1) := by decide +kernel
theorem dL_mixes_187 : decode cL_mixes 187 = .ok (.iload 8, 2) := by decide +kernel
theorem dL_mixes_189 : decode cL_mixes 189 = .ok (.iconst 4, 1) := by decide +kernel
theorem dL_mixes_190 : decode cL_mixes 190 = .ok (.invokevirtual 15, 3) := by decide +kernel
theorem dL_mixes_193 : decode cL_mixes 193 = .ok (.ifCond .lt 48, 3) := by decide +kernel
theorem dL_mixes_196 : decode cL_mixes 196 = .ok (.bipush 20, 2) := by decide +kernel
theorem dL_mixes_198 : decode cL_mixes 198 = .ok (.iload 9, 2) := by decide +kernel
theorem dL_mixes_200 : decode cL_mixes 200 = .ok (.imul, 1) := by decide +kernel
theorem dL_mixes_201 : decode cL_mixes 201 = .ok (.iload 4, 2) := by decide +kernel
theorem dL_mixes_203 : decode cL_mixes 203 = .ok (.aload_n 0, 1) := by decide +kernel
theorem dL_mixes_204 : decode cL_mixes 204 = .ok (.iload 8, 2) := by decide +kernel
theorem dL_mixes_206 : decode cL_mixes 206 = .ok (.bipush 6, 2) := by decide +kernel
theorem dL_mixes_208 : decode cL_mixes 208 = .ok (.invokevirtual 15, 3) := by decide +kernel
theorem dL_mixes_211 : decode cL_mixes 211 = .ok (.imul, 1) := by decide +kernel
theorem dL_mixes_212 : decode cL_mixes 212 = .ok (.if_icmp .lt 29, 3) := by decide +kernel
theorem dL_mixes_215 : decode cL_mixes 215 = .ok (.bipush 20, 2) := by decide +kernel
theorem dL_mixes_217 : decode cL_mixes 217 = .ok (.iload 9, 2) := by decide +kernel
theorem dL_mixes_219 : decode cL_mixes 219 = .ok (.iconst 1, 1) := by decide +kernel
theorem dL_mixes_220 : decode cL_mixes 220 = .ok (.isub, 1) := by decide +kernel
theorem dL_mixes_221 : decode cL_mixes 221 = .ok (.imul, 1) := by decide +kernel
theorem dL_mixes_222 : decode cL_mixes 222 = .ok (.iload 4, 2) := by decide +kernel
theorem dL_mixes_224 : decode cL_mixes 224 = .ok (.aload_n 0, 1) := by decide +kernel
theorem dL_mixes_225 : decode cL_mixes 225 = .ok (.iload 8, 2) := by decide +kernel
theorem dL_mixes_227 : decode cL_mixes 227 = .ok (.bipush 6, 2) := by decide +kernel
theorem dL_mixes_229 : decode cL_mixes 229 = .ok (.invokevirtual 15, 3) := by decide +kernel
theorem dL_mixes_232 : decode cL_mixes 232 = .ok (.imul, 1) := by decide +kernel
theorem dL_mixes_233 : decode cL_mixes 233 = .ok (.if_icmp .lt 10, 3) := by decide +kernel
theorem dL_mixes_236 : decode cL_mixes 236 = .ok (.iload 9, 2) := by decide +kernel
theorem dL_mixes_238 : decode cL_mixes 238 = .ok (.ifCond .le 5, 3) := by decide +kernel
theorem dL_mixes_241 : decode cL_mixes 241 = .ok (.iconst 0, 1) := by decide +kernel
theorem dL_mixes_242 : decode cL_mixes 242 = .ok (.ireturn, 1) := by decide +kernel
theorem dL_mixes_243 : decode cL_mixes 243 = .ok (.iinc 8 1, 3) := by decide +kernel
theorem dL_mixes_246 : decode cL_mixes 246 = .ok (.goto (-85), 3) := by decide +kernel
theorem dL_mixes_249 : decode cL_mixes 249 = .ok (.iconst 1, 1) := by decide +kernel
theorem dL_mixes_250 : decode cL_mixes 250 = .ok (.ireturn, 1) := by decide +kernel
theorem dL_act_0 : decode cL_act 0 = .ok (.aload_n 0, 1) := by decide +kernel
theorem dL_act_1 : decode cL_act 1 = .ok (.iconst 1, 1) := by decide +kernel
theorem dL_act_2 : decode cL_act 2 = .ok (.invokevirtual 9, 3) := by decide +kernel
theorem dL_act_5 : decode cL_act 5 = .ok (.istore 4, 2) := by decide +kernel
theorem dL_act_7 : decode cL_act 7 = .ok (.iload 4, 2) := by decide +kernel
theorem dL_act_9 : decode cL_act 9 = .ok (.ifCond .ne 7, 3) := by decide +kernel
theorem dL_act_12 : decode cL_act 12 = .ok (.iconst 0, 1) := by decide +kernel
theorem dL_act_13 : decode cL_act 13 = .ok (.goto 11, 3) := by decide +kernel
theorem dL_act_16 : decode cL_act 16 = .ok (.iload_n 2, 1) := by decide +kernel
theorem dL_act_17 : decode cL_act 17 = .ok (.iconst 4, 1) := by decide +kernel
theorem dL_act_18 : decode cL_act 18 = .ok (.ishr, 1) := by decide +kernel
theorem dL_act_19 : decode cL_act 19 = .ok (.iload 4, 2) := by decide +kernel
theorem dL_act_21 : decode cL_act 21 = .ok (.invokestatic 41, 3) := by decide +kernel
theorem dL_act_24 : decode cL_act 24 = .ok (.istore 5, 2) := by decide +kernel
theorem dL_act_26 : decode cL_act 26 = .ok (.iload_n 2, 1) := by decide +kernel
theorem dL_act_27 : decode cL_act 27 = .ok (.bipush 11, 2) := by decide +kernel
theorem dL_act_29 : decode cL_act 29 = .ok (.invokestatic 41, 3) := by decide +kernel
theorem dL_act_32 : decode cL_act 32 = .ok (.istore 6, 2) := by decide +kernel
theorem dL_act_34 : decode cL_act 34 = .ok (.iload 6, 2) := by decide +kernel
theorem dL_act_36 : decode cL_act 36 = .ok (.ifCond .eq 8, 3) := by decide +kernel
theorem dL_act_39 : decode cL_act 39 = .ok (.iload 4, 2) := by decide +kernel
theorem dL_act_41 : decode cL_act 41 = .ok (.ifCond .ne 220, 3) := by decide +kernel
theorem dL_act_44 : decode cL_act 44 = .ok (.iload_n 3, 1) := by decide +kernel
theorem dL_act_45 : decode cL_act 45 = .ok (.sipush 300, 3) := by decide +kernel
theorem dL_act_48 : decode cL_act 48 = .ok (.invokestatic 41, 3) := by decide +kernel
theorem dL_act_51 : decode cL_act 51 = .ok (.istore 7, 2) := by decide +kernel
theorem dL_act_53 : decode cL_act 53 = .ok (.iload_n 3, 1) := by decide +kernel
theorem dL_act_54 : decode cL_act 54 = .ok (.iconst 3, 1) := by decide +kernel
theorem dL_act_55 : decode cL_act 55 = .ok (.ishr, 1) := by decide +kernel
theorem dL_act_56 : decode cL_act 56 = .ok (.bipush 101, 2) := by decide +kernel
theorem dL_act_58 : decode cL_act 58 = .ok (.invokestatic 41, 3) := by decide +kernel
theorem dL_act_61 : decode cL_act 61 = .ok (.istore 8, 2) := by decide +kernel
theorem dL_act_63 : decode cL_act 63 = .ok (.iload_n 3, 1) := by decide +kernel
theorem dL_act_64 : decode cL_act 64 = .ok (.bipush 8, 2) := by decide +kernel
theorem dL_act_66 : decode cL_act 66 = .ok (.ishr, 1) := by decide +kernel
theorem dL_act_67 : decode cL_act 67 = .ok (.bipush 101, 2) := by decide +kernel
theorem dL_act_69 : decode cL_act 69 = .ok (.invokestatic 41, 3) := by decide +kernel
theorem dL_act_72 : decode cL_act 72 = .ok (.istore 9, 2) := by decide +kernel
theorem dL_act_74 : decode cL_act 74 = .ok (.iload_n 3, 1) := by decide +kernel
theorem dL_act_75 : decode cL_act 75 = .ok (.bipush 13, 2) := by decide +kernel
theorem dL_act_77 : decode cL_act 77 = .ok (.ishr, 1) := by decide +kernel
theorem dL_act_78 : decode cL_act 78 = .ok (.bipush 101, 2) := by decide +kernel
theorem dL_act_80 : decode cL_act 80 = .ok (.invokestatic 41, 3) := by decide +kernel
theorem dL_act_83 : decode cL_act 83 = .ok (.istore 10, 2) := by decide +kernel
theorem dL_act_85 : decode cL_act 85 = .ok (.aload_n 0, 1) := by decide +kernel
theorem dL_act_86 : decode cL_act 86 = .ok (.iload 7, 2) := by decide +kernel
theorem dL_act_88 : decode cL_act 88 = .ok (.iload 8, 2) := by decide +kernel
theorem dL_act_90 : decode cL_act 90 = .ok (.iload 9, 2) := by decide +kernel
theorem dL_act_92 : decode cL_act 92 = .ok (.bipush 7, 2) := by decide +kernel
theorem dL_act_94 : decode cL_act 94 = .ok (.ishl, 1) := by decide +kernel
theorem dL_act_95 : decode cL_act 95 = .ok (.ior, 1) := by decide +kernel
theorem dL_act_96 : decode cL_act 96 = .ok (.iload 10, 2) := by decide +kernel
theorem dL_act_98 : decode cL_act 98 = .ok (.bipush 14, 2) := by decide +kernel
theorem dL_act_100 : decode cL_act 100 = .ok (.ishl, 1) := by decide +kernel
theorem dL_act_101 : decode cL_act 101 = .ok (.ior, 1) := by decide +kernel
theorem dL_act_102 : decode cL_act 102 = .ok (.iload_n 3, 1) := by decide +kernel
theorem dL_act_103 : decode cL_act 103 = .ok (.bipush 9, 2) := by decide +kernel
theorem dL_act_105 : decode cL_act 105 = .ok (.ishr, 1) := by decide +kernel
theorem dL_act_106 : decode cL_act 106 = .ok (.sipush 3000, 3) := by decide +kernel
theorem dL_act_109 : decode cL_act 109 = .ok (.invokestatic 41, 3) := by decide +kernel
theorem dL_act_112 : decode cL_act 112 = .ok (.invokevirtual 44, 3) := by decide +kernel
theorem dL_act_115 : decode cL_act 115 = .ok (.istore 11, 2) := by decide +kernel
theorem dL_act_117 : decode cL_act 117 = .ok (.iload 4, 2) := by decide +kernel
theorem dL_act_119 : decode cL_act 119 = .ok (.iconst 5, 1) := by decide +kernel
theorem dL_act_120 : decode cL_act 120 = .ok (.if_icmp .ne 16, 3) := by decide +kernel
theorem dL_act_123 : decode cL_act 123 = .ok (.iload 11, 2) := by decide +kernel
theorem dL_act_125 : decode cL_act 125 = .ok (.bipush (-4), 2) := by decide +kernel
theorem dL_act_127 : decode cL_act 127 = .ok (.if_icmp .ne 7, 3) := by decide +kernel
theorem dL_act_130 : decode cL_act 130 = .ok (.iconst 1, 1) := by decide +kernel
theorem dL_act_131 : decode cL_act 131 = .ok (.goto 4, 3) := by decide +kernel
theorem dL_act_134 : decode cL_act 134 = .ok (.iconst 0, 1) := by decide +kernel
theorem dL_act_135 : decode cL_act 135 = .ok (.ireturn, 1) := by decide +kernel
theorem dL_act_136 : decode cL_act 136 = .ok (.aload_n 1, 1) := by decide +kernel
theorem dL_act_137 : decode cL_act 137 = .ok (.bipush 12, 2) := by decide +kernel
theorem dL_act_139 : decode cL_act 139 = .ok (.iload 4, 2) := by decide +kernel
theorem dL_act_141 : decode cL_act 141 = .ok (.imul, 1) := by decide +kernel
theorem dL_act_142 : decode cL_act 142 = .ok (.iload 7, 2) := by decide +kernel
theorem dL_act_144 : decode cL_act 144 = .ok (.iastore, 1) := by decide +kernel
theorem dL_act_145 : decode cL_act 145 = .ok (.aload_n 1, 1) := by decide +kernel
theorem dL_act_146 : decode cL_act 146 = .ok (.bipush 12, 2) := by decide +kernel
theorem dL_act_148 : decode cL_act 148 = .ok (.iload 4, 2) := by decide +kernel
theorem dL_act_150 : decode cL_act 150 = .ok (.imul, 1) := by decide +kernel
theorem dL_act_151 : decode cL_act 151 = .ok (.iconst 1, 1) := by decide +kernel
theorem dL_act_152 : decode cL_act 152 = .ok (.iadd, 1) := by decide +kernel
theorem dL_act_153 : decode cL_act 153 = .ok (.iload 8, 2) := by decide +kernel
theorem dL_act_155 : decode cL_act 155 = .ok (.iastore, 1) := by decide +kernel
theorem dL_act_156 : decode cL_act 156 = .ok (.aload_n 1, 1) := by decide +kernel
theorem dL_act_157 : decode cL_act 157 = .ok (.bipush 12, 2) := by decide +kernel
theorem dL_act_159 : decode cL_act 159 = .ok (.iload 4, 2) := by decide +kernel
theorem dL_act_161 : decode cL_act 161 = .ok (.imul, 1) := by decide +kernel
theorem dL_act_162 : decode cL_act 162 = .ok (.iconst 2, 1) := by decide +kernel
theorem dL_act_163 : decode cL_act 163 = .ok (.iadd, 1) := by decide +kernel
theorem dL_act_164 : decode cL_act 164 = .ok (.iload 9, 2) := by decide +kernel
theorem dL_act_166 : decode cL_act 166 = .ok (.iastore, 1) := by decide +kernel
theorem dL_act_167 : decode cL_act 167 = .ok (.aload_n 1, 1) := by decide +kernel
theorem dL_act_168 : decode cL_act 168 = .ok (.bipush 12, 2) := by decide +kernel
theorem dL_act_170 : decode cL_act 170 = .ok (.iload 4, 2) := by decide +kernel
theorem dL_act_172 : decode cL_act 172 = .ok (.imul, 1) := by decide +kernel
theorem dL_act_173 : decode cL_act 173 = .ok (.iconst 3, 1) := by decide +kernel
theorem dL_act_174 : decode cL_act 174 = .ok (.iadd, 1) := by decide +kernel
theorem dL_act_175 : decode cL_act 175 = .ok (.iload 10, 2) := by decide +kernel
theorem dL_act_177 : decode cL_act 177 = .ok (.iastore, 1) := by decide +kernel
theorem dL_act_178 : decode cL_act 178 = .ok (.iconst 0, 1) := by decide +kernel
theorem dL_act_179 : decode cL_act 179 = .ok (.istore 12, 2) := by decide +kernel
theorem dL_act_181 : decode cL_act 181 = .ok (.iload 12, 2) := by decide +kernel
theorem dL_act_183 : decode cL_act 183 = .ok (.bipush 7, 2) := by decide +kernel
theorem dL_act_185 : decode cL_act 185 = .ok (.if_icmp .ge 22, 3) := by decide +kernel
theorem dL_act_188 : decode cL_act 188 = .ok (.aload_n 1, 1) := by decide +kernel
theorem dL_act_189 : decode cL_act 189 = .ok (.bipush 12, 2) := by decide +kernel
theorem dL_act_191 : decode cL_act 191 = .ok (.iload 4, 2) := by decide +kernel
theorem dL_act_193 : decode cL_act 193 = .ok (.imul, 1) := by decide +kernel
theorem dL_act_194 : decode cL_act 194 = .ok (.iconst 4, 1) := by decide +kernel
theorem dL_act_195 : decode cL_act 195 = .ok (.iadd, 1) := by decide +kernel
theorem dL_act_196 : decode cL_act 196 = .ok (.iload 12, 2) := by decide +kernel
theorem dL_act_198 : decode cL_act 198 = .ok (.iadd, 1) := by decide +kernel
theorem dL_act_199 : decode cL_act 199 = .ok (.iconst 0, 1) := by decide +kernel
theorem dL_act_200 : decode cL_act 200 = .ok (.iastore, 1) := by decide +kernel
theorem dL_act_201 : decode cL_act 201 = .ok (.iinc 12 1, 3) := by decide +kernel
theorem dL_act_204 : decode cL_act 204 = .ok (.goto (-23), 3) := by decide +kernel
theorem dL_act_207 : decode cL_act 207 = .ok (.iload 11, 2) := by decide +kernel
theorem dL_act_209 : decode cL_act 209 = .ok (.iload 4, 2) := by decide +kernel
theorem dL_act_211 : decode cL_act 211 = .ok (.if_icmp .ne 48, 3) := by decide +kernel
theorem dL_act_214 : decode cL_act 214 = .ok (.aload_n 0, 1) := by decide +kernel
theorem dL_act_215 : decode cL_act 215 = .ok (.iload 4, 2) := by decide +kernel
theorem dL_act_217 : decode cL_act 217 = .ok (.iconst 4, 1) := by decide +kernel
theorem dL_act_218 : decode cL_act 218 = .ok (.invokevirtual 15, 3) := by decide +kernel
theorem dL_act_221 : decode cL_act 221 = .ok (.iload_n 3, 1) := by decide +kernel
theorem dL_act_222 : decode cL_act 222 = .ok (.bipush 9, 2) := by decide +kernel
theorem dL_act_224 : decode cL_act 224 = .ok (.ishr, 1) := by decide +kernel
theorem dL_act_225 : decode cL_act 225 = .ok (.sipush 3000, 3) := by decide +kernel
theorem dL_act_228 : decode cL_act 228 = .ok (.invokestatic 41, 3) := by decide +kernel
theorem dL_act_231 : decode cL_act 231 = .ok (.if_icmp .ne 28, 3) := by decide +kernel
theorem dL_act_234 : decode cL_act 234 = .ok (.aload_n 0, 1) := by decide +kernel
theorem dL_act_235 : decode cL_act 235 = .ok (.iload 4, 2) := by decide +kernel
theorem dL_act_237 : decode cL_act 237 = .ok (.iconst 5, 1) := by decide +kernel
theorem dL_act_238 : decode cL_act 238 = .ok (.invokevirtual 15, 3) := by decide +kernel
theorem dL_act_241 : decode cL_act 241 = .ok (.ifCond .ne 18, 3) := by decide +kernel
theorem dL_act_244 : decode cL_act 244 = .ok (.aload_n 0, 1) := by decide +kernel
theorem dL_act_245 : decode cL_act 245 = .ok (.iload 4, 2) := by decide +kernel
theorem dL_act_247 : decode cL_act 247 = .ok (.bipush 6, 2) := by decide +kernel
theorem dL_act_249 : decode cL_act 249 = .ok (.invokevirtual 15, 3) := by decide +kernel
theorem dL_act_252 : decode cL_act 252 = .ok (.ifCond .ne 7, 3) := by decide +kernel
theorem dL_act_255 : decode cL_act 255 = .ok (.iconst 1, 1) := by decide +kernel
theorem dL_act_256 : decode cL_act 256 = .ok (.goto 4, 3) := by decide +kernel
theorem dL_act_259 : decode cL_act 259 = .ok (.iconst 0, 1) := by decide +kernel
theorem dL_act_260 : decode cL_act 260 = .ok (.ireturn, 1) := by decide +kernel
theorem dL_act_261 : decode cL_act 261 = .ok (.iload 6, 2) := by decide +kernel
theorem dL_act_263 : decode cL_act 263 = .ok (.iconst 1, 1) := by decide +kernel
theorem dL_act_264 : decode cL_act 264 = .ok (.if_icmp .ne 103, 3) := by decide +kernel
theorem dL_act_267 : decode cL_act 267 = .ok (.lconst 0, 1) := by decide +kernel
theorem dL_act_268 : decode cL_act 268 = .ok (.lstore 7, 2) := by decide +kernel
theorem dL_act_270 : decode cL_act 270 = .ok (.iconst 0, 1) := by decide +kernel
theorem dL_act_271 : decode cL_act 271 = .ok (.istore 9, 2) := by decide +kernel
theorem dL_act_273 : decode cL_act 273 = .ok (.iload 9, 2) := by decide +kernel
theorem dL_act_275 : decode cL_act 275 = .ok (.bipush 7, 2) := by decide +kernel
theorem dL_act_277 : decode cL_act 277 = .ok (.if_icmp .ge 52, 3) := by decide +kernel
theorem dL_act_280 : decode cL_act 280 = .ok (.iload_n 3, 1) := by decide +kernel
theorem dL_act_281 : decode cL_act 281 = .ok (.iconst 2, 1) := by decide +kernel
theorem dL_act_282 : decode cL_act 282 = .ok (.iload 9, 2) := by decide +kernel
theorem dL_act_284 : decode cL_act 284 = .ok (.imul, 1) := by decide +kernel
theorem dL_act_285 : decode cL_act 285 = .ok (.ishr, 1) := by decide +kernel
theorem dL_act_286 : decode cL_act 286 = .ok (.bipush 19, 2) := by decide +kernel
theorem dL_act_288 : decode cL_act 288 = .ok (.invokestatic 41, 3) := by decide +kernel
theorem dL_act_291 : decode cL_act 291 = .ok (.istore 10, 2) := by decide +kernel
theorem dL_act_293 : decode cL_act 293 = .ok (.lload 7, 2) := by decide +kernel
theorem dL_act_295 : decode cL_act 295 = .ok (.iload 10, 2) := by decide +kernel
theorem dL_act_297 : decode cL_act 297 = .ok (.i2l, 1) := by decide +kernel
theorem dL_act_298 : decode cL_act 298 = .ok (.iconst 5, 1) := by decide +kernel
theorem dL_act_299 : decode cL_act 299 = .ok (.iload 9, 2) := by decide +kernel
theorem dL_act_301 : decode cL_act 301 = .ok (.imul, 1) := by decide +kernel
theorem dL_act_302 : decode cL_act 302 = .ok (.lshl, 1) := by decide +kernel
theorem dL_act_303 : decode cL_act 303 = .ok (.lor, 1) := by decide +kernel
theorem dL_act_304 : decode cL_act 304 = .ok (.lstore 7, 2) := by decide +kernel
theorem dL_act_306 : decode cL_act 306 = .ok (.aload_n 1, 1) := by decide +kernel
theorem dL_act_307 : decode cL_act 307 = .ok (.bipush 12, 2) := by decide +kernel
theorem dL_act_309 : decode cL_act 309 = .ok (.iload 5, 2) := by decide +kernel
theorem dL_act_311 : decode cL_act 311 = .ok (.imul, 1) := by decide +kernel
theorem dL_act_312 : decode cL_act 312 = .ok (.iconst 4, 1) := by decide +kernel
theorem dL_act_313 : decode cL_act 313 = .ok (.iadd, 1) := by decide +kernel
theorem dL_act_314 : decode cL_act 314 = .ok (.iload 9, 2) := by decide +kernel
theorem dL_act_316 : decode cL_act 316 = .ok (.iadd, 1) := by decide +kernel
theorem dL_act_317 : decode cL_act 317 = .ok (.iload 10, 2) := by decide +kernel
theorem dL_act_319 : decode cL_act 319 = .ok (.bipush 9, 2) := by decide +kernel
theorem dL_act_321 : decode cL_act 321 = .ok (.isub, 1) := by decide +kernel
theorem dL_act_322 : decode cL_act 322 = .ok (.iastore, 1) := by decide +kernel
theorem dL_act_323 : decode cL_act 323 = .ok (.iinc 9 1, 3) := by decide +kernel
theorem dL_act_326 : decode cL_act 326 = .ok (.goto (-53), 3) := by decide +kernel
theorem dL_act_329 : decode cL_act 329 = .ok (.aload_n 0, 1) := by decide +kernel
theorem dL_act_330 : decode cL_act 330 = .ok (.iload 5, 2) := by decide +kernel
theorem dL_act_332 : decode cL_act 332 = .ok (.lload 7, 2) := by decide +kernel
theorem dL_act_334 : decode cL_act 334 = .ok (.invokevirtual 48, 3) := by decide +kernel
theorem dL_act_337 : decode cL_act 337 = .ok (.aload_n 0, 1) := by decide +kernel
theorem dL_act_338 : decode cL_act 338 = .ok (.iload 5, 2) := by decide +kernel
theorem dL_act_340 : decode cL_act 340 = .ok (.iconst 0, 1) := by decide +kernel
theorem dL_act_341 : decode cL_act 341 = .ok (.invokevirtual 15, 3) := by decide +kernel
theorem dL_act_344 : decode cL_act 344 = .ok (.if_icmp .ne 21, 3) := by decide +kernel
theorem dL_act_347 : decode cL_act 347 = .ok (.aload_n 0, 1) := by decide +kernel
theorem dL_act_348 : decode cL_act 348 = .ok (.iload 5, 2) := by decide +kernel
theorem dL_act_350 : decode cL_act 350 = .ok (.ldc2_w 52, 3) := by decide +kernel
theorem dL_act_353 : decode cL_act 353 = .ok (.invokevirtual 48, 3) := by decide +kernel
theorem dL_act_356 : decode cL_act 356 = .ok (.bipush (-2), 2) := by decide +kernel
theorem dL_act_358 : decode cL_act 358 = .ok (.if_icmp .ne 7, 3) := by decide +kernel
theorem dL_act_361 : decode cL_act 361 = .ok (.iconst 1, 1) := by decide +kernel
theorem dL_act_362 : decode cL_act 362 = .ok (.goto 4, 3) := by decide +kernel
theorem dL_act_365 : decode cL_act 365 = .ok (.iconst 0, 1) := by decide +kernel
theorem dL_act_366 : decode cL_act 366 = .ok (.ireturn, 1) := by decide +kernel
theorem dL_act_367 : decode cL_act 367 = .ok (.iload 6, 2) := by decide +kernel
theorem dL_act_369 : decode cL_act 369 = .ok (.iconst 2, 1) := by decide +kernel
theorem dL_act_370 : decode cL_act 370 = .ok (.if_icmp .ne 126, 3) := by decide +kernel
theorem dL_act_373 : decode cL_act 373 = .ok (.aload_n 0, 1) := by decide +kernel
theorem dL_act_374 : decode cL_act 374 = .ok (.iload 5, 2) := by decide +kernel
theorem dL_act_376 : decode cL_act 376 = .ok (.iconst 4, 1) := by decide +kernel
theorem dL_act_377 : decode cL_act 377 = .ok (.invokevirtual 15, 3) := by decide +kernel
theorem dL_act_380 : decode cL_act 380 = .ok (.istore 7, 2) := by decide +kernel
theorem dL_act_382 : decode cL_act 382 = .ok (.aload_n 0, 1) := by decide +kernel
theorem dL_act_383 : decode cL_act 383 = .ok (.iload 5, 2) := by decide +kernel
theorem dL_act_385 : decode cL_act 385 = .ok (.iconst 5, 1) := by decide +kernel
theorem dL_act_386 : decode cL_act 386 = .ok (.invokevirtual 15, 3) := by decide +kernel
theorem dL_act_389 : decode cL_act 389 = .ok (.istore 8, 2) := by decide +kernel
theorem dL_act_391 : decode cL_act 391 = .ok (.iconst 1, 1) := by decide +kernel
theorem dL_act_392 : decode cL_act 392 = .ok (.iload_n 3, 1) := by decide +kernel
theorem dL_act_393 : decode cL_act 393 = .ok (.sipush 4000, 3) := by decide +kernel
theorem dL_act_396 : decode cL_act 396 = .ok (.invokestatic 41, 3) := by decide +kernel
theorem dL_act_399 : decode cL_act 399 = .ok (.iadd, 1) := by decide +kernel
theorem dL_act_400 : decode cL_act 400 = .ok (.istore 9, 2) := by decide +kernel
theorem dL_act_402 : decode cL_act 402 = .ok (.aload_n 0, 1) := by decide +kernel
theorem dL_act_403 : decode cL_act 403 = .ok (.iload 5, 2) := by decide +kernel
theorem dL_act_405 : decode cL_act 405 = .ok (.iload 9, 2) := by decide +kernel
theorem dL_act_407 : decode cL_act 407 = .ok (.invokevirtual 54, 3) := by decide +kernel
theorem dL_act_410 : decode cL_act 410 = .ok (.istore 10, 2) := by decide +kernel
theorem dL_act_412 : decode cL_act 412 = .ok (.iload 7, 2) := by decide +kernel
theorem dL_act_414 : decode cL_act 414 = .ok (.iload 9, 2) := by decide +kernel
theorem dL_act_416 : decode cL_act 416 = .ok (.iadd, 1) := by decide +kernel
theorem dL_act_417 : decode cL_act 417 = .ok (.sipush 9999, 3) := by decide +kernel
theorem dL_act_420 : decode cL_act 420 = .ok (.if_icmp .le 30, 3) := by decide +kernel
theorem dL_act_423 : decode cL_act 423 = .ok (.iload 10, 2) := by decide +kernel
theorem dL_act_425 : decode cL_act 425 = .ok (.bipush (-5), 2) := by decide +kernel
theorem dL_act_427 : decode cL_act 427 = .ok (.if_icmp .ne 19, 3) := by decide +kernel
theorem dL_act_430 : decode cL_act 430 = .ok (.aload_n 0, 1) := by decide +kernel
theorem dL_act_431 : decode cL_act 431 = .ok (.iload 5, 2) := by decide +kernel
theorem dL_act_433 : decode cL_act 433 = .ok (.iconst 5, 1) := by decide +kernel
theorem dL_act_434 : decode cL_act 434 = .ok (.invokevirtual 15, 3) := by decide +kernel
theorem dL_act_437 : decode cL_act 437 = .ok (.iload 8, 2) := by decide +kernel
theorem dL_act_439 : decode cL_act 439 = .ok (.if_icmp .ne 7, 3) := by decide +kernel
theorem dL_act_442 : decode cL_act 442 = .ok (.iconst 1, 1) := by decide +kernel
theorem dL_act_443 : decode cL_act 443 = .ok (.goto 52, 3) := by decide +kernel
theorem dL_act_446 : decode cL_act 446 = .ok (.iconst 0, 1) := by decide +kernel
theorem dL_act_447 : decode cL_act 447 = .ok (.goto 48, 3) := by decide +kernel
theorem dL_act_450 : decode cL_act 450 = .ok (.iload 10, 2) := by decide +kernel
theorem dL_act_452 : decode cL_act 452 = .ok (.iload 7, 2) := by decide +kernel
theorem dL_act_454 : decode cL_act 454 = .ok (.iload 9, 2) := by decide +kernel
theorem dL_act_456 : decode cL_act 456 = .ok (.iadd, 1) := by decide +kernel
theorem dL_act_457 : decode cL_act 457 = .ok (.if_icmp .ne 37, 3) := by decide +kernel
theorem dL_act_460 : decode cL_act 460 = .ok (.aload_n 0, 1) := by decide +kernel
theorem dL_act_461 : decode cL_act 461 = .ok (.iload 5, 2) := by decide +kernel
theorem dL_act_463 : decode cL_act 463 = .ok (.iconst 4, 1) := by decide +kernel
theorem dL_act_464 : decode cL_act 464 = .ok (.invokevirtual 15, 3) := by decide +kernel
theorem dL_act_467 : decode cL_act 467 = .ok (.iload 10, 2) := by decide +kernel
theorem dL_act_469 : decode cL_act 469 = .ok (.if_icmp .ne 25, 3) := by decide +kernel
theorem dL_act_472 : decode cL_act 472 = .ok (.aload_n 0, 1) := by decide +kernel
theorem dL_act_473 : decode cL_act 473 = .ok (.iload 5, 2) := by decide +kernel
theorem dL_act_475 : decode cL_act 475 = .ok (.iconst 5, 1) := by decide +kernel
theorem dL_act_476 : decode cL_act 476 = .ok (.invokevirtual 15, 3) := by decide +kernel
theorem dL_act_479 : decode cL_act 479 = .ok (.iload 7, 2) := by decide +kernel
theorem dL_act_481 : decode cL_act 481 = .ok (.iload 8, 2) := by decide +kernel
theorem dL_act_483 : decode cL_act 483 = .ok (.imul, 1) := by decide +kernel
theorem dL_act_484 : decode cL_act 484 = .ok (.iload 10, 2) := by decide +kernel
theorem dL_act_486 : decode cL_act 486 = .ok (.idiv, 1) := by decide +kernel
theorem dL_act_487 : decode cL_act 487 = .ok (.if_icmp .ne 7, 3) := by decide +kernel
theorem dL_act_490 : decode cL_act 490 = .ok (.iconst 1, 1) := by decide +kernel
theorem dL_act_491 : decode cL_act 491 = .ok (.goto 4, 3) := by decide +kernel
theorem dL_act_494 : decode cL_act 494 = .ok (.iconst 0, 1) := by decide +kernel
theorem dL_act_495 : decode cL_act 495 = .ok (.ireturn, 1) := by decide +kernel
theorem dL_act_496 : decode cL_act 496 = .ok (.iload 6, 2) := by decide +kernel
theorem dL_act_498 : decode cL_act 498 = .ok (.iconst 3, 1) := by decide +kernel
theorem dL_act_499 : decode cL_act 499 = .ok (.if_icmp .ne 122, 3) := by decide +kernel
theorem dL_act_502 : decode cL_act 502 = .ok (.iload_n 2, 1) := by decide +kernel
theorem dL_act_503 : decode cL_act 503 = .ok (.bipush 7, 2) := by decide +kernel
theorem dL_act_505 : decode cL_act 505 = .ok (.ishr, 1) := by decide +kernel
theorem dL_act_506 : decode cL_act 506 = .ok (.iconst 3, 1) := by decide +kernel
theorem dL_act_507 : decode cL_act 507 = .ok (.invokestatic 41, 3) := by decide +kernel
theorem dL_act_510 : decode cL_act 510 = .ok (.istore 7, 2) := by decide +kernel
theorem dL_act_512 : decode cL_act 512 = .ok (.iload_n 3, 1) := by decide +kernel
theorem dL_act_513 : decode cL_act 513 = .ok (.bipush 40, 2) := by decide +kernel
theorem dL_act_515 : decode cL_act 515 = .ok (.invokestatic 41, 3) := by decide +kernel
theorem dL_act_518 : decode cL_act 518 = .ok (.istore 8, 2) := by decide +kernel
theorem dL_act_520 : decode cL_act 520 = .ok (.iload 8, 2) := by decide +kernel
theorem dL_act_522 : decode cL_act 522 = .ok (.iload_n 3, 1) := by decide +kernel
theorem dL_act_523 : decode cL_act 523 = .ok (.bipush 6, 2) := by decide +kernel
theorem dL_act_525 : decode cL_act 525 = .ok (.ishr, 1) := by decide +kernel
theorem dL_act_526 : decode cL_act 526 = .ok (.bipush 101, 2) := by decide +kernel
theorem dL_act_528 : decode cL_act 528 = .ok (.iload 8, 2) := by decide +kernel
theorem dL_act_530 : decode cL_act 530 = .ok (.isub, 1) := by decide +kernel
theorem dL_act_531 : decode cL_act 531 = .ok (.invokestatic 41, 3) := by decide +kernel
theorem dL_act_534 : decode cL_act 534 = .ok (.iadd, 1) := by decide +kernel
theorem dL_act_535 : decode cL_act 535 = .ok (.istore 9, 2) := by decide +kernel
theorem dL_act_537 : decode cL_act 537 = .ok (.bipush 100, 2) := by decide +kernel
theorem dL_act_539 : decode cL_act 539 = .ok (.aload_n 0, 1) := by decide +kernel
theorem dL_act_540 : decode cL_act 540 = .ok (.iconst 4, 1) := by decide +kernel
theorem dL_act_541 : decode cL_act 541 = .ok (.iload 7, 2) := by decide +kernel
theorem dL_act_543 : decode cL_act 543 = .ok (.iadd, 1) := by decide +kernel
theorem dL_act_544 : decode cL_act 544 = .ok (.invokevirtual 9, 3) := by decide +kernel
theorem dL_act_547 : decode cL_act 547 = .ok (.imul, 1) := by decide +kernel
theorem dL_act_548 : decode cL_act 548 = .ok (.aload_n 0, 1) := by decide +kernel
theorem dL_act_549 : decode cL_act 549 = .ok (.bipush 7, 2) := by decide +kernel
theorem dL_act_551 : decode cL_act 551 = .ok (.iload 7, 2) := by decide +kernel
theorem dL_act_553 : decode cL_act 553 = .ok (.iadd, 1) := by decide +kernel
theorem dL_act_554 : decode cL_act 554 = .ok (.invokevirtual 9, 3) := by decide +kernel
theorem dL_act_557 : decode cL_act 557 = .ok (.iadd, 1) := by decide +kernel
theorem dL_act_558 : decode cL_act 558 = .ok (.istore 10, 2) := by decide +kernel
theorem dL_act_560 : decode cL_act 560 = .ok (.aload_n 0, 1) := by decide +kernel
theorem dL_act_561 : decode cL_act 561 = .ok (.iload 7, 2) := by decide +kernel
theorem dL_act_563 : decode cL_act 563 = .ok (.iload 8, 2) := by decide +kernel
theorem dL_act_565 : decode cL_act 565 = .ok (.iload 9, 2) := by decide +kernel
theorem dL_act_567 : decode cL_act 567 = .ok (.invokevirtual 57, 3) := by decide +kernel
theorem dL_act_570 : decode cL_act 570 = .ok (.iload 10, 2) := by decide +kernel
theorem dL_act_572 : decode cL_act 572 = .ok (.if_icmp .ne 47, 3) := by decide +kernel
theorem dL_act_575 : decode cL_act 575 = .ok (.aload_n 0, 1) := by decide +kernel
theorem dL_act_576 : decode cL_act 576 = .ok (.iconst 4, 1) := by decide +kernel
theorem dL_act_577 : decode cL_act 577 = .ok (.iload 7, 2) := by decide +kernel
theorem dL_act_579 : decode cL_act 579 = .ok (.iadd, 1) := by decide +kernel
theorem dL_act_580 : decode cL_act 580 = .ok (.invokevirtual 9, 3) := by decide +kernel
theorem dL_act_583 : decode cL_act 583 = .ok (.iload 8, 2) := by decide +kernel
theorem dL_act_585 : decode cL_act 585 = .ok (.if_icmp .ne 34, 3) := by decide +kernel
theorem dL_act_588 : decode cL_act 588 = .ok (.aload_n 0, 1) := by decide +kernel
theorem dL_act_589 : decode cL_act 589 = .ok (.bipush 7, 2) := by decide +kernel
theorem dL_act_591 : decode cL_act 591 = .ok (.iload 7, 2) := by decide +kernel
theorem dL_act_593 : decode cL_act 593 = .ok (.iadd, 1) := by decide +kernel
theorem dL_act_594 : decode cL_act 594 = .ok (.invokevirtual 9, 3) := by decide +kernel
theorem dL_act_597 : decode cL_act 597 = .ok (.iload 9, 2) := by decide +kernel
theorem dL_act_599 : decode cL_act 599 = .ok (.if_icmp .ne 20, 3) := by decide +kernel
theorem dL_act_602 : decode cL_act 602 = .ok (.aload_n 0, 1) := by decide +kernel
theorem dL_act_603 : decode cL_act 603 = .ok (.iload 7, 2) := by decide +kernel
theorem dL_act_605 : decode cL_act 605 = .ok (.iconst 5, 1) := by decide +kernel
theorem dL_act_606 : decode cL_act 606 = .ok (.iconst 4, 1) := by decide +kernel
theorem dL_act_607 : decode cL_act 607 = .ok (.invokevirtual 57, 3) := by decide +kernel
theorem dL_act_610 : decode cL_act 610 = .ok (.bipush (-2), 2) := by decide +kernel
theorem dL_act_612 : decode cL_act 612 = .ok (.if_icmp .ne 7, 3) := by decide +kernel
theorem dL_act_615 : decode cL_act 615 = .ok (.iconst 1, 1) := by decide +kernel
theorem dL_act_616 : decode cL_act 616 = .ok (.goto 4, 3) := by decide +kernel
theorem dL_act_619 : decode cL_act 619 = .ok (.iconst 0, 1) := by decide +kernel
theorem dL_act_620 : decode cL_act 620 = .ok (.ireturn, 1) := by decide +kernel
theorem dL_act_621 : decode cL_act 621 = .ok (.iload 6, 2) := by decide +kernel
theorem dL_act_623 : decode cL_act 623 = .ok (.bipush 7, 2) := by decide +kernel
theorem dL_act_625 : decode cL_act 625 = .ok (.if_icmp .ge 101, 3) := by decide +kernel
theorem dL_act_628 : decode cL_act 628 = .ok (.iload_n 3, 1) := by decide +kernel
theorem dL_act_629 : decode cL_act 629 = .ok (.bipush 21, 2) := by decide +kernel
theorem dL_act_631 : decode cL_act 631 = .ok (.invokestatic 41, 3) := by decide +kernel
theorem dL_act_634 : decode cL_act 634 = .ok (.istore 7, 2) := by decide +kernel
theorem dL_act_636 : decode cL_act 636 = .ok (.aload_n 0, 1) := by decide +kernel
theorem dL_act_637 : decode cL_act 637 = .ok (.iconst 4, 1) := by decide +kernel
theorem dL_act_638 : decode cL_act 638 = .ok (.invokevirtual 25, 3) := by decide +kernel
theorem dL_act_641 : decode cL_act 641 = .ok (.aload_n 0, 1) := by decide +kernel
theorem dL_act_642 : decode cL_act 642 = .ok (.iload 5, 2) := by decide +kernel
theorem dL_act_644 : decode cL_act 644 = .ok (.bipush 6, 2) := by decide +kernel
theorem dL_act_646 : decode cL_act 646 = .ok (.invokevirtual 15, 3) := by decide +kernel
theorem dL_act_649 : decode cL_act 649 = .ok (.isub, 1) := by decide +kernel
theorem dL_act_650 : decode cL_act 650 = .ok (.iload 7, 2) := by decide +kernel
theorem dL_act_652 : decode cL_act 652 = .ok (.iadd, 1) := by decide +kernel
theorem dL_act_653 : decode cL_act 653 = .ok (.istore 8, 2) := by decide +kernel
theorem dL_act_655 : decode cL_act 655 = .ok (.aload_n 0, 1) := by decide +kernel
theorem dL_act_656 : decode cL_act 656 = .ok (.iload 5, 2) := by decide +kernel
theorem dL_act_658 : decode cL_act 658 = .ok (.iload 7, 2) := by decide +kernel
theorem dL_act_660 : decode cL_act 660 = .ok (.invokevirtual 60, 3) := by decide +kernel
theorem dL_act_663 : decode cL_act 663 = .ok (.istore 9, 2) := by decide +kernel
theorem dL_act_665 : decode cL_act 665 = .ok (.iload 8, 2) := by decide +kernel
theorem dL_act_667 : decode cL_act 667 = .ok (.bipush 20, 2) := by decide +kernel
theorem dL_act_669 : decode cL_act 669 = .ok (.if_icmp .le 31, 3) := by decide +kernel
theorem dL_act_672 : decode cL_act 672 = .ok (.iload 9, 2) := by decide +kernel
theorem dL_act_674 : decode cL_act 674 = .ok (.bipush (-5), 2) := by decide +kernel
theorem dL_act_676 : decode cL_act 676 = .ok (.if_icmp .ne 20, 3) := by decide +kernel
theorem dL_act_679 : decode cL_act 679 = .ok (.aload_n 0, 1) := by decide +kernel
theorem dL_act_680 : decode cL_act 680 = .ok (.iload 5, 2) := by decide +kernel
theorem dL_act_682 : decode cL_act 682 = .ok (.bipush 6, 2) := by decide +kernel
theorem dL_act_684 : decode cL_act 684 = .ok (.invokevirtual 15, 3) := by decide +kernel
theorem dL_act_687 : decode cL_act 687 = .ok (.iload 7, 2) := by decide +kernel
theorem dL_act_689 : decode cL_act 689 = .ok (.if_icmp .eq 7, 3) := by decide +kernel
theorem dL_act_692 : decode cL_act 692 = .ok (.iconst 1, 1) := by decide +kernel
theorem dL_act_693 : decode cL_act 693 = .ok (.goto 32, 3) := by decide +kernel
theorem dL_act_696 : decode cL_act 696 = .ok (.iconst 0, 1) := by decide +kernel
theorem dL_act_697 : decode cL_act 697 = .ok (.goto 28, 3) := by decide +kernel
theorem dL_act_700 : decode cL_act 700 = .ok (.iload 9, 2) := by decide +kernel
theorem dL_act_702 : decode cL_act 702 = .ok (.iload 8, 2) := by decide +kernel
theorem dL_act_704 : decode cL_act 704 = .ok (.if_icmp .ne 20, 3) := by decide +kernel
theorem dL_act_707 : decode cL_act 707 = .ok (.aload_n 0, 1) := by decide +kernel
theorem dL_act_708 : decode cL_act 708 = .ok (.iload 5, 2) := by decide +kernel
theorem dL_act_710 : decode cL_act 710 = .ok (.bipush 6, 2) := by decide +kernel
theorem dL_act_712 : decode cL_act 712 = .ok (.invokevirtual 15, 3) := by decide +kernel
theorem dL_act_715 : decode cL_act 715 = .ok (.iload 7, 2) := by decide +kernel
theorem dL_act_717 : decode cL_act 717 = .ok (.if_icmp .ne 7, 3) := by decide +kernel
theorem dL_act_720 : decode cL_act 720 = .ok (.iconst 1, 1) := by decide +kernel
theorem dL_act_721 : decode cL_act 721 = .ok (.goto 4, 3) := by decide +kernel
theorem dL_act_724 : decode cL_act 724 = .ok (.iconst 0, 1) := by decide +kernel
theorem dL_act_725 : decode cL_act 725 = .ok (.ireturn, 1) := by decide +kernel
theorem dL_act_726 : decode cL_act 726 = .ok (.iload 6, 2) := by decide +kernel
theorem dL_act_728 : decode cL_act 728 = .ok (.bipush 7, 2) := by decide +kernel
theorem dL_act_730 : decode cL_act 730 = .ok (.if_icmp .ne 83, 3) := by decide +kernel
theorem dL_act_733 : decode cL_act 733 = .ok (.aload_n 0, 1) := by decide +kernel
theorem dL_act_734 : decode cL_act 734 = .ok (.iconst 0, 1) := by decide +kernel
theorem dL_act_735 : decode cL_act 735 = .ok (.invokevirtual 63, 3) := by decide +kernel
theorem dL_act_738 : decode cL_act 738 = .ok (.istore 7, 2) := by decide +kernel
theorem dL_act_740 : decode cL_act 740 = .ok (.aload_n 0, 1) := by decide +kernel
theorem dL_act_741 : decode cL_act 741 = .ok (.iconst 1, 1) := by decide +kernel
theorem dL_act_742 : decode cL_act 742 = .ok (.invokevirtual 63, 3) := by decide +kernel
theorem dL_act_745 : decode cL_act 745 = .ok (.istore 8, 2) := by decide +kernel
theorem dL_act_747 : decode cL_act 747 = .ok (.iload 7, 2) := by decide +kernel
theorem dL_act_749 : decode cL_act 749 = .ok (.ifCond .ge 20, 3) := by decide +kernel
theorem dL_act_752 : decode cL_act 752 = .ok (.aload_n 0, 1) := by decide +kernel
theorem dL_act_753 : decode cL_act 753 = .ok (.invokevirtual 66, 3) := by decide +kernel
theorem dL_act_756 : decode cL_act 756 = .ok (.bipush (-5), 2) := by decide +kernel
theorem dL_act_758 : decode cL_act 758 = .ok (.if_icmp .ne 7, 3) := by decide +kernel
theorem dL_act_761 : decode cL_act 761 = .ok (.iconst 1, 1) := by decide +kernel
theorem dL_act_762 : decode cL_act 762 = .ok (.goto 50, 3) := by decide +kernel
theorem dL_act_765 : decode cL_act 765 = .ok (.iconst 0, 1) := by decide +kernel
theorem dL_act_766 : decode cL_act 766 = .ok (.goto 46, 3) := by decide +kernel
theorem dL_act_769 : decode cL_act 769 = .ok (.aload_n 0, 1) := by decide +kernel
theorem dL_act_770 : decode cL_act 770 = .ok (.invokevirtual 66, 3) := by decide +kernel
theorem dL_act_773 : decode cL_act 773 = .ok (.iload 7, 2) := by decide +kernel
theorem dL_act_775 : decode cL_act 775 = .ok (.if_icmp .ne 36, 3) := by decide +kernel
theorem dL_act_778 : decode cL_act 778 = .ok (.aload_n 0, 1) := by decide +kernel
theorem dL_act_779 : decode cL_act 779 = .ok (.iconst 0, 1) := by decide +kernel
theorem dL_act_780 : decode cL_act 780 = .ok (.invokevirtual 25, 3) := by decide +kernel
theorem dL_act_783 : decode cL_act 783 = .ok (.iload 7, 2) := by decide +kernel
theorem dL_act_785 : decode cL_act 785 = .ok (.if_icmp .ne 26, 3) := by decide +kernel
theorem dL_act_788 : decode cL_act 788 = .ok (.aload_n 0, 1) := by decide +kernel
theorem dL_act_789 : decode cL_act 789 = .ok (.invokevirtual 28, 3) := by decide +kernel
theorem dL_act_792 : decode cL_act 792 = .ok (.ifCond .ne 19, 3) := by decide +kernel
theorem dL_act_795 : decode cL_act 795 = .ok (.aload_n 0, 1) := by decide +kernel
theorem dL_act_796 : decode cL_act 796 = .ok (.iconst 0, 1) := by decide +kernel
theorem dL_act_797 : decode cL_act 797 = .ok (.bipush 6, 2) := by decide +kernel
theorem dL_act_799 : decode cL_act 799 = .ok (.invokevirtual 15, 3) := by decide +kernel
theorem dL_act_802 : decode cL_act 802 = .ok (.iload 8, 2) := by decide +kernel
theorem dL_act_804 : decode cL_act 804 = .ok (.if_icmp .ne 7, 3) := by decide +kernel
theorem dL_act_807 : decode cL_act 807 = .ok (.iconst 1, 1) := by decide +kernel
theorem dL_act_808 : decode cL_act 808 = .ok (.goto 4, 3) := by decide +kernel
theorem dL_act_811 : decode cL_act 811 = .ok (.iconst 0, 1) := by decide +kernel
theorem dL_act_812 : decode cL_act 812 = .ok (.ireturn, 1) := by decide +kernel
theorem dL_act_813 : decode cL_act 813 = .ok (.iload 6, 2) := by decide +kernel
theorem dL_act_815 : decode cL_act 815 = .ok (.bipush 8, 2) := by decide +kernel
theorem dL_act_817 : decode cL_act 817 = .ok (.if_icmp .ne 17, 3) := by decide +kernel
theorem dL_act_820 : decode cL_act 820 = .ok (.aload_n 0, 1) := by decide +kernel
theorem dL_act_821 : decode cL_act 821 = .ok (.iconst 1, 1) := by decide +kernel
theorem dL_act_822 : decode cL_act 822 = .ok (.iload_n 3, 1) := by decide +kernel
theorem dL_act_823 : decode cL_act 823 = .ok (.sipush 2000, 3) := by decide +kernel
theorem dL_act_826 : decode cL_act 826 = .ok (.invokestatic 41, 3) := by decide +kernel
theorem dL_act_829 : decode cL_act 829 = .ok (.iadd, 1) := by decide +kernel
theorem dL_act_830 : decode cL_act 830 = .ok (.invokestatic 69, 3) := by decide +kernel
theorem dL_act_833 : decode cL_act 833 = .ok (.ireturn, 1) := by decide +kernel
theorem dL_act_834 : decode cL_act 834 = .ok (.iload 6, 2) := by decide +kernel
theorem dL_act_836 : decode cL_act 836 = .ok (.bipush 9, 2) := by decide +kernel
theorem dL_act_838 : decode cL_act 838 = .ok (.if_icmp .ne 72, 3) := by decide +kernel
theorem dL_act_841 : decode cL_act 841 = .ok (.aload_n 0, 1) := by decide +kernel
theorem dL_act_842 : decode cL_act 842 = .ok (.iconst 0, 1) := by decide +kernel
theorem dL_act_843 : decode cL_act 843 = .ok (.invokevirtual 9, 3) := by decide +kernel
theorem dL_act_846 : decode cL_act 846 = .ok (.istore 7, 2) := by decide +kernel
theorem dL_act_848 : decode cL_act 848 = .ok (.aload_n 0, 1) := by decide +kernel
theorem dL_act_849 : decode cL_act 849 = .ok (.iload 5, 2) := by decide +kernel
theorem dL_act_851 : decode cL_act 851 = .ok (.iconst 5, 1) := by decide +kernel
theorem dL_act_852 : decode cL_act 852 = .ok (.invokevirtual 15, 3) := by decide +kernel
theorem dL_act_855 : decode cL_act 855 = .ok (.istore 8, 2) := by decide +kernel
theorem dL_act_857 : decode cL_act 857 = .ok (.aload_n 0, 1) := by decide +kernel
theorem dL_act_858 : decode cL_act 858 = .ok (.iconst 1, 1) := by decide +kernel
theorem dL_act_859 : decode cL_act 859 = .ok (.iload_n 3, 1) := by decide +kernel
theorem dL_act_860 : decode cL_act 860 = .ok (.bipush 20, 2) := by decide +kernel
theorem dL_act_862 : decode cL_act 862 = .ok (.invokestatic 41, 3) := by decide +kernel
theorem dL_act_865 : decode cL_act 865 = .ok (.iadd, 1) := by decide +kernel
theorem dL_act_866 : decode cL_act 866 = .ok (.invokevirtual 73, 3) := by decide +kernel
theorem dL_act_869 : decode cL_act 869 = .ok (.iload 7, 2) := by decide +kernel
theorem dL_act_871 : decode cL_act 871 = .ok (.iconst 1, 1) := by decide +kernel
theorem dL_act_872 : decode cL_act 872 = .ok (.iadd, 1) := by decide +kernel
theorem dL_act_873 : decode cL_act 873 = .ok (.iload_n 3, 1) := by decide +kernel
theorem dL_act_874 : decode cL_act 874 = .ok (.bipush 20, 2) := by decide +kernel
theorem dL_act_876 : decode cL_act 876 = .ok (.invokestatic 41, 3) := by decide +kernel
theorem dL_act_879 : decode cL_act 879 = .ok (.iadd, 1) := by decide +kernel
theorem dL_act_880 : decode cL_act 880 = .ok (.if_icmp .ne 28, 3) := by decide +kernel
theorem dL_act_883 : decode cL_act 883 = .ok (.aload_n 0, 1) := by decide +kernel
theorem dL_act_884 : decode cL_act 884 = .ok (.iload 5, 2) := by decide +kernel
theorem dL_act_886 : decode cL_act 886 = .ok (.iconst 5, 1) := by decide +kernel
theorem dL_act_887 : decode cL_act 887 = .ok (.invokevirtual 15, 3) := by decide +kernel
theorem dL_act_890 : decode cL_act 890 = .ok (.iload 8, 2) := by decide +kernel
theorem dL_act_892 : decode cL_act 892 = .ok (.iconst 1, 1) := by decide +kernel
theorem dL_act_893 : decode cL_act 893 = .ok (.iadd, 1) := by decide +kernel
theorem dL_act_894 : decode cL_act 894 = .ok (.iload_n 3, 1) := by decide +kernel
theorem dL_act_895 : decode cL_act 895 = .ok (.bipush 20, 2) := by decide +kernel
theorem dL_act_897 : decode cL_act 897 = .ok (.invokestatic 41, 3) := by decide +kernel
theorem dL_act_900 : decode cL_act 900 = .ok (.iadd, 1) := by decide +kernel
theorem dL_act_901 : decode cL_act 901 = .ok (.if_icmp .ne 7, 3) := by decide +kernel
theorem dL_act_904 : decode cL_act 904 = .ok (.iconst 1, 1) := by decide +kernel
theorem dL_act_905 : decode cL_act 905 = .ok (.goto 4, 3) := by decide +kernel
theorem dL_act_908 : decode cL_act 908 = .ok (.iconst 0, 1) := by decide +kernel
theorem dL_act_909 : decode cL_act 909 = .ok (.ireturn, 1) := by decide +kernel
theorem dL_act_910 : decode cL_act 910 = .ok (.iload_n 2, 1) := by decide +kernel
theorem dL_act_911 : decode cL_act 911 = .ok (.bipush 7, 2) := by decide +kernel
theorem dL_act_913 : decode cL_act 913 = .ok (.ishr, 1) := by decide +kernel
theorem dL_act_914 : decode cL_act 914 = .ok (.iconst 2, 1) := by decide +kernel
theorem dL_act_915 : decode cL_act 915 = .ok (.invokestatic 41, 3) := by decide +kernel
theorem dL_act_918 : decode cL_act 918 = .ok (.ifCond .ne 7, 3) := by decide +kernel
theorem dL_act_921 : decode cL_act 921 = .ok (.iconst 1, 1) := by decide +kernel
theorem dL_act_922 : decode cL_act 922 = .ok (.goto 4, 3) := by decide +kernel
theorem dL_act_925 : decode cL_act 925 = .ok (.iconst 0, 1) := by decide +kernel
theorem dL_act_926 : decode cL_act 926 = .ok (.istore 7, 2) := by decide +kernel
theorem dL_act_928 : decode cL_act 928 = .ok (.aload_n 0, 1) := by decide +kernel
theorem dL_act_929 : decode cL_act 929 = .ok (.iload 7, 2) := by decide +kernel
theorem dL_act_931 : decode cL_act 931 = .ok (.ifCond .eq 8, 3) := by decide +kernel
theorem dL_act_934 : decode cL_act 934 = .ok (.bipush 10, 2) := by decide +kernel
theorem dL_act_936 : decode cL_act 936 = .ok (.goto 5, 3) := by decide +kernel
theorem dL_act_939 : decode cL_act 939 = .ok (.bipush 11, 2) := by decide +kernel
theorem dL_act_941 : decode cL_act 941 = .ok (.invokevirtual 9, 3) := by decide +kernel
theorem dL_act_944 : decode cL_act 944 = .ok (.istore 8, 2) := by decide +kernel
theorem dL_act_946 : decode cL_act 946 = .ok (.aload_n 0, 1) := by decide +kernel
theorem dL_act_947 : decode cL_act 947 = .ok (.iload 7, 2) := by decide +kernel
theorem dL_act_949 : decode cL_act 949 = .ok (.ifCond .eq 7, 3) := by decide +kernel
theorem dL_act_952 : decode cL_act 952 = .ok (.iconst 0, 1) := by decide +kernel
theorem dL_act_953 : decode cL_act 953 = .ok (.goto 4, 3) := by decide +kernel
theorem dL_act_956 : decode cL_act 956 = .ok (.iconst 1, 1) := by decide +kernel
theorem dL_act_957 : decode cL_act 957 = .ok (.iload 7, 2) := by decide +kernel
theorem dL_act_959 : decode cL_act 959 = .ok (.ifCond .eq 12, 3) := by decide +kernel
theorem dL_act_962 : decode cL_act 962 = .ok (.iload_n 3, 1) := by decide +kernel
theorem dL_act_963 : decode cL_act 963 = .ok (.bipush 40, 2) := by decide +kernel
theorem dL_act_965 : decode cL_act 965 = .ok (.invokestatic 41, 3) := by decide +kernel
theorem dL_act_968 : decode cL_act 968 = .ok (.goto 11, 3) := by decide +kernel
theorem dL_act_971 : decode cL_act 971 = .ok (.iconst 1, 1) := by decide +kernel
theorem dL_act_972 : decode cL_act 972 = .ok (.iload_n 3, 1) := by decide +kernel
theorem dL_act_973 : decode cL_act 973 = .ok (.bipush 7, 2) := by decide +kernel
theorem dL_act_975 : decode cL_act 975 = .ok (.invokestatic 41, 3) := by decide +kernel
theorem dL_act_978 : decode cL_act 978 = .ok (.iadd, 1) := by decide +kernel
theorem dL_act_979 : decode cL_act 979 = .ok (.invokevirtual 76, 3) := by decide +kernel
theorem dL_act_982 : decode cL_act 982 = .ok (.iload 8, 2) := by decide +kernel
theorem dL_act_984 : decode cL_act 984 = .ok (.if_icmp .ne 7, 3) := by decide +kernel
theorem dL_act_987 : decode cL_act 987 = .ok (.iconst 1, 1) := by decide +kernel
theorem dL_act_988 : decode cL_act 988 = .ok (.goto 4, 3) := by decide +kernel
theorem dL_act_991 : decode cL_act 991 = .ok (.iconst 0, 1) := by decide +kernel
theorem dL_act_992 : decode cL_act 992 = .ok (.ireturn, 1) := by decide +kernel
theorem dL_law_0 : decode cL_law 0 = .ok (.new 10, 3) := by decide +kernel
theorem dL_law_3 : decode cL_law 3 = .ok (.dup, 1) := by decide +kernel
theorem dL_law_4 : decode cL_law 4 = .ok (.invokespecial 79, 3) := by decide +kernel
theorem dL_law_7 : decode cL_law 7 = .ok (.astore_n 1, 1) := by decide +kernel
theorem dL_law_8 : decode cL_law 8 = .ok (.bipush 60, 2) := by decide +kernel
theorem dL_law_10 : decode cL_law 10 = .ok (.newarray .int, 2) := by decide +kernel
theorem dL_law_12 : decode cL_law 12 = .ok (.astore_n 2, 1) := by decide +kernel
theorem dL_law_13 : decode cL_law 13 = .ok (.iconst 0, 1) := by decide +kernel
theorem dL_law_14 : decode cL_law 14 = .ok (.istore_n 3, 1) := by decide +kernel
theorem dL_law_15 : decode cL_law 15 = .ok (.iload_n 3, 1) := by decide +kernel
theorem dL_law_16 : decode cL_law 16 = .ok (.bipush 40, 2) := by decide +kernel
theorem dL_law_18 : decode cL_law 18 = .ok (.if_icmp .ge 59, 3) := by decide +kernel
theorem dL_law_21 : decode cL_law 21 = .ok (.aload_n 1, 1) := by decide +kernel
theorem dL_law_22 : decode cL_law 22 = .ok (.aload_n 2, 1) := by decide +kernel
theorem dL_law_23 : decode cL_law 23 = .ok (.iload_n 3, 1) := by decide +kernel
theorem dL_law_24 : decode cL_law 24 = .ok (.iconst 3, 1) := by decide +kernel
theorem dL_law_25 : decode cL_law 25 = .ok (.if_icmp .ge 7, 3) := by decide +kernel
theorem dL_law_28 : decode cL_law 28 = .ok (.iconst 0, 1) := by decide +kernel
theorem dL_law_29 : decode cL_law 29 = .ok (.goto 10, 3) := by decide +kernel
theorem dL_law_32 : decode cL_law 32 = .ok (.aload_n 0, 1) := by decide +kernel
theorem dL_law_33 : decode cL_law 33 = .ok (.iconst 2, 1) := by decide +kernel
theorem dL_law_34 : decode cL_law 34 = .ok (.iload_n 3, 1) := by decide +kernel
theorem dL_law_35 : decode cL_law 35 = .ok (.imul, 1) := by decide +kernel
theorem dL_law_36 : decode cL_law 36 = .ok (.invokestatic 80, 3) := by decide +kernel
theorem dL_law_39 : decode cL_law 39 = .ok (.aload_n 0, 1) := by decide +kernel
theorem dL_law_40 : decode cL_law 40 = .ok (.iconst 2, 1) := by decide +kernel
theorem dL_law_41 : decode cL_law 41 = .ok (.iload_n 3, 1) := by decide +kernel
theorem dL_law_42 : decode cL_law 42 = .ok (.imul, 1) := by decide +kernel
theorem dL_law_43 : decode cL_law 43 = .ok (.iconst 1, 1) := by decide +kernel
theorem dL_law_44 : decode cL_law 44 = .ok (.iadd, 1) := by decide +kernel
theorem dL_law_45 : decode cL_law 45 = .ok (.invokestatic 80, 3) := by decide +kernel
theorem dL_law_48 : decode cL_law 48 = .ok (.invokestatic 84, 3) := by decide +kernel
theorem dL_law_51 : decode cL_law 51 = .ok (.ifCond .eq 18, 3) := by decide +kernel
theorem dL_law_54 : decode cL_law 54 = .ok (.aload_n 1, 1) := by decide +kernel
theorem dL_law_55 : decode cL_law 55 = .ok (.aload_n 2, 1) := by decide +kernel
theorem dL_law_56 : decode cL_law 56 = .ok (.invokestatic 88, 3) := by decide +kernel
theorem dL_law_59 : decode cL_law 59 = .ok (.ifCond .eq 10, 3) := by decide +kernel
theorem dL_law_62 : decode cL_law 62 = .ok (.aload_n 1, 1) := by decide +kernel
theorem dL_law_63 : decode cL_law 63 = .ok (.invokestatic 92, 3) := by decide +kernel
theorem dL_law_66 : decode cL_law 66 = .ok (.ifCond .ne 5, 3) := by decide +kernel
theorem dL_law_69 : decode cL_law 69 = .ok (.iconst 0, 1) := by decide +kernel
theorem dL_law_70 : decode cL_law 70 = .ok (.ireturn, 1) := by decide +kernel
theorem dL_law_71 : decode cL_law 71 = .ok (.iinc 3 1, 3) := by decide +kernel
theorem dL_law_74 : decode cL_law 74 = .ok (.goto (-59), 3) := by decide +kernel
theorem dL_law_77 : decode cL_law 77 = .ok (.aload_n 1, 1) := by decide +kernel
theorem dL_law_78 : decode cL_law 78 = .ok (.sipush 1000, 3) := by decide +kernel
theorem dL_law_81 : decode cL_law 81 = .ok (.iconst 0, 1) := by decide +kernel
theorem dL_law_82 : decode cL_law 82 = .ok (.iconst 0, 1) := by decide +kernel
theorem dL_law_83 : decode cL_law 83 = .ok (.invokevirtual 44, 3) := by decide +kernel
theorem dL_law_86 : decode cL_law 86 = .ok (.bipush (-2), 2) := by decide +kernel
theorem dL_law_88 : decode cL_law 88 = .ok (.if_icmp .ne 133, 3) := by decide +kernel
theorem dL_law_91 : decode cL_law 91 = .ok (.aload_n 1, 1) := by decide +kernel
theorem dL_law_92 : decode cL_law 92 = .ok (.iconst 0, 1) := by decide +kernel
theorem dL_law_93 : decode cL_law 93 = .ok (.bipush 101, 2) := by decide +kernel
theorem dL_law_95 : decode cL_law 95 = .ok (.iconst 0, 1) := by decide +kernel
theorem dL_law_96 : decode cL_law 96 = .ok (.invokevirtual 44, 3) := by decide +kernel
theorem dL_law_99 : decode cL_law 99 = .ok (.bipush (-2), 2) := by decide +kernel
theorem dL_law_101 : decode cL_law 101 = .ok (.if_icmp .ne 120, 3) := by decide +kernel
theorem dL_law_104 : decode cL_law 104 = .ok (.aload_n 1, 1) := by decide +kernel
theorem dL_law_105 : decode cL_law 105 = .ok (.iconst 0, 1) := by decide +kernel
theorem dL_law_106 : decode cL_law 106 = .ok (.iconst 0, 1) := by decide +kernel
theorem dL_law_107 : decode cL_law 107 = .ok (.sipush 10000, 3) := by decide +kernel
theorem dL_law_110 : decode cL_law 110 = .ok (.invokevirtual 44, 3) := by decide +kernel
theorem dL_law_113 : decode cL_law 113 = .ok (.bipush (-2), 2) := by decide +kernel
theorem dL_law_115 : decode cL_law 115 = .ok (.if_icmp .ne 106, 3) := by decide +kernel
theorem dL_law_118 : decode cL_law 118 = .ok (.aload_n 1, 1) := by decide +kernel
theorem dL_law_119 : decode cL_law 119 = .ok (.iconst 5, 1) := by decide +kernel
theorem dL_law_120 : decode cL_law 120 = .ok (.iconst 0, 1) := by decide +kernel
theorem dL_law_121 : decode cL_law 121 = .ok (.invokevirtual 60, 3) := by decide +kernel
theorem dL_law_124 : decode cL_law 124 = .ok (.iconst (-1), 1) := by decide +kernel
theorem dL_law_125 : decode cL_law 125 = .ok (.if_icmp .ne 96, 3) := by decide +kernel
theorem dL_law_128 : decode cL_law 128 = .ok (.aload_n 1, 1) := by decide +kernel
theorem dL_law_129 : decode cL_law 129 = .ok (.iconst 0, 1) := by decide +kernel
theorem dL_law_130 : decode cL_law 130 = .ok (.bipush 21, 2) := by decide +kernel
theorem dL_law_132 : decode cL_law 132 = .ok (.invokevirtual 60, 3) := by decide +kernel
theorem dL_law_135 : decode cL_law 135 = .ok (.bipush (-2), 2) := by decide +kernel
theorem dL_law_137 : decode cL_law 137 = .ok (.if_icmp .ne 84, 3) := by decide +kernel
theorem dL_law_140 : decode cL_law 140 = .ok (.aload_n 1, 1) := by decide +kernel
theorem dL_law_141 : decode cL_law 141 = .ok (.iconst 3, 1) := by decide +kernel
theorem dL_law_142 : decode cL_law 142 = .ok (.iconst 0, 1) := by decide +kernel
theorem dL_law_143 : decode cL_law 143 = .ok (.iconst 0, 1) := by decide +kernel
theorem dL_law_144 : decode cL_law 144 = .ok (.invokevirtual 57, 3) := by decide +kernel
theorem dL_law_147 : decode cL_law 147 = .ok (.iconst (-1), 1) := by decide +kernel
theorem dL_law_148 : decode cL_law 148 = .ok (.if_icmp .ne 73, 3) := by decide +kernel
theorem dL_law_151 : decode cL_law 151 = .ok (.aload_n 1, 1) := by decide +kernel
theorem dL_law_152 : decode cL_law 152 = .ok (.iconst 0, 1) := by decide +kernel
theorem dL_law_153 : decode cL_law 153 = .ok (.iconst 0, 1) := by decide +kernel
theorem dL_law_154 : decode cL_law 154 = .ok (.invokevirtual 54, 3) := by decide +kernel
theorem dL_law_157 : decode cL_law 157 = .ok (.bipush (-2), 2) := by decide +kernel
theorem dL_law_159 : decode cL_law 159 = .ok (.if_icmp .ne 62, 3) := by decide +kernel
theorem dL_law_162 : decode cL_law 162 = .ok (.aload_n 1, 1) := by decide +kernel
theorem dL_law_163 : decode cL_law 163 = .ok (.bipush 100, 2) := by decide +kernel
theorem dL_law_165 : decode cL_law 165 = .ok (.invokevirtual 73, 3) := by decide +kernel
theorem dL_law_168 : decode cL_law 168 = .ok (.bipush (-2), 2) := by decide +kernel
theorem dL_law_170 : decode cL_law 170 = .ok (.if_icmp .ne 51, 3) := by decide +kernel
theorem dL_law_173 : decode cL_law 173 = .ok (.aload_n 1, 1) := by decide +kernel
theorem dL_law_174 : decode cL_law 174 = .ok (.iconst 2, 1) := by decide +kernel
theorem dL_law_175 : decode cL_law 175 = .ok (.iconst 0, 1) := by decide +kernel
theorem dL_law_176 : decode cL_law 176 = .ok (.invokevirtual 76, 3) := by decide +kernel
theorem dL_law_179 : decode cL_law 179 = .ok (.bipush (-2), 2) := by decide +kernel
theorem dL_law_181 : decode cL_law 181 = .ok (.if_icmp .ne 40, 3) := by decide +kernel
theorem dL_law_184 : decode cL_law 184 = .ok (.aload_n 1, 1) := by decide +kernel
theorem dL_law_185 : decode cL_law 185 = .ok (.iconst 1, 1) := by decide +kernel
theorem dL_law_186 : decode cL_law 186 = .ok (.iconst 0, 1) := by decide +kernel
theorem dL_law_187 : decode cL_law 187 = .ok (.invokevirtual 76, 3) := by decide +kernel
theorem dL_law_190 : decode cL_law 190 = .ok (.bipush (-2), 2) := by decide +kernel
theorem dL_law_192 : decode cL_law 192 = .ok (.if_icmp .ne 29, 3) := by decide +kernel
theorem dL_law_195 : decode cL_law 195 = .ok (.aload_n 1, 1) := by decide +kernel
theorem dL_law_196 : decode cL_law 196 = .ok (.bipush 6, 2) := by decide +kernel
theorem dL_law_198 : decode cL_law 198 = .ok (.invokevirtual 25, 3) := by decide +kernel
theorem dL_law_201 : decode cL_law 201 = .ok (.bipush (-2), 2) := by decide +kernel
theorem dL_law_203 : decode cL_law 203 = .ok (.if_icmp .ne 18, 3) := by decide +kernel
theorem dL_law_206 : decode cL_law 206 = .ok (.aload_n 1, 1) := by decide +kernel
theorem dL_law_207 : decode cL_law 207 = .ok (.bipush 14, 2) := by decide +kernel
theorem dL_law_209 : decode cL_law 209 = .ok (.invokevirtual 9, 3) := by decide +kernel
theorem dL_law_212 : decode cL_law 212 = .ok (.bipush (-2), 2) := by decide +kernel
theorem dL_law_214 : decode cL_law 214 = .ok (.if_icmp .ne 7, 3) := by decide +kernel
theorem dL_law_217 : decode cL_law 217 = .ok (.iconst 1, 1) := by decide +kernel
theorem dL_law_218 : decode cL_law 218 = .ok (.goto 4, 3) := by decide +kernel
theorem dL_law_221 : decode cL_law 221 = .ok (.iconst 0, 1) := by decide +kernel
theorem dL_law_222 : decode cL_law 222 = .ok (.ireturn, 1) := by decide +kernel
abbrev vwCl : List vw_C := [(RX0, TX0, 3), (RX1, TX1, 6), (RX2, TX2, 5), (RX3, TX3, 2), (RX4, TX4, 10), (RX5, TX5, 8), (RX6, TX6, 6)]
