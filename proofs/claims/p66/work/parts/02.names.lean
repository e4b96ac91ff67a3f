/-! ===== BEGIN printed: names, fields, word lists, decode rows ===== -/
def RX0 : String := "CrateScale$1"
def TX0 : u_T := fun k => match k with
  | _ => ("", "", "", false)
def tyX0 : Nat → FieldType := fun k => match k with
  | _ => .int
abbrev wsX00 : List Cond := u_ws RX0 TX0 0
theorem nmX0 : ∀ a, a < 0 → ∀ b, b < 0 → a ≠ b → (TX0 a).2.1 ≠ (TX0 b).2.1 := by decide +kernel
theorem tyX0_ok : ∀ k, k < 0 → parseFieldDescriptor (TX0 k).2.2.1 = some (tyX0 k) := by decide +kernel
def RX1 : String := "CrateScale$Buyer"
def TX1 : u_T := fun k => match k with
  | 0 => ("CrateScale$Buyer", "index", "I", true)
  | 1 => ("CrateScale$Buyer", "name", "I", false)
  | 2 => ("CrateScale$Buyer", "money", "I", false)
  | 3 => ("CrateScale$Buyer", "tolerance", "I", false)
  | 4 => ("CrateScale$Buyer", "trust", "I", false)
  | _ => ("CrateScale$Buyer", "purchases", "I", false)
def tyX1 : Nat → FieldType := fun k => match k with
  | 0 => .int
  | 1 => .int
  | 2 => .int
  | 3 => .int
  | 4 => .int
  | _ => .int
abbrev wsX10 : List Cond := u_ws RX1 TX1 6
theorem nmX1 : ∀ a, a < 6 → ∀ b, b < 6 → a ≠ b → (TX1 a).2.1 ≠ (TX1 b).2.1 := by decide +kernel
theorem tyX1_ok : ∀ k, k < 6 → parseFieldDescriptor (TX1 k).2.2.1 = some (tyX1 k) := by decide +kernel
abbrev cX1_init : ByteArray := prog_3_method_1_code
def yX1_init : MethodName := ⟨RX1, "<init>", "(I)V"⟩
abbrev cX1_reset : ByteArray := prog_3_method_2_code
def yX1_reset : MethodName := ⟨RX1, "reset", "()V"⟩
abbrev cX1_copyFrom : ByteArray := prog_3_method_3_code
def yX1_copyFrom : MethodName := ⟨RX1, "copyFrom", "(LCrateScale$Buyer;)V"⟩
abbrev cX1_trustAfter : ByteArray := prog_3_method_4_code
def yX1_trustAfter : MethodName := ⟨RX1, "trustAfter", "(I)I"⟩
abbrev cX1_refundFor : ByteArray := prog_3_method_5_code
def yX1_refundFor : MethodName := ⟨RX1, "refundFor", "(I)I"⟩
def RX2 : String := "CrateScale$Crate"
def TX2 : u_T := fun k => match k with
  | 0 => ("CrateScale$Crate", "index", "I", true)
  | 1 => ("CrateScale$Crate", "name", "I", false)
  | 2 => ("CrateScale$Crate", "tare", "I", false)
  | 3 => ("CrateScale$Crate", "goods", "I", false)
  | 4 => ("CrateScale$Crate", "gross", "I", false)
  | 5 => ("CrateScale$Crate", "parent", "LCrateScale$Crate;", false)
  | 6 => ("CrateScale$Crate", "putInAt", "I", false)
  | 7 => ("CrateScale$Crate", "inYard", "Z", false)
  | 8 => ("CrateScale$Crate", "readings", "I", false)
  | 9 => ("CrateScale$Crate", "sum", "J", false)
  | 10 => ("CrateScale$Crate", "sags", "J", false)
  | 11 => ("CrateScale$Crate", "last", "I", false)
  | _ => ("CrateScale$Crate", "firstError", "I", false)
def tyX2 : Nat → FieldType := fun k => match k with
  | 0 => .int
  | 1 => .int
  | 2 => .int
  | 3 => .int
  | 4 => .int
  | 5 => .object "CrateScale$Crate"
  | 6 => .int
  | 7 => .boolean
  | 8 => .int
  | 9 => .long
  | 10 => .long
  | 11 => .int
  | _ => .int
abbrev wsX20 : List Cond := u_ws RX2 TX2 13
theorem nmX2 : ∀ a, a < 13 → ∀ b, b < 13 → a ≠ b → (TX2 a).2.1 ≠ (TX2 b).2.1 := by decide +kernel
theorem tyX2_ok : ∀ k, k < 13 → parseFieldDescriptor (TX2 k).2.2.1 = some (tyX2 k) := by decide +kernel
abbrev cX2_init : ByteArray := prog_4_method_1_code
def yX2_init : MethodName := ⟨RX2, "<init>", "(I)V"⟩
abbrev cX2_reset : ByteArray := prog_4_method_2_code
def yX2_reset : MethodName := ⟨RX2, "reset", "()V"⟩
abbrev cX2_copyFrom : ByteArray := prog_4_method_3_code
def yX2_copyFrom : MethodName := ⟨RX2, "copyFrom", "(LCrateScale$Crate;)V"⟩
abbrev cX2_parentIndex : ByteArray := prog_4_method_4_code
def yX2_parentIndex : MethodName := ⟨RX2, "parentIndex", "()I"⟩
abbrev cX2_depth : ByteArray := prog_4_method_5_code
def yX2_depth : MethodName := ⟨RX2, "depth", "()I"⟩
abbrev cX2_isOrIsInside : ByteArray := prog_4_method_6_code
def yX2_isOrIsInside : MethodName := ⟨RX2, "isOrIsInside", "(LCrateScale$Crate;)Z"⟩
abbrev cX2_canTakeGoods : ByteArray := prog_4_method_7_code
def yX2_canTakeGoods : MethodName := ⟨RX2, "canTakeGoods", "(I)Z"⟩
abbrev cX2_canGiveGoods : ByteArray := prog_4_method_8_code
def yX2_canGiveGoods : MethodName := ⟨RX2, "canGiveGoods", "(I)Z"⟩
abbrev cX2_hasOpenPair : ByteArray := prog_4_method_9_code
def yX2_hasOpenPair : MethodName := ⟨RX2, "hasOpenPair", "()Z"⟩
abbrev cX2_store : ByteArray := prog_4_method_10_code
def yX2_store : MethodName := ⟨RX2, "store", "(II)V"⟩
abbrev cX2_discardReadings : ByteArray := prog_4_method_11_code
def yX2_discardReadings : MethodName := ⟨RX2, "discardReadings", "()V"⟩
abbrev cX2_mean : ByteArray := prog_4_method_12_code
def yX2_mean : MethodName := ⟨RX2, "mean", "()I"⟩
abbrev cX2_error : ByteArray := prog_4_method_13_code
def yX2_error : MethodName := ⟨RX2, "error", "()I"⟩
abbrev cX2_price : ByteArray := prog_4_method_15_code
def yX2_price : MethodName := ⟨RX2, "price", "()I"⟩
abbrev cX2_isSumSound : ByteArray := prog_4_method_16_code
def yX2_isSumSound : MethodName := ⟨RX2, "isSumSound", "()Z"⟩
def RX3 : String := "CrateScale$History"
def TX3 : u_T := fun k => match k with
  | 0 => ("CrateScale$History", "past", "[LCrateScale$Yard;", true)
  | 1 => ("CrateScale$History", "next", "I", false)
  | _ => ("CrateScale$History", "count", "I", false)
def tyX3 : Nat → FieldType := fun k => match k with
  | 0 => .array (.object "CrateScale$Yard")
  | 1 => .int
  | _ => .int
abbrev wsX30 : List Cond := u_ws RX3 TX3 3
theorem nmX3 : ∀ a, a < 3 → ∀ b, b < 3 → a ≠ b → (TX3 a).2.1 ≠ (TX3 b).2.1 := by decide +kernel
theorem tyX3_ok : ∀ k, k < 3 → parseFieldDescriptor (TX3 k).2.2.1 = some (tyX3 k) := by decide +kernel
abbrev cX3_init : ByteArray := prog_5_method_1_code
def yX3_init : MethodName := ⟨RX3, "<init>", "()V"⟩
abbrev cX3_remember : ByteArray := prog_5_method_2_code
def yX3_remember : MethodName := ⟨RX3, "remember", "(LCrateScale$Yard;)V"⟩
abbrev cX3_slot : ByteArray := prog_5_method_4_code
def yX3_slot : MethodName := ⟨RX3, "slot", "()LCrateScale$Yard;"⟩
abbrev cX3_forget : ByteArray := prog_5_method_5_code
def yX3_forget : MethodName := ⟨RX3, "forget", "()V"⟩
def RX4 : String := "CrateScale$Scale"
def TX4 : u_T := fun k => match k with
  | 0 => ("CrateScale$Scale", "generator", "I", false)
  | 1 => ("CrateScale$Scale", "amplitude", "I", false)
  | 2 => ("CrateScale$Scale", "aging", "I", false)
  | _ => ("CrateScale$Scale", "age", "I", false)
def tyX4 : Nat → FieldType := fun k => match k with
  | 0 => .int
  | 1 => .int
  | 2 => .int
  | _ => .int
abbrev wsX40 : List Cond := u_ws RX4 TX4 4
theorem nmX4 : ∀ a, a < 4 → ∀ b, b < 4 → a ≠ b → (TX4 a).2.1 ≠ (TX4 b).2.1 := by decide +kernel
theorem tyX4_ok : ∀ k, k < 4 → parseFieldDescriptor (TX4 k).2.2.1 = some (tyX4 k) := by decide +kernel
abbrev cX4_init : ByteArray := prog_6_method_1_code
def yX4_init : MethodName := ⟨RX4, "<init>", "()V"⟩
abbrev cX4_reset : ByteArray := prog_6_method_2_code
def yX4_reset : MethodName := ⟨RX4, "reset", "()V"⟩
abbrev cX4_copyFrom : ByteArray := prog_6_method_3_code
def yX4_copyFrom : MethodName := ⟨RX4, "copyFrom", "(LCrateScale$Scale;)V"⟩
abbrev cX4_sag : ByteArray := prog_6_method_4_code
def yX4_sag : MethodName := ⟨RX4, "sag", "()I"⟩
abbrev cX4_nextNoise : ByteArray := prog_6_method_5_code
def yX4_nextNoise : MethodName := ⟨RX4, "nextNoise", "()I"⟩
abbrev cX4_read : ByteArray := prog_6_method_6_code
def yX4_read : MethodName := ⟨RX4, "read", "(LCrateScale$Crate;)I"⟩
def RX5 : String := "CrateScale$Script"
def TX5 : u_T := fun k => match k with
  | 0 => ("CrateScale$Script", "text", "LCrateScale$Text;", true)
  | 1 => ("CrateScale$Script", "yard", "LCrateScale$Yard;", true)
  | 2 => ("CrateScale$Script", "statements", "[LCrateScale$Statement;", true)
  | _ => ("CrateScale$Script", "count", "I", false)
def tyX5 : Nat → FieldType := fun k => match k with
  | 0 => .object "CrateScale$Text"
  | 1 => .object "CrateScale$Yard"
  | 2 => .array (.object "CrateScale$Statement")
  | _ => .int
abbrev wsX50 : List Cond := u_ws RX5 TX5 4
theorem nmX5 : ∀ a, a < 4 → ∀ b, b < 4 → a ≠ b → (TX5 a).2.1 ≠ (TX5 b).2.1 := by decide +kernel
theorem tyX5_ok : ∀ k, k < 4 → parseFieldDescriptor (TX5 k).2.2.1 = some (tyX5 k) := by decide +kernel
abbrev cX5_init : ByteArray := prog_7_method_1_code
def yX5_init : MethodName := ⟨RX5, "<init>", "(LCrateScale$Text;LCrateScale$Yard;)V"⟩
def RX6 : String := "CrateScale$Setup"
def TX6 : u_T := fun k => match k with
  | 0 => ("CrateScale$Setup", "text", "LCrateScale$Text;", true)
  | _ => ("CrateScale$Setup", "draft", "LCrateScale$Yard;", true)
def tyX6 : Nat → FieldType := fun k => match k with
  | 0 => .object "CrateScale$Text"
  | _ => .object "CrateScale$Yard"
abbrev wsX60 : List Cond := u_ws RX6 TX6 2
theorem nmX6 : ∀ a, a < 2 → ∀ b, b < 2 → a ≠ b → (TX6 a).2.1 ≠ (TX6 b).2.1 := by decide +kernel
theorem tyX6_ok : ∀ k, k < 2 → parseFieldDescriptor (TX6 k).2.2.1 = some (tyX6 k) := by decide +kernel
abbrev cX6_init : ByteArray := prog_8_method_1_code
def yX6_init : MethodName := ⟨RX6, "<init>", "(LCrateScale$Text;LCrateScale$Yard;)V"⟩
abbrev cX6_parse : ByteArray := prog_8_method_2_code
def yX6_parse : MethodName := ⟨RX6, "parse", "()Z"⟩
abbrev cX6_crate : ByteArray := prog_8_method_3_code
def yX6_crate : MethodName := ⟨RX6, "crate", "()Z"⟩
abbrev cX6_requireOuter : ByteArray := prog_8_method_4_code
def yX6_requireOuter : MethodName := ⟨RX6, "requireOuter", "()Z"⟩
abbrev cX6_buyer : ByteArray := prog_8_method_5_code
def yX6_buyer : MethodName := ⟨RX6, "buyer", "()Z"⟩
abbrev cX6_setting : ByteArray := prog_8_method_6_code
def yX6_setting : MethodName := ⟨RX6, "setting", "()Z"⟩
def RX7 : String := "CrateScale$Statement"
def TX7 : u_T := fun k => match k with
  | 0 => ("CrateScale$Statement", "verb", "LCrateScale$Verb;", false)
  | 1 => ("CrateScale$Statement", "crate", "I", false)
  | 2 => ("CrateScale$Statement", "outer", "I", false)
  | 3 => ("CrateScale$Statement", "buyer", "I", false)
  | _ => ("CrateScale$Statement", "number", "I", false)
def tyX7 : Nat → FieldType := fun k => match k with
  | 0 => .object "CrateScale$Verb"
  | 1 => .int
  | 2 => .int
  | 3 => .int
  | _ => .int
abbrev wsX70 : List Cond := u_ws RX7 TX7 5
theorem nmX7 : ∀ a, a < 5 → ∀ b, b < 5 → a ≠ b → (TX7 a).2.1 ≠ (TX7 b).2.1 := by decide +kernel
theorem tyX7_ok : ∀ k, k < 5 → parseFieldDescriptor (TX7 k).2.2.1 = some (tyX7 k) := by decide +kernel
abbrev cX7_init : ByteArray := prog_9_method_1_code
def yX7_init : MethodName := ⟨RX7, "<init>", "()V"⟩
def RX8 : String := "CrateScale$Text"
def TX8 : u_T := fun k => match k with
  | 0 => ("CrateScale$Text", "bytes", "[B", true)
  | 1 => ("CrateScale$Text", "length", "I", false)
  | 2 => ("CrateScale$Text", "errorCode", "I", false)
  | 3 => ("CrateScale$Text", "errorOffset", "I", false)
  | 4 => ("CrateScale$Text", "kind", "I", false)
  | 5 => ("CrateScale$Text", "start", "I", false)
  | _ => ("CrateScale$Text", "end", "I", false)
def tyX8 : Nat → FieldType := fun k => match k with
  | 0 => .array .byte
  | 1 => .int
  | 2 => .int
  | 3 => .int
  | 4 => .int
  | 5 => .int
  | _ => .int
abbrev wsX80 : List Cond := u_ws RX8 TX8 7
theorem nmX8 : ∀ a, a < 7 → ∀ b, b < 7 → a ≠ b → (TX8 a).2.1 ≠ (TX8 b).2.1 := by decide +kernel
theorem tyX8_ok : ∀ k, k < 7 → parseFieldDescriptor (TX8 k).2.2.1 = some (tyX8 k) := by decide +kernel
abbrev cX8_init : ByteArray := prog_10_method_1_code
def yX8_init : MethodName := ⟨RX8, "<init>", "()V"⟩
abbrev cX8_append : ByteArray := prog_10_method_2_code
def yX8_append : MethodName := ⟨RX8, "append", "(I)V"⟩
abbrev cX8_appendInt : ByteArray := prog_10_method_3_code
def yX8_appendInt : MethodName := ⟨RX8, "appendInt", "(I)V"⟩
abbrev cX8_appendText : ByteArray := prog_10_method_4_code
def yX8_appendText : MethodName := ⟨RX8, "appendText", "(Ljava/lang/String;)V"⟩
abbrev cX8_rewind : ByteArray := prog_10_method_5_code
def yX8_rewind : MethodName := ⟨RX8, "rewind", "()V"⟩
abbrev cX8_fail : ByteArray := prog_10_method_6_code
def yX8_fail : MethodName := ⟨RX8, "fail", "(I)Z"⟩
abbrev cX8_kindAt : ByteArray := prog_10_method_7_code
def yX8_kindAt : MethodName := ⟨RX8, "kindAt", "(I)I"⟩
abbrev cX8_advance : ByteArray := prog_10_method_8_code
def yX8_advance : MethodName := ⟨RX8, "advance", "()V"⟩
abbrev cX8_hasNext : ByteArray := prog_10_method_9_code
def yX8_hasNext : MethodName := ⟨RX8, "hasNext", "()Z"⟩
abbrev cX8_isWord : ByteArray := prog_10_method_10_code
def yX8_isWord : MethodName := ⟨RX8, "isWord", "(Ljava/lang/String;)Z"⟩
abbrev cX8_byteAt : ByteArray := prog_10_method_11_code
def yX8_byteAt : MethodName := ⟨RX8, "byteAt", "(I)I"⟩
abbrev cX8_nextName : ByteArray := prog_10_method_13_code
def yX8_nextName : MethodName := ⟨RX8, "nextName", "()Z"⟩
abbrev cX8_name : ByteArray := prog_10_method_14_code
def yX8_name : MethodName := ⟨RX8, "name", "()I"⟩
abbrev cX8_nextNumber : ByteArray := prog_10_method_17_code
def yX8_nextNumber : MethodName := ⟨RX8, "nextNumber", "(II)Z"⟩
abbrev cX8_number : ByteArray := prog_10_method_18_code
def yX8_number : MethodName := ⟨RX8, "number", "()I"⟩
abbrev cX8_requireSemicolon : ByteArray := prog_10_method_19_code
def yX8_requireSemicolon : MethodName := ⟨RX8, "requireSemicolon", "()Z"⟩
abbrev cX8_nextSemicolon : ByteArray := prog_10_method_20_code
def yX8_nextSemicolon : MethodName := ⟨RX8, "nextSemicolon", "()Z"⟩
def RX9 : String := "CrateScale$Totals"
def TX9 : u_T := fun k => match k with
  | 0 => ("CrateScale$Totals", "readings", "I", false)
  | 1 => ("CrateScale$Totals", "discarded", "I", false)
  | 2 => ("CrateScale$Totals", "springs", "I", false)
  | 3 => ("CrateScale$Totals", "sales", "I", false)
  | 4 => ("CrateScale$Totals", "prices", "I", false)
  | 5 => ("CrateScale$Totals", "refunds", "I", false)
  | _ => ("CrateScale$Totals", "firstMoney", "I", false)
def tyX9 : Nat → FieldType := fun k => match k with
  | 0 => .int
  | 1 => .int
  | 2 => .int
  | 3 => .int
  | 4 => .int
  | 5 => .int
  | _ => .int
abbrev wsX90 : List Cond := u_ws RX9 TX9 7
theorem nmX9 : ∀ a, a < 7 → ∀ b, b < 7 → a ≠ b → (TX9 a).2.1 ≠ (TX9 b).2.1 := by decide +kernel
theorem tyX9_ok : ∀ k, k < 7 → parseFieldDescriptor (TX9 k).2.2.1 = some (tyX9 k) := by decide +kernel
abbrev cX9_init : ByteArray := prog_11_method_1_code
def yX9_init : MethodName := ⟨RX9, "<init>", "()V"⟩
abbrev cX9_reset : ByteArray := prog_11_method_2_code
def yX9_reset : MethodName := ⟨RX9, "reset", "()V"⟩
abbrev cX9_copyFrom : ByteArray := prog_11_method_3_code
def yX9_copyFrom : MethodName := ⟨RX9, "copyFrom", "(LCrateScale$Totals;)V"⟩
def RX10 : String := "CrateScale$Verb"
def TX10 : u_T := fun k => match k with
  | _ => ("", "", "", false)
def tyX10 : Nat → FieldType := fun k => match k with
  | _ => .int
abbrev wsX100 : List Cond := u_ws RX10 TX10 0
theorem nmX10 : ∀ a, a < 0 → ∀ b, b < 0 → a ≠ b → (TX10 a).2.1 ≠ (TX10 b).2.1 := by decide +kernel
theorem tyX10_ok : ∀ k, k < 0 → parseFieldDescriptor (TX10 k).2.2.1 = some (tyX10 k) := by decide +kernel
def RX11 : String := "CrateScale$Yard"
def TX11 : u_T := fun k => match k with
  | 0 => ("CrateScale$Yard", "crates", "[LCrateScale$Crate;", true)
  | 1 => ("CrateScale$Yard", "buyers", "[LCrateScale$Buyer;", true)
  | 2 => ("CrateScale$Yard", "scale", "LCrateScale$Scale;", true)
  | 3 => ("CrateScale$Yard", "totals", "LCrateScale$Totals;", true)
  | 4 => ("CrateScale$Yard", "crateCount", "I", false)
  | 5 => ("CrateScale$Yard", "buyerCount", "I", false)
  | 6 => ("CrateScale$Yard", "requiredReadings", "I", false)
  | 7 => ("CrateScale$Yard", "requiredTrust", "I", false)
  | _ => ("CrateScale$Yard", "timesPutIn", "I", false)
def tyX11 : Nat → FieldType := fun k => match k with
  | 0 => .array (.object "CrateScale$Crate")
  | 1 => .array (.object "CrateScale$Buyer")
  | 2 => .object "CrateScale$Scale"
  | 3 => .object "CrateScale$Totals"
  | 4 => .int
  | 5 => .int
  | 6 => .int
  | 7 => .int
  | _ => .int
abbrev wsX110 : List Cond := u_ws RX11 TX11 9
theorem nmX11 : ∀ a, a < 9 → ∀ b, b < 9 → a ≠ b → (TX11 a).2.1 ≠ (TX11 b).2.1 := by decide +kernel
theorem tyX11_ok : ∀ k, k < 9 → parseFieldDescriptor (TX11 k).2.2.1 = some (tyX11 k) := by decide +kernel
abbrev cX11_init : ByteArray := prog_13_method_1_code
def yX11_init : MethodName := ⟨RX11, "<init>", "()V"⟩
abbrev cX11_reset : ByteArray := prog_13_method_2_code
def yX11_reset : MethodName := ⟨RX11, "reset", "()V"⟩
abbrev cX11_copyFrom : ByteArray := prog_13_method_3_code
def yX11_copyFrom : MethodName := ⟨RX11, "copyFrom", "(LCrateScale$Yard;)V"⟩
abbrev cX11_crateAt : ByteArray := prog_13_method_4_code
def yX11_crateAt : MethodName := ⟨RX11, "crateAt", "(I)LCrateScale$Crate;"⟩
abbrev cX11_buyerAt : ByteArray := prog_13_method_5_code
def yX11_buyerAt : MethodName := ⟨RX11, "buyerAt", "(I)LCrateScale$Buyer;"⟩
abbrev cX11_crateNamed : ByteArray := prog_13_method_6_code
def yX11_crateNamed : MethodName := ⟨RX11, "crateNamed", "(I)LCrateScale$Crate;"⟩
abbrev cX11_buyerNamed : ByteArray := prog_13_method_7_code
def yX11_buyerNamed : MethodName := ⟨RX11, "buyerNamed", "(I)LCrateScale$Buyer;"⟩
abbrev cX11_addCrate : ByteArray := prog_13_method_8_code
def yX11_addCrate : MethodName := ⟨RX11, "addCrate", "(III)LCrateScale$Crate;"⟩
abbrev cX11_addBuyer : ByteArray := prog_13_method_9_code
def yX11_addBuyer : MethodName := ⟨RX11, "addBuyer", "(IIII)V"⟩
abbrev cX11_firstChild : ByteArray := prog_13_method_10_code
def yX11_firstChild : MethodName := ⟨RX11, "firstChild", "(LCrateScale$Crate;)LCrateScale$Crate;"⟩
abbrev cX11_nextChild : ByteArray := prog_13_method_11_code
def yX11_nextChild : MethodName := ⟨RX11, "nextChild", "(LCrateScale$Crate;)LCrateScale$Crate;"⟩
abbrev cX11_childAfter : ByteArray := prog_13_method_12_code
def yX11_childAfter : MethodName := ⟨RX11, "childAfter", "(LCrateScale$Crate;I)LCrateScale$Crate;"⟩
abbrev cX11_takeReading : ByteArray := prog_13_method_13_code
def yX11_takeReading : MethodName := ⟨RX11, "takeReading", "(LCrateScale$Crate;)I"⟩
abbrev cX11_changeGoods : ByteArray := prog_13_method_14_code
def yX11_changeGoods : MethodName := ⟨RX11, "changeGoods", "(LCrateScale$Crate;I)V"⟩
abbrev cX11_canNest : ByteArray := prog_13_method_15_code
def yX11_canNest : MethodName := ⟨RX11, "canNest", "(LCrateScale$Crate;LCrateScale$Crate;)Z"⟩
abbrev cX11_levelsInside : ByteArray := prog_13_method_16_code
def yX11_levelsInside : MethodName := ⟨RX11, "levelsInside", "(LCrateScale$Crate;)I"⟩
abbrev cX11_nest : ByteArray := prog_13_method_17_code
def yX11_nest : MethodName := ⟨RX11, "nest", "(LCrateScale$Crate;LCrateScale$Crate;)V"⟩
abbrev cX11_unnest : ByteArray := prog_13_method_18_code
def yX11_unnest : MethodName := ⟨RX11, "unnest", "(LCrateScale$Crate;)V"⟩
abbrev cX11_addWeight : ByteArray := prog_13_method_19_code
def yX11_addWeight : MethodName := ⟨RX11, "addWeight", "(LCrateScale$Crate;I)V"⟩
abbrev cX11_renewSpring : ByteArray := prog_13_method_20_code
def yX11_renewSpring : MethodName := ⟨RX11, "renewSpring", "()V"⟩
abbrev cX11_refusal : ByteArray := prog_13_method_21_code
def yX11_refusal : MethodName := ⟨RX11, "refusal", "(LCrateScale$Crate;LCrateScale$Buyer;)I"⟩
abbrev cX11_trade : ByteArray := prog_13_method_24_code
def yX11_trade : MethodName := ⟨RX11, "trade", "(LCrateScale$Crate;LCrateScale$Buyer;)I"⟩
abbrev cX11_sendAway : ByteArray := prog_13_method_25_code
def yX11_sendAway : MethodName := ⟨RX11, "sendAway", "(LCrateScale$Crate;)V"⟩
abbrev cX11_storedReadings : ByteArray := prog_13_method_26_code
def yX11_storedReadings : MethodName := ⟨RX11, "storedReadings", "()I"⟩
abbrev cX11_areCratesSound : ByteArray := prog_13_method_28_code
def yX11_areCratesSound : MethodName := ⟨RX11, "areCratesSound", "()Z"⟩
abbrev cX11_grossByChildren : ByteArray := prog_13_method_29_code
def yX11_grossByChildren : MethodName := ⟨RX11, "grossByChildren", "(LCrateScale$Yard;LCrateScale$Crate;I)I"⟩
abbrev cX11_grossByAncestors : ByteArray := prog_13_method_30_code
def yX11_grossByAncestors : MethodName := ⟨RX11, "grossByAncestors", "(LCrateScale$Crate;)I"⟩
abbrev cX11_isMoneySound : ByteArray := prog_13_method_31_code
def yX11_isMoneySound : MethodName := ⟨RX11, "isMoneySound", "()Z"⟩
abbrev cX11_areTotalsSound : ByteArray := prog_13_method_32_code
def yX11_areTotalsSound : MethodName := ⟨RX11, "areTotalsSound", "()Z"⟩
def RX12 : String := "CrateScale"
def TX12 : u_T := fun k => match k with
  | 0 => ("CrateScale", "yard", "LCrateScale$Yard;", true)
  | 1 => ("CrateScale", "saved", "LCrateScale$Yard;", true)
  | 2 => ("CrateScale", "draft", "LCrateScale$Yard;", true)
  | 3 => ("CrateScale", "history", "LCrateScale$History;", true)
  | 4 => ("CrateScale", "input", "LCrateScale$Text;", true)
  | 5 => ("CrateScale", "setup", "LCrateScale$Setup;", true)
  | 6 => ("CrateScale", "script", "LCrateScale$Script;", true)
  | 7 => ("CrateScale", "output", "Ljava/lang/StringBuilder;", true)
  | 8 => ("CrateScale", "trialCrate", "LCrateScale$Crate;", true)
  | 9 => ("CrateScale", "trialScale", "LCrateScale$Scale;", true)
  | _ => ("CrateScale", "hasSaved", "Z", false)
def tyX12 : Nat → FieldType := fun k => match k with
  | 0 => .object "CrateScale$Yard"
  | 1 => .object "CrateScale$Yard"
  | 2 => .object "CrateScale$Yard"
  | 3 => .object "CrateScale$History"
  | 4 => .object "CrateScale$Text"
  | 5 => .object "CrateScale$Setup"
  | 6 => .object "CrateScale$Script"
  | 7 => .object "java/lang/StringBuilder"
  | 8 => .object "CrateScale$Crate"
  | 9 => .object "CrateScale$Scale"
  | _ => .boolean
abbrev wsX120 : List Cond := u_ws RX12 TX12 11
theorem nmX12 : ∀ a, a < 11 → ∀ b, b < 11 → a ≠ b → (TX12 a).2.1 ≠ (TX12 b).2.1 := by decide +kernel
theorem tyX12_ok : ∀ k, k < 11 → parseFieldDescriptor (TX12 k).2.2.1 = some (tyX12 k) := by decide +kernel
abbrev cX12_init : ByteArray := prog_1_method_1_code
def yX12_init : MethodName := ⟨RX12, "<init>", "()V"⟩
abbrev cX12_appendInput : ByteArray := prog_1_method_2_code
def yX12_appendInput : MethodName := ⟨RX12, "appendInput", "(IIIII)I"⟩
abbrev cX12_truncateInput : ByteArray := prog_1_method_3_code
def yX12_truncateInput : MethodName := ⟨RX12, "truncateInput", "(I)Z"⟩
abbrev cX12_loadYard : ByteArray := prog_1_method_4_code
def yX12_loadYard : MethodName := ⟨RX12, "loadYard", "()I"⟩
abbrev cX12_tareOf : ByteArray := prog_1_method_12_code
def yX12_tareOf : MethodName := ⟨RX12, "tareOf", "(I)I"⟩
abbrev cX12_goodsOf : ByteArray := prog_1_method_13_code
def yX12_goodsOf : MethodName := ⟨RX12, "goodsOf", "(I)I"⟩
abbrev cX12_grossOf : ByteArray := prog_1_method_14_code
def yX12_grossOf : MethodName := ⟨RX12, "grossOf", "(I)I"⟩
abbrev cX12_parentOf : ByteArray := prog_1_method_15_code
def yX12_parentOf : MethodName := ⟨RX12, "parentOf", "(I)I"⟩
abbrev cX12_depthOf : ByteArray := prog_1_method_16_code
def yX12_depthOf : MethodName := ⟨RX12, "depthOf", "(I)I"⟩
abbrev cX12_childCount : ByteArray := prog_1_method_17_code
def yX12_childCount : MethodName := ⟨RX12, "childCount", "(I)I"⟩
abbrev cX12_childOf : ByteArray := prog_1_method_18_code
def yX12_childOf : MethodName := ⟨RX12, "childOf", "(II)I"⟩
abbrev cX12_isInYard : ByteArray := prog_1_method_19_code
def yX12_isInYard : MethodName := ⟨RX12, "isInYard", "(I)Z"⟩
abbrev cX12_readingCount : ByteArray := prog_1_method_20_code
def yX12_readingCount : MethodName := ⟨RX12, "readingCount", "(I)I"⟩
abbrev cX12_lastReading : ByteArray := prog_1_method_21_code
def yX12_lastReading : MethodName := ⟨RX12, "lastReading", "(I)I"⟩
abbrev cX12_meanReading : ByteArray := prog_1_method_22_code
def yX12_meanReading : MethodName := ⟨RX12, "meanReading", "(I)I"⟩
abbrev cX12_springAge : ByteArray := prog_1_method_25_code
def yX12_springAge : MethodName := ⟨RX12, "springAge", "()I"⟩
abbrev cX12_springSag : ByteArray := prog_1_method_26_code
def yX12_springSag : MethodName := ⟨RX12, "springSag", "()I"⟩
abbrev cX12_amplitude : ByteArray := prog_1_method_27_code
def yX12_amplitude : MethodName := ⟨RX12, "amplitude", "()I"⟩
abbrev cX12_moneyOf : ByteArray := prog_1_method_35_code
def yX12_moneyOf : MethodName := ⟨RX12, "moneyOf", "(I)I"⟩
abbrev cX12_trustOf : ByteArray := prog_1_method_37_code
def yX12_trustOf : MethodName := ⟨RX12, "trustOf", "(I)I"⟩
abbrev cX12_refusalReason : ByteArray := prog_1_method_39_code
def yX12_refusalReason : MethodName := ⟨RX12, "refusalReason", "(II)I"⟩
abbrev cX12_totalReadings : ByteArray := prog_1_method_43_code
def yX12_totalReadings : MethodName := ⟨RX12, "totalReadings", "()I"⟩
abbrev cX12_totalDiscarded : ByteArray := prog_1_method_44_code
def yX12_totalDiscarded : MethodName := ⟨RX12, "totalDiscarded", "()I"⟩
abbrev cX12_totalPrices : ByteArray := prog_1_method_47_code
def yX12_totalPrices : MethodName := ⟨RX12, "totalPrices", "()I"⟩
abbrev cX12_totalRefunds : ByteArray := prog_1_method_48_code
def yX12_totalRefunds : MethodName := ⟨RX12, "totalRefunds", "()I"⟩
abbrev cX12_isConsistent : ByteArray := prog_1_method_49_code
def yX12_isConsistent : MethodName := ⟨RX12, "isConsistent", "()Z"⟩
abbrev cX12_weigh : ByteArray := prog_1_method_51_code
def yX12_weigh : MethodName := ⟨RX12, "weigh", "(I)I"⟩
abbrev cX12_addGoods : ByteArray := prog_1_method_52_code
def yX12_addGoods : MethodName := ⟨RX12, "addGoods", "(II)I"⟩
abbrev cX12_removeGoods : ByteArray := prog_1_method_53_code
def yX12_removeGoods : MethodName := ⟨RX12, "removeGoods", "(II)I"⟩
abbrev cX12_moveInto : ByteArray := prog_1_method_54_code
def yX12_moveInto : MethodName := ⟨RX12, "moveInto", "(II)I"⟩
abbrev cX12_takeOut : ByteArray := prog_1_method_55_code
def yX12_takeOut : MethodName := ⟨RX12, "takeOut", "(I)I"⟩
abbrev cX12_replaceSpring : ByteArray := prog_1_method_56_code
def yX12_replaceSpring : MethodName := ⟨RX12, "replaceSpring", "()I"⟩
abbrev cX12_sell : ByteArray := prog_1_method_57_code
def yX12_sell : MethodName := ⟨RX12, "sell", "(II)I"⟩
abbrev cX12_setAmplitude : ByteArray := prog_1_method_58_code
def yX12_setAmplitude : MethodName := ⟨RX12, "setAmplitude", "(I)I"⟩
abbrev cX12_loadInput : ByteArray := prog_1_method_65_code
def yX12_loadInput : MethodName := ⟨RX12, "loadInput", "()Z"⟩
abbrev cX12_knownCrate : ByteArray := prog_1_method_66_code
def yX12_knownCrate : MethodName := ⟨RX12, "knownCrate", "(I)LCrateScale$Crate;"⟩
abbrev cX12_weighedCrate : ByteArray := prog_1_method_67_code
def yX12_weighedCrate : MethodName := ⟨RX12, "weighedCrate", "(I)LCrateScale$Crate;"⟩
abbrev cX12_knownBuyer : ByteArray := prog_1_method_68_code
def yX12_knownBuyer : MethodName := ⟨RX12, "knownBuyer", "(I)LCrateScale$Buyer;"⟩
abbrev cX12_requireRange : ByteArray := prog_1_method_69_code
def yX12_requireRange : MethodName := ⟨RX12, "requireRange", "(III)V"⟩
abbrev cX12_requireState : ByteArray := prog_1_method_70_code
def yX12_requireState : MethodName := ⟨RX12, "requireState", "(Z)V"⟩
def RX13 : String := "CrateScaleLaw$Crate"
def TX13 : u_T := fun k => match k with
  | 0 => ("CrateScaleLaw$Crate", "number", "I", true)
  | 1 => ("CrateScaleLaw$Crate", "tare", "I", true)
  | 2 => ("CrateScaleLaw$Crate", "goods", "I", false)
  | 3 => ("CrateScaleLaw$Crate", "error", "I", false)
  | 4 => ("CrateScaleLaw$Crate", "isGone", "Z", false)
  | 5 => ("CrateScaleLaw$Crate", "isOpen", "Z", false)
  | 6 => ("CrateScaleLaw$Crate", "parent", "LCrateScaleLaw$Crate;", false)
  | 7 => ("CrateScaleLaw$Crate", "children", "Ljava/util/List;", true)
  | _ => ("CrateScaleLaw$Crate", "readings", "Ljava/util/List;", true)
def tyX13 : Nat → FieldType := fun k => match k with
  | 0 => .int
  | 1 => .int
  | 2 => .int
  | 3 => .int
  | 4 => .boolean
  | 5 => .boolean
  | 6 => .object "CrateScaleLaw$Crate"
  | 7 => .object "java/util/List"
  | _ => .object "java/util/List"
abbrev wsX130 : List Cond := u_ws RX13 TX13 9
theorem nmX13 : ∀ a, a < 9 → ∀ b, b < 9 → a ≠ b → (TX13 a).2.1 ≠ (TX13 b).2.1 := by decide +kernel
theorem tyX13_ok : ∀ k, k < 9 → parseFieldDescriptor (TX13 k).2.2.1 = some (tyX13 k) := by decide +kernel
abbrev cX13_init : ByteArray := prog_15_method_1_code
def yX13_init : MethodName := ⟨RX13, "<init>", "(III)V"⟩
abbrev cX13_gross : ByteArray := prog_15_method_2_code
def yX13_gross : MethodName := ⟨RX13, "gross", "()I"⟩
abbrev cX13_depth : ByteArray := prog_15_method_3_code
def yX13_depth : MethodName := ⟨RX13, "depth", "()I"⟩
abbrev cX13_height : ByteArray := prog_15_method_4_code
def yX13_height : MethodName := ⟨RX13, "height", "()I"⟩
abbrev cX13_holds : ByteArray := prog_15_method_5_code
def yX13_holds : MethodName := ⟨RX13, "holds", "(LCrateScaleLaw$Crate;)Z"⟩
abbrev cX13_mean : ByteArray := prog_15_method_6_code
def yX13_mean : MethodName := ⟨RX13, "mean", "()I"⟩
abbrev cX13_forgets : ByteArray := prog_15_method_7_code
def yX13_forgets : MethodName := ⟨RX13, "forgets", "()I"⟩
abbrev cX13_goes : ByteArray := prog_15_method_8_code
def yX13_goes : MethodName := ⟨RX13, "goes", "()V"⟩
def RX14 : String := "CrateScaleLaw$Yard"
def TX14 : u_T := fun k => match k with
  | 0 => ("CrateScaleLaw$Yard", "all", "Ljava/util/List;", true)
  | 1 => ("CrateScaleLaw$Yard", "state", "I", false)
  | 2 => ("CrateScaleLaw$Yard", "amplitude", "I", false)
  | 3 => ("CrateScaleLaw$Yard", "aging", "I", false)
  | 4 => ("CrateScaleLaw$Yard", "age", "I", false)
  | 5 => ("CrateScaleLaw$Yard", "total", "I", false)
  | 6 => ("CrateScaleLaw$Yard", "discarded", "I", false)
  | 7 => ("CrateScaleLaw$Yard", "money", "I", false)
  | 8 => ("CrateScaleLaw$Yard", "tolerance", "I", false)
  | 9 => ("CrateScaleLaw$Yard", "trust", "I", false)
  | 10 => ("CrateScaleLaw$Yard", "prices", "I", false)
  | _ => ("CrateScaleLaw$Yard", "refunds", "I", false)
def tyX14 : Nat → FieldType := fun k => match k with
  | 0 => .object "java/util/List"
  | 1 => .int
  | 2 => .int
  | 3 => .int
  | 4 => .int
  | 5 => .int
  | 6 => .int
  | 7 => .int
  | 8 => .int
  | 9 => .int
  | 10 => .int
  | _ => .int
abbrev wsX140 : List Cond := u_ws RX14 TX14 12
theorem nmX14 : ∀ a, a < 12 → ∀ b, b < 12 → a ≠ b → (TX14 a).2.1 ≠ (TX14 b).2.1 := by decide +kernel
theorem tyX14_ok : ∀ k, k < 12 → parseFieldDescriptor (TX14 k).2.2.1 = some (tyX14 k) := by decide +kernel
abbrev cX14_init : ByteArray := prog_16_method_1_code
def yX14_init : MethodName := ⟨RX14, "<init>", "()V"⟩
abbrev cX14_weighs : ByteArray := prog_16_method_2_code
def yX14_weighs : MethodName := ⟨RX14, "weighs", "(LCrateScaleLaw$Crate;)I"⟩
def RX15 : String := "CrateScaleModel"
def TX15 : u_T := fun k => match k with
  | _ => ("", "", "", false)
def tyX15 : Nat → FieldType := fun k => match k with
  | _ => .int
abbrev wsX150 : List Cond := u_ws RX15 TX15 0
theorem nmX15 : ∀ a, a < 0 → ∀ b, b < 0 → a ≠ b → (TX15 a).2.1 ≠ (TX15 b).2.1 := by decide +kernel
theorem tyX15_ok : ∀ k, k < 0 → parseFieldDescriptor (TX15 k).2.2.1 = some (tyX15 k) := by decide +kernel
def RJx145de : String := "java/io/Serializable"
def TJx145de : u_T := fun k => match k with
  | _ => ("", "", "", false)
def tyJx145de : Nat → FieldType := fun k => match k with
  | _ => .int
abbrev wsJx145de0 : List Cond := u_ws RJx145de TJx145de 0
theorem nmJx145de : ∀ a, a < 0 → ∀ b, b < 0 → a ≠ b → (TJx145de a).2.1 ≠ (TJx145de b).2.1 := by decide +kernel
theorem tyJx145de_ok : ∀ k, k < 0 → parseFieldDescriptor (TJx145de k).2.2.1 = some (tyJx145de k) := by decide +kernel
def RJ5 : String := "java/lang/AbstractStringBuilder"
def TJ5 : u_T := fun k => match k with
  | _ => ("", "", "", false)
def tyJ5 : Nat → FieldType := fun k => match k with
  | _ => .int
abbrev wsJ50 : List Cond := u_ws RJ5 TJ5 0
theorem nmJ5 : ∀ a, a < 0 → ∀ b, b < 0 → a ≠ b → (TJ5 a).2.1 ≠ (TJ5 b).2.1 := by decide +kernel
theorem tyJ5_ok : ∀ k, k < 0 → parseFieldDescriptor (TJ5 k).2.2.1 = some (tyJ5 k) := by decide +kernel
abbrev cJ5_init_d00df : ByteArray := prog_19_method_2_code
def yJ5_init_d00df : MethodName := ⟨RJ5, "<init>", "(I)V"⟩
abbrev cJ5_length_8abf5 : ByteArray := prog_19_method_6_code
def yJ5_length_8abf5 : MethodName := ⟨RJ5, "length", "()I"⟩
abbrev cJ5_ensureCapacityInternal_d00df : ByteArray := prog_19_method_9_code
def yJ5_ensureCapacityInternal_d00df : MethodName := ⟨RJ5, "ensureCapacityInternal", "(I)V"⟩
abbrev cJ5_newCapacity_0f7a4 : ByteArray := prog_19_method_10_code
def yJ5_newCapacity_0f7a4 : MethodName := ⟨RJ5, "newCapacity", "(I)I"⟩
abbrev cJ5_inflate_da8c8 : ByteArray := prog_19_method_11_code
def yJ5_inflate_da8c8 : MethodName := ⟨RJ5, "inflate", "()V"⟩
abbrev cJ5_append_cf1ce : ByteArray := prog_19_method_22_code
def yJ5_append_cf1ce : MethodName := ⟨RJ5, "append", "(Ljava/lang/String;)Ljava/lang/AbstractStringBuilder;"⟩
abbrev cJ5_appendNull_278bc : ByteArray := prog_19_method_26_code
def yJ5_appendNull_278bc : MethodName := ⟨RJ5, "appendNull", "()Ljava/lang/AbstractStringBuilder;"⟩
abbrev cJ5_append_3fe6f : ByteArray := prog_19_method_31_code
def yJ5_append_3fe6f : MethodName := ⟨RJ5, "append", "(C)Ljava/lang/AbstractStringBuilder;"⟩
abbrev cJ5_append_c97b9 : ByteArray := prog_19_method_32_code
def yJ5_append_c97b9 : MethodName := ⟨RJ5, "append", "(I)Ljava/lang/AbstractStringBuilder;"⟩
abbrev cJ5_getValue_6d5f1 : ByteArray := prog_19_method_64_code
def yJ5_getValue_6d5f1 : MethodName := ⟨RJ5, "getValue", "()[B"⟩
abbrev cJ5_isLatin1_aae02 : ByteArray := prog_19_method_68_code
def yJ5_isLatin1_aae02 : MethodName := ⟨RJ5, "isLatin1", "()Z"⟩
abbrev cJ5_inflateIfNeededFor_a7421 : ByteArray := prog_19_method_71_code
def yJ5_inflateIfNeededFor_a7421 : MethodName := ⟨RJ5, "inflateIfNeededFor", "(Ljava/lang/String;)V"⟩
abbrev cJ5_putStringAt_47b60 : ByteArray := prog_19_method_73_code
def yJ5_putStringAt_47b60 : MethodName := ⟨RJ5, "putStringAt", "(ILjava/lang/String;)V"⟩
def RJx2cfe8 : String := "java/lang/Appendable"
def TJx2cfe8 : u_T := fun k => match k with
  | _ => ("", "", "", false)
def tyJx2cfe8 : Nat → FieldType := fun k => match k with
  | _ => .int
abbrev wsJx2cfe80 : List Cond := u_ws RJx2cfe8 TJx2cfe8 0
theorem nmJx2cfe8 : ∀ a, a < 0 → ∀ b, b < 0 → a ≠ b → (TJx2cfe8 a).2.1 ≠ (TJx2cfe8 b).2.1 := by decide +kernel
theorem tyJx2cfe8_ok : ∀ k, k < 0 → parseFieldDescriptor (TJx2cfe8 k).2.2.1 = some (tyJx2cfe8 k) := by decide +kernel
def RJx9f9b0 : String := "java/lang/CharSequence"
def TJx9f9b0 : u_T := fun k => match k with
  | _ => ("", "", "", false)
def tyJx9f9b0 : Nat → FieldType := fun k => match k with
  | _ => .int
abbrev wsJx9f9b00 : List Cond := u_ws RJx9f9b0 TJx9f9b0 0
theorem nmJx9f9b0 : ∀ a, a < 0 → ∀ b, b < 0 → a ≠ b → (TJx9f9b0 a).2.1 ≠ (TJx9f9b0 b).2.1 := by decide +kernel
theorem tyJx9f9b0_ok : ∀ k, k < 0 → parseFieldDescriptor (TJx9f9b0 k).2.2.1 = some (tyJx9f9b0 k) := by decide +kernel
def RJx8e188 : String := "java/lang/Cloneable"
def TJx8e188 : u_T := fun k => match k with
  | _ => ("", "", "", false)
def tyJx8e188 : Nat → FieldType := fun k => match k with
  | _ => .int
abbrev wsJx8e1880 : List Cond := u_ws RJx8e188 TJx8e188 0
theorem nmJx8e188 : ∀ a, a < 0 → ∀ b, b < 0 → a ≠ b → (TJx8e188 a).2.1 ≠ (TJx8e188 b).2.1 := by decide +kernel
theorem tyJx8e188_ok : ∀ k, k < 0 → parseFieldDescriptor (TJx8e188 k).2.2.1 = some (tyJx8e188 k) := by decide +kernel
def RJxb160c : String := "java/lang/Comparable"
def TJxb160c : u_T := fun k => match k with
  | _ => ("", "", "", false)
def tyJxb160c : Nat → FieldType := fun k => match k with
  | _ => .int
abbrev wsJxb160c0 : List Cond := u_ws RJxb160c TJxb160c 0
theorem nmJxb160c : ∀ a, a < 0 → ∀ b, b < 0 → a ≠ b → (TJxb160c a).2.1 ≠ (TJxb160c b).2.1 := by decide +kernel
theorem tyJxb160c_ok : ∀ k, k < 0 → parseFieldDescriptor (TJxb160c k).2.2.1 = some (tyJxb160c k) := by decide +kernel
def RJx29ce0 : String := "java/lang/Enum"
def TJx29ce0 : u_T := fun k => match k with
  | _ => ("", "", "", false)
def tyJx29ce0 : Nat → FieldType := fun k => match k with
  | _ => .int
abbrev wsJx29ce00 : List Cond := u_ws RJx29ce0 TJx29ce0 0
theorem nmJx29ce0 : ∀ a, a < 0 → ∀ b, b < 0 → a ≠ b → (TJx29ce0 a).2.1 ≠ (TJx29ce0 b).2.1 := by decide +kernel
theorem tyJx29ce0_ok : ∀ k, k < 0 → parseFieldDescriptor (TJx29ce0 k).2.2.1 = some (tyJx29ce0 k) := by decide +kernel
def RJxabbfe : String := "java/lang/Integer$IntegerCache"
def TJxabbfe : u_T := fun k => match k with
  | _ => ("", "", "", false)
def tyJxabbfe : Nat → FieldType := fun k => match k with
  | _ => .int
abbrev wsJxabbfe0 : List Cond := u_ws RJxabbfe TJxabbfe 0
theorem nmJxabbfe : ∀ a, a < 0 → ∀ b, b < 0 → a ≠ b → (TJxabbfe a).2.1 ≠ (TJxabbfe b).2.1 := by decide +kernel
theorem tyJxabbfe_ok : ∀ k, k < 0 → parseFieldDescriptor (TJxabbfe k).2.2.1 = some (tyJxabbfe k) := by decide +kernel
def RJ6 : String := "java/lang/Integer"
def TJ6 : u_T := fun k => match k with
  | _ => ("java/lang/Integer", "value", "I", true)
def tyJ6 : Nat → FieldType := fun k => match k with
  | _ => .int
abbrev wsJ60 : List Cond := u_ws RJ6 TJ6 1
theorem nmJ6 : ∀ a, a < 1 → ∀ b, b < 1 → a ≠ b → (TJ6 a).2.1 ≠ (TJ6 b).2.1 := by decide +kernel
theorem tyJ6_ok : ∀ k, k < 1 → parseFieldDescriptor (TJ6 k).2.2.1 = some (tyJ6 k) := by decide +kernel
abbrev cJ6_getChars_ba4f3 : ByteArray := prog_29_method_12_code
def yJ6_getChars_ba4f3 : MethodName := ⟨RJ6, "getChars", "(II[B)I"⟩
abbrev cJ6_stringSize_0f7a4 : ByteArray := prog_29_method_13_code
def yJ6_stringSize_0f7a4 : MethodName := ⟨RJ6, "stringSize", "(I)I"⟩
abbrev cJ6_valueOf_2dffe : ByteArray := prog_29_method_22_code
def yJ6_valueOf_2dffe : MethodName := ⟨RJ6, "valueOf", "(I)Ljava/lang/Integer;"⟩
abbrev cJ6_init_d00df : ByteArray := prog_29_method_23_code
def yJ6_init_d00df : MethodName := ⟨RJ6, "<init>", "(I)V"⟩
abbrev cJ6_intValue_8abf5 : ByteArray := prog_29_method_27_code
def yJ6_intValue_8abf5 : MethodName := ⟨RJ6, "intValue", "()I"⟩
def RJxab1ab : String := "java/lang/Iterable"
def TJxab1ab : u_T := fun k => match k with
  | _ => ("", "", "", false)
def tyJxab1ab : Nat → FieldType := fun k => match k with
  | _ => .int
abbrev wsJxab1ab0 : List Cond := u_ws RJxab1ab TJxab1ab 0
theorem nmJxab1ab : ∀ a, a < 0 → ∀ b, b < 0 → a ≠ b → (TJxab1ab a).2.1 ≠ (TJxab1ab b).2.1 := by decide +kernel
theorem tyJxab1ab_ok : ∀ k, k < 0 → parseFieldDescriptor (TJxab1ab k).2.2.1 = some (tyJxab1ab k) := by decide +kernel
def RJ9 : String := "java/lang/Math"
def TJ9 : u_T := fun k => match k with
  | _ => ("", "", "", false)
def tyJ9 : Nat → FieldType := fun k => match k with
  | _ => .int
abbrev wsJ90 : List Cond := u_ws RJ9 TJ9 0
theorem nmJ9 : ∀ a, a < 0 → ∀ b, b < 0 → a ≠ b → (TJ9 a).2.1 ≠ (TJ9 b).2.1 := by decide +kernel
theorem tyJ9_ok : ∀ k, k < 0 → parseFieldDescriptor (TJ9 k).2.2.1 = some (tyJ9 k) := by decide +kernel
abbrev cJ9_floorDiv_f86c9 : ByteArray := prog_32_method_49_code
def yJ9_floorDiv_f86c9 : MethodName := ⟨RJ9, "floorDiv", "(JJ)J"⟩
abbrev cJ9_floorMod_7cf53 : ByteArray := prog_32_method_50_code
def yJ9_floorMod_7cf53 : MethodName := ⟨RJ9, "floorMod", "(II)I"⟩
abbrev cJ9_abs_0f7a4 : ByteArray := prog_32_method_59_code
def yJ9_abs_0f7a4 : MethodName := ⟨RJ9, "abs", "(I)I"⟩
abbrev cJ9_max_7cf53 : ByteArray := prog_32_method_65_code
def yJ9_max_7cf53 : MethodName := ⟨RJ9, "max", "(II)I"⟩
abbrev cJ9_min_7cf53 : ByteArray := prog_32_method_69_code
def yJ9_min_7cf53 : MethodName := ⟨RJ9, "min", "(II)I"⟩
def RJxd2413 : String := "java/lang/Number"
def TJxd2413 : u_T := fun k => match k with
  | _ => ("", "", "", false)
def tyJxd2413 : Nat → FieldType := fun k => match k with
  | _ => .int
abbrev wsJxd24130 : List Cond := u_ws RJxd2413 TJxd2413 0
theorem nmJxd2413 : ∀ a, a < 0 → ∀ b, b < 0 → a ≠ b → (TJxd2413 a).2.1 ≠ (TJxd2413 b).2.1 := by decide +kernel
theorem tyJxd2413_ok : ∀ k, k < 0 → parseFieldDescriptor (TJxd2413 k).2.2.1 = some (tyJxd2413 k) := by decide +kernel
abbrev cJxd2413_init_da8c8 : ByteArray := prog_33_method_1_code
def yJxd2413_init_da8c8 : MethodName := ⟨RJxd2413, "<init>", "()V"⟩
def RJ0 : String := "java/lang/String"
def TJ0 : u_T := fun k => match k with
  | 0 => ("java/lang/String", "value", "[B", true)
  | 1 => ("java/lang/String", "coder", "B", true)
  | 2 => ("java/lang/String", "hash", "I", false)
  | _ => ("java/lang/String", "hashIsZero", "Z", false)
def tyJ0 : Nat → FieldType := fun k => match k with
  | 0 => .array .byte
  | 1 => .byte
  | 2 => .int
  | _ => .boolean
abbrev wsJ00 : List Cond := u_ws RJ0 TJ0 4
theorem nmJ0 : ∀ a, a < 4 → ∀ b, b < 4 → a ≠ b → (TJ0 a).2.1 ≠ (TJ0 b).2.1 := by decide +kernel
theorem tyJ0_ok : ∀ k, k < 4 → parseFieldDescriptor (TJ0 k).2.2.1 = some (tyJ0 k) := by decide +kernel
abbrev cJ0_init_81219 : ByteArray := prog_35_method_53_code
def yJ0_init_81219 : MethodName := ⟨RJ0, "<init>", "(Ljava/lang/StringBuilder;)V"⟩
abbrev cJ0_length_8abf5 : ByteArray := prog_35_method_54_code
def yJ0_length_8abf5 : MethodName := ⟨RJ0, "length", "()I"⟩
abbrev cJ0_charAt_5068e : ByteArray := prog_35_method_56_code
def yJ0_charAt_5068e : MethodName := ⟨RJ0, "charAt", "(I)C"⟩
abbrev cJ0_getBytes_840e7 : ByteArray := prog_35_method_147_code
def yJ0_getBytes_840e7 : MethodName := ⟨RJ0, "getBytes", "([BIB)V"⟩
abbrev cJ0_init_db425 : ByteArray := prog_35_method_150_code
def yJ0_init_db425 : MethodName := ⟨RJ0, "<init>", "(Ljava/lang/AbstractStringBuilder;Ljava/lang/Void;)V"⟩
abbrev cJ0_coder_7d493 : ByteArray := prog_35_method_152_code
def yJ0_coder_7d493 : MethodName := ⟨RJ0, "coder", "()B"⟩
abbrev cJ0_isLatin1_aae02 : ByteArray := prog_35_method_154_code
def yJ0_isLatin1_aae02 : MethodName := ⟨RJ0, "isLatin1", "()Z"⟩
abbrev cJ0_checkIndex_df160 : ByteArray := prog_35_method_155_code
def yJ0_checkIndex_df160 : MethodName := ⟨RJ0, "checkIndex", "(II)V"⟩
abbrev cJ0_checkBoundsOffCount_cabcc : ByteArray := prog_35_method_157_code
def yJ0_checkBoundsOffCount_cabcc : MethodName := ⟨RJ0, "checkBoundsOffCount", "(III)I"⟩
abbrev cJ0_checkBoundsBeginEnd_23922 : ByteArray := prog_35_method_158_code
def yJ0_checkBoundsBeginEnd_23922 : MethodName := ⟨RJ0, "checkBoundsBeginEnd", "(III)V"⟩
def RJ4 : String := "java/lang/StringBuilder"
def TJ4 : u_T := fun k => match k with
  | 0 => ("java/lang/AbstractStringBuilder", "value", "[B", false)
  | 1 => ("java/lang/AbstractStringBuilder", "coder", "B", false)
  | 2 => ("java/lang/AbstractStringBuilder", "maybeLatin1", "Z", false)
  | _ => ("java/lang/AbstractStringBuilder", "count", "I", false)
def tyJ4 : Nat → FieldType := fun k => match k with
  | 0 => .array .byte
  | 1 => .byte
  | 2 => .boolean
  | _ => .int
abbrev wsJ40 : List Cond := u_ws RJ4 TJ4 4
theorem nmJ4 : ∀ a, a < 4 → ∀ b, b < 4 → a ≠ b → (TJ4 a).2.1 ≠ (TJ4 b).2.1 := by decide +kernel
theorem tyJ4_ok : ∀ k, k < 4 → parseFieldDescriptor (TJ4 k).2.2.1 = some (tyJ4 k) := by decide +kernel
abbrev cJ4_init_da8c8 : ByteArray := prog_36_method_1_code
def yJ4_init_da8c8 : MethodName := ⟨RJ4, "<init>", "()V"⟩
abbrev cJ4_append_15ec4 : ByteArray := prog_36_method_7_code
def yJ4_append_15ec4 : MethodName := ⟨RJ4, "append", "(Ljava/lang/String;)Ljava/lang/StringBuilder;"⟩
abbrev cJ4_append_cf468 : ByteArray := prog_36_method_14_code
def yJ4_append_cf468 : MethodName := ⟨RJ4, "append", "(C)Ljava/lang/StringBuilder;"⟩
abbrev cJ4_append_bf812 : ByteArray := prog_36_method_15_code
def yJ4_append_bf812 : MethodName := ⟨RJ4, "append", "(I)Ljava/lang/StringBuilder;"⟩
abbrev cJ4_toString_0e30d : ByteArray := prog_36_method_42_code
def yJ4_toString_0e30d : MethodName := ⟨RJ4, "toString", "()Ljava/lang/String;"⟩
abbrev cJ4_length_8abf5 : ByteArray := prog_36_method_93_code
def yJ4_length_8abf5 : MethodName := ⟨RJ4, "length", "()I"⟩
def RJ1 : String := "java/lang/StringLatin1"
def TJ1 : u_T := fun k => match k with
  | _ => ("", "", "", false)
def tyJ1 : Nat → FieldType := fun k => match k with
  | _ => .int
abbrev wsJ10 : List Cond := u_ws RJ1 TJ1 0
theorem nmJ1 : ∀ a, a < 0 → ∀ b, b < 0 → a ≠ b → (TJ1 a).2.1 ≠ (TJ1 b).2.1 := by decide +kernel
theorem tyJ1_ok : ∀ k, k < 0 → parseFieldDescriptor (TJ1 k).2.2.1 = some (tyJ1 k) := by decide +kernel
abbrev cJ1_charAt_3b067 : ByteArray := prog_37_method_2_code
def yJ1_charAt_3b067 : MethodName := ⟨RJ1, "charAt", "([BI)C"⟩
abbrev cJ1_canEncode_fc78d : ByteArray := prog_37_method_3_code
def yJ1_canEncode_fc78d : MethodName := ⟨RJ1, "canEncode", "(C)Z"⟩
abbrev cJ1_inflate_0e8fd : ByteArray := prog_37_method_50_code
def yJ1_inflate_0e8fd : MethodName := ⟨RJ1, "inflate", "([BI[BII)V"⟩
def RJ2 : String := "java/lang/StringUTF16"
def TJ2 : u_T := fun k => match k with
  | _ => ("", "", "", false)
def tyJ2 : Nat → FieldType := fun k => match k with
  | _ => .int
abbrev wsJ20 : List Cond := u_ws RJ2 TJ2 0
theorem nmJ2 : ∀ a, a < 0 → ∀ b, b < 0 → a ≠ b → (TJ2 a).2.1 ≠ (TJ2 b).2.1 := by decide +kernel
theorem tyJ2_ok : ∀ k, k < 0 → parseFieldDescriptor (TJ2 k).2.2.1 = some (tyJ2 k) := by decide +kernel
abbrev cJ2_newBytesFor_77867 : ByteArray := prog_38_method_2_code
def yJ2_newBytesFor_77867 : MethodName := ⟨RJ2, "newBytesFor", "(I)[B"⟩
abbrev cJ2_newBytesLength_0f7a4 : ByteArray := prog_38_method_3_code
def yJ2_newBytesLength_0f7a4 : MethodName := ⟨RJ2, "newBytesLength", "(I)I"⟩
abbrev cJ2_putChar_b72d1 : ByteArray := prog_38_method_4_code
def yJ2_putChar_b72d1 : MethodName := ⟨RJ2, "putChar", "([BII)V"⟩
abbrev cJ2_getChar_3b067 : ByteArray := prog_38_method_5_code
def yJ2_getChar_3b067 : MethodName := ⟨RJ2, "getChar", "([BI)C"⟩
abbrev cJ2_length_9d52b : ByteArray := prog_38_method_6_code
def yJ2_length_9d52b : MethodName := ⟨RJ2, "length", "([B)I"⟩
abbrev cJ2_coderFromArrayLen_85cad : ByteArray := prog_38_method_15_code
def yJ2_coderFromArrayLen_85cad : MethodName := ⟨RJ2, "coderFromArrayLen", "([BI)B"⟩
abbrev cJ2_compress_39247 : ByteArray := prog_38_method_17_code
def yJ2_compress_39247 : MethodName := ⟨RJ2, "compress", "([BII)[B"⟩
abbrev cJ2_compress_5af95 : ByteArray := prog_38_method_22_code
def yJ2_compress_5af95 : MethodName := ⟨RJ2, "compress", "([BI[BII)I"⟩
abbrev cJ2_putCharSB_b72d1 : ByteArray := prog_38_method_71_code
def yJ2_putCharSB_b72d1 : MethodName := ⟨RJ2, "putCharSB", "([BII)V"⟩
abbrev cJ2_getChars_46870 : ByteArray := prog_38_method_77_code
def yJ2_getChars_46870 : MethodName := ⟨RJ2, "getChars", "(III[B)I"⟩
abbrev cJ2_putCharsAt_cd4e5 : ByteArray := prog_38_method_81_code
def yJ2_putCharsAt_cd4e5 : MethodName := ⟨RJ2, "putCharsAt", "([BICCCC)I"⟩
abbrev cJ2_charAt_3b067 : ByteArray := prog_38_method_83_code
def yJ2_charAt_3b067 : MethodName := ⟨RJ2, "charAt", "([BI)C"⟩
abbrev cJ2_inflate_0e8fd : ByteArray := prog_38_method_86_code
def yJ2_inflate_0e8fd : MethodName := ⟨RJ2, "inflate", "([BI[BII)V"⟩
abbrev cJ2_getChars_ba4f3 : ByteArray := prog_38_method_89_code
def yJ2_getChars_ba4f3 : MethodName := ⟨RJ2, "getChars", "(II[B)I"⟩
abbrev cJ2_checkIndex_2214a : ByteArray := prog_38_method_91_code
def yJ2_checkIndex_2214a : MethodName := ⟨RJ2, "checkIndex", "(I[B)V"⟩
abbrev cJ2_checkBoundsBeginEnd_d044e : ByteArray := prog_38_method_93_code
def yJ2_checkBoundsBeginEnd_d044e : MethodName := ⟨RJ2, "checkBoundsBeginEnd", "(II[B)V"⟩
abbrev cJ2_checkBoundsOffCount_d044e : ByteArray := prog_38_method_94_code
def yJ2_checkBoundsOffCount_d044e : MethodName := ⟨RJ2, "checkBoundsOffCount", "(II[B)V"⟩
def RJ10 : String := "java/lang/System"
def TJ10 : u_T := fun k => match k with
  | _ => ("", "", "", false)
def tyJ10 : Nat → FieldType := fun k => match k with
  | _ => .int
abbrev wsJ100 : List Cond := u_ws RJ10 TJ10 0
theorem nmJ10 : ∀ a, a < 0 → ∀ b, b < 0 → a ≠ b → (TJ10 a).2.1 ≠ (TJ10 b).2.1 := by decide +kernel
theorem tyJ10_ok : ∀ k, k < 0 → parseFieldDescriptor (TJ10 k).2.2.1 = some (tyJ10 k) := by decide +kernel
def RJxfd54e : String := "java/lang/constant/Constable"
def TJxfd54e : u_T := fun k => match k with
  | _ => ("", "", "", false)
def tyJxfd54e : Nat → FieldType := fun k => match k with
  | _ => .int
abbrev wsJxfd54e0 : List Cond := u_ws RJxfd54e TJxfd54e 0
theorem nmJxfd54e : ∀ a, a < 0 → ∀ b, b < 0 → a ≠ b → (TJxfd54e a).2.1 ≠ (TJxfd54e b).2.1 := by decide +kernel
theorem tyJxfd54e_ok : ∀ k, k < 0 → parseFieldDescriptor (TJxfd54e k).2.2.1 = some (tyJxfd54e k) := by decide +kernel
def RJx3cf43 : String := "java/lang/constant/ConstantDesc"
def TJx3cf43 : u_T := fun k => match k with
  | _ => ("", "", "", false)
def tyJx3cf43 : Nat → FieldType := fun k => match k with
  | _ => .int
abbrev wsJx3cf430 : List Cond := u_ws RJx3cf43 TJx3cf43 0
theorem nmJx3cf43 : ∀ a, a < 0 → ∀ b, b < 0 → a ≠ b → (TJx3cf43 a).2.1 ≠ (TJx3cf43 b).2.1 := by decide +kernel
theorem tyJx3cf43_ok : ∀ k, k < 0 → parseFieldDescriptor (TJx3cf43 k).2.2.1 = some (tyJx3cf43 k) := by decide +kernel
def RJxa1e45 : String := "java/util/AbstractCollection"
def TJxa1e45 : u_T := fun k => match k with
  | _ => ("", "", "", false)
def tyJxa1e45 : Nat → FieldType := fun k => match k with
  | _ => .int
abbrev wsJxa1e450 : List Cond := u_ws RJxa1e45 TJxa1e45 0
theorem nmJxa1e45 : ∀ a, a < 0 → ∀ b, b < 0 → a ≠ b → (TJxa1e45 a).2.1 ≠ (TJxa1e45 b).2.1 := by decide +kernel
theorem tyJxa1e45_ok : ∀ k, k < 0 → parseFieldDescriptor (TJxa1e45 k).2.2.1 = some (tyJxa1e45 k) := by decide +kernel
abbrev cJxa1e45_init_da8c8 : ByteArray := prog_43_method_1_code
def yJxa1e45_init_da8c8 : MethodName := ⟨RJxa1e45, "<init>", "()V"⟩
def RJxc12de : String := "java/util/AbstractList"
def TJxc12de : u_T := fun k => match k with
  | _ => ("", "", "", false)
def tyJxc12de : Nat → FieldType := fun k => match k with
  | _ => .int
abbrev wsJxc12de0 : List Cond := u_ws RJxc12de TJxc12de 0
theorem nmJxc12de : ∀ a, a < 0 → ∀ b, b < 0 → a ≠ b → (TJxc12de a).2.1 ≠ (TJxc12de b).2.1 := by decide +kernel
theorem tyJxc12de_ok : ∀ k, k < 0 → parseFieldDescriptor (TJxc12de k).2.2.1 = some (tyJxc12de k) := by decide +kernel
abbrev cJxc12de_init_da8c8 : ByteArray := prog_44_method_1_code
def yJxc12de_init_da8c8 : MethodName := ⟨RJxc12de, "<init>", "()V"⟩
def RJx35411 : String := "java/util/ArrayList$Itr"
def TJx35411 : u_T := fun k => match k with
  | 0 => ("java/util/ArrayList$Itr", "cursor", "I", false)
  | 1 => ("java/util/ArrayList$Itr", "lastRet", "I", false)
  | 2 => ("java/util/ArrayList$Itr", "expectedModCount", "I", false)
  | _ => ("java/util/ArrayList$Itr", "this$0", "Ljava/util/ArrayList;", true)
def tyJx35411 : Nat → FieldType := fun k => match k with
  | 0 => .int
  | 1 => .int
  | 2 => .int
  | _ => .object "java/util/ArrayList"
abbrev wsJx354110 : List Cond := u_ws RJx35411 TJx35411 4
theorem nmJx35411 : ∀ a, a < 4 → ∀ b, b < 4 → a ≠ b → (TJx35411 a).2.1 ≠ (TJx35411 b).2.1 := by decide +kernel
theorem tyJx35411_ok : ∀ k, k < 4 → parseFieldDescriptor (TJx35411 k).2.2.1 = some (tyJx35411 k) := by decide +kernel
abbrev cJx35411_init_45d68 : ByteArray := prog_46_method_1_code
def yJx35411_init_45d68 : MethodName := ⟨RJx35411, "<init>", "(Ljava/util/ArrayList;)V"⟩
abbrev cJx35411_hasNext_aae02 : ByteArray := prog_46_method_2_code
def yJx35411_hasNext_aae02 : MethodName := ⟨RJx35411, "hasNext", "()Z"⟩
abbrev cJx35411_next_0502b : ByteArray := prog_46_method_3_code
def yJx35411_next_0502b : MethodName := ⟨RJx35411, "next", "()Ljava/lang/Object;"⟩
abbrev cJx35411_checkForComodification_da8c8 : ByteArray := prog_46_method_6_code
def yJx35411_checkForComodification_da8c8 : MethodName := ⟨RJx35411, "checkForComodification", "()V"⟩
def RJx4a65c : String := "java/util/ArrayList"
def TJx4a65c : u_T := fun k => match k with
  | 0 => ("java/util/AbstractList", "modCount", "I", false)
  | 1 => ("java/util/ArrayList", "elementData", "[Ljava/lang/Object;", false)
  | _ => ("java/util/ArrayList", "size", "I", false)
def tyJx4a65c : Nat → FieldType := fun k => match k with
  | 0 => .int
  | 1 => .array (.object "java/lang/Object")
  | _ => .int
abbrev wsJx4a65c0 : List Cond := u_ws RJx4a65c TJx4a65c 3
theorem nmJx4a65c : ∀ a, a < 3 → ∀ b, b < 3 → a ≠ b → (TJx4a65c a).2.1 ≠ (TJx4a65c b).2.1 := by decide +kernel
theorem tyJx4a65c_ok : ∀ k, k < 3 → parseFieldDescriptor (TJx4a65c k).2.2.1 = some (tyJx4a65c k) := by decide +kernel
abbrev cJx4a65c_init_da8c8 : ByteArray := prog_45_method_2_code
def yJx4a65c_init_da8c8 : MethodName := ⟨RJx4a65c, "<init>", "()V"⟩
abbrev cJx4a65c_grow_92f84 : ByteArray := prog_45_method_6_code
def yJx4a65c_grow_92f84 : MethodName := ⟨RJx4a65c, "grow", "(I)[Ljava/lang/Object;"⟩
abbrev cJx4a65c_grow_d5877 : ByteArray := prog_45_method_7_code
def yJx4a65c_grow_d5877 : MethodName := ⟨RJx4a65c, "grow", "()[Ljava/lang/Object;"⟩
abbrev cJx4a65c_size_8abf5 : ByteArray := prog_45_method_8_code
def yJx4a65c_size_8abf5 : MethodName := ⟨RJx4a65c, "size", "()I"⟩
abbrev cJx4a65c_isEmpty_aae02 : ByteArray := prog_45_method_9_code
def yJx4a65c_isEmpty_aae02 : MethodName := ⟨RJx4a65c, "isEmpty", "()Z"⟩
abbrev cJx4a65c_elementData_915e3 : ByteArray := prog_45_method_18_code
def yJx4a65c_elementData_915e3 : MethodName := ⟨RJx4a65c, "elementData", "(I)Ljava/lang/Object;"⟩
abbrev cJx4a65c_get_915e3 : ByteArray := prog_45_method_20_code
def yJx4a65c_get_915e3 : MethodName := ⟨RJx4a65c, "get", "(I)Ljava/lang/Object;"⟩
abbrev cJx4a65c_add_72be8 : ByteArray := prog_45_method_24_code
def yJx4a65c_add_72be8 : MethodName := ⟨RJx4a65c, "add", "(Ljava/lang/Object;[Ljava/lang/Object;I)V"⟩
abbrev cJx4a65c_add_9ea2d : ByteArray := prog_45_method_25_code
def yJx4a65c_add_9ea2d : MethodName := ⟨RJx4a65c, "add", "(Ljava/lang/Object;)Z"⟩
abbrev cJx4a65c_remove_915e3 : ByteArray := prog_45_method_29_code
def yJx4a65c_remove_915e3 : MethodName := ⟨RJx4a65c, "remove", "(I)Ljava/lang/Object;"⟩
abbrev cJx4a65c_fastRemove_b59b0 : ByteArray := prog_45_method_39_code
def yJx4a65c_fastRemove_b59b0 : MethodName := ⟨RJx4a65c, "fastRemove", "([Ljava/lang/Object;I)V"⟩
abbrev cJx4a65c_clear_da8c8 : ByteArray := prog_45_method_40_code
def yJx4a65c_clear_da8c8 : MethodName := ⟨RJx4a65c, "clear", "()V"⟩
abbrev cJx4a65c_iterator_32c93 : ByteArray := prog_45_method_55_code
def yJx4a65c_iterator_32c93 : MethodName := ⟨RJx4a65c, "iterator", "()Ljava/util/Iterator;"⟩
def RJ7 : String := "java/util/Arrays"
def TJ7 : u_T := fun k => match k with
  | _ => ("", "", "", false)
def tyJ7 : Nat → FieldType := fun k => match k with
  | _ => .int
abbrev wsJ70 : List Cond := u_ws RJ7 TJ7 0
theorem nmJ7 : ∀ a, a < 0 → ∀ b, b < 0 → a ≠ b → (TJ7 a).2.1 ≠ (TJ7 b).2.1 := by decide +kernel
theorem tyJ7_ok : ∀ k, k < 0 → parseFieldDescriptor (TJ7 k).2.2.1 = some (tyJ7 k) := by decide +kernel
abbrev cJ7_copyOf_1904c : ByteArray := prog_47_method_119_code
def yJ7_copyOf_1904c : MethodName := ⟨RJ7, "copyOf", "([Ljava/lang/Object;I)[Ljava/lang/Object;"⟩
abbrev cJ7_copyOf_6403c : ByteArray := prog_47_method_120_code
def yJ7_copyOf_6403c : MethodName := ⟨RJ7, "copyOf", "([Ljava/lang/Object;ILjava/lang/Class;)[Ljava/lang/Object;"⟩
abbrev cJ7_copyOf_9075b : ByteArray := prog_47_method_121_code
def yJ7_copyOf_9075b : MethodName := ⟨RJ7, "copyOf", "([BI)[B"⟩
abbrev cJ7_checkLength_df160 : ByteArray := prog_47_method_131_code
def yJ7_checkLength_df160 : MethodName := ⟨RJ7, "checkLength", "(II)V"⟩
abbrev cJ7_copyOfRange_39247 : ByteArray := prog_47_method_132_code
def yJ7_copyOfRange_39247 : MethodName := ⟨RJ7, "copyOfRange", "([BII)[B"⟩
abbrev cJ7_copyOfRangeByte_39247 : ByteArray := prog_47_method_133_code
def yJ7_copyOfRangeByte_39247 : MethodName := ⟨RJ7, "copyOfRangeByte", "([BII)[B"⟩
def RJx5ef63 : String := "java/util/Collection"
def TJx5ef63 : u_T := fun k => match k with
  | _ => ("", "", "", false)
def tyJx5ef63 : Nat → FieldType := fun k => match k with
  | _ => .int
abbrev wsJx5ef630 : List Cond := u_ws RJx5ef63 TJx5ef63 0
theorem nmJx5ef63 : ∀ a, a < 0 → ∀ b, b < 0 → a ≠ b → (TJx5ef63 a).2.1 ≠ (TJx5ef63 b).2.1 := by decide +kernel
theorem tyJx5ef63_ok : ∀ k, k < 0 → parseFieldDescriptor (TJx5ef63 k).2.2.1 = some (tyJx5ef63 k) := by decide +kernel
def RJx4d0d8 : String := "java/util/Iterator"
def TJx4d0d8 : u_T := fun k => match k with
  | _ => ("", "", "", false)
def tyJx4d0d8 : Nat → FieldType := fun k => match k with
  | _ => .int
abbrev wsJx4d0d80 : List Cond := u_ws RJx4d0d8 TJx4d0d8 0
theorem nmJx4d0d8 : ∀ a, a < 0 → ∀ b, b < 0 → a ≠ b → (TJx4d0d8 a).2.1 ≠ (TJx4d0d8 b).2.1 := by decide +kernel
theorem tyJx4d0d8_ok : ∀ k, k < 0 → parseFieldDescriptor (TJx4d0d8 k).2.2.1 = some (tyJx4d0d8 k) := by decide +kernel
def RJxbd725 : String := "java/util/List"
def TJxbd725 : u_T := fun k => match k with
  | _ => ("", "", "", false)
def tyJxbd725 : Nat → FieldType := fun k => match k with
  | _ => .int
abbrev wsJxbd7250 : List Cond := u_ws RJxbd725 TJxbd725 0
theorem nmJxbd725 : ∀ a, a < 0 → ∀ b, b < 0 → a ≠ b → (TJxbd725 a).2.1 ≠ (TJxbd725 b).2.1 := by decide +kernel
theorem tyJxbd725_ok : ∀ k, k < 0 → parseFieldDescriptor (TJxbd725 k).2.2.1 = some (tyJxbd725 k) := by decide +kernel
def RJ15 : String := "java/util/Objects"
def TJ15 : u_T := fun k => match k with
  | _ => ("", "", "", false)
def tyJ15 : Nat → FieldType := fun k => match k with
  | _ => .int
abbrev wsJ150 : List Cond := u_ws RJ15 TJ15 0
theorem nmJ15 : ∀ a, a < 0 → ∀ b, b < 0 → a ≠ b → (TJ15 a).2.1 ≠ (TJ15 b).2.1 := by decide +kernel
theorem tyJ15_ok : ∀ k, k < 0 → parseFieldDescriptor (TJ15 k).2.2.1 = some (tyJ15 k) := by decide +kernel
abbrev cJ15_checkIndex_7cf53 : ByteArray := prog_52_method_17_code
def yJ15_checkIndex_7cf53 : MethodName := ⟨RJ15, "checkIndex", "(II)I"⟩
def RJxf0a74 : String := "java/util/RandomAccess"
def TJxf0a74 : u_T := fun k => match k with
  | _ => ("", "", "", false)
def tyJxf0a74 : Nat → FieldType := fun k => match k with
  | _ => .int
abbrev wsJxf0a740 : List Cond := u_ws RJxf0a74 TJxf0a74 0
theorem nmJxf0a74 : ∀ a, a < 0 → ∀ b, b < 0 → a ≠ b → (TJxf0a74 a).2.1 ≠ (TJxf0a74 b).2.1 := by decide +kernel
theorem tyJxf0a74_ok : ∀ k, k < 0 → parseFieldDescriptor (TJxf0a74 k).2.2.1 = some (tyJxf0a74 k) := by decide +kernel
def RJxa66e6 : String := "java/util/SequencedCollection"
def TJxa66e6 : u_T := fun k => match k with
  | _ => ("", "", "", false)
def tyJxa66e6 : Nat → FieldType := fun k => match k with
  | _ => .int
abbrev wsJxa66e60 : List Cond := u_ws RJxa66e6 TJxa66e6 0
theorem nmJxa66e6 : ∀ a, a < 0 → ∀ b, b < 0 → a ≠ b → (TJxa66e6 a).2.1 ≠ (TJxa66e6 b).2.1 := by decide +kernel
theorem tyJxa66e6_ok : ∀ k, k < 0 → parseFieldDescriptor (TJxa66e6 k).2.2.1 = some (tyJxa66e6 k) := by decide +kernel
def RJ8 : String := "jdk/internal/util/ArraysSupport"
def TJ8 : u_T := fun k => match k with
  | _ => ("", "", "", false)
def tyJ8 : Nat → FieldType := fun k => match k with
  | _ => .int
abbrev wsJ80 : List Cond := u_ws RJ8 TJ8 0
theorem nmJ8 : ∀ a, a < 0 → ∀ b, b < 0 → a ≠ b → (TJ8 a).2.1 ≠ (TJ8 b).2.1 := by decide +kernel
theorem tyJ8_ok : ∀ k, k < 0 → parseFieldDescriptor (TJ8 k).2.2.1 = some (tyJ8 k) := by decide +kernel
abbrev cJ8_newLength_cabcc : ByteArray := prog_55_method_27_code
def yJ8_newLength_cabcc : MethodName := ⟨RJ8, "newLength", "(III)I"⟩
abbrev cJ8_hugeLength_7cf53 : ByteArray := prog_55_method_28_code
def yJ8_hugeLength_7cf53 : MethodName := ⟨RJ8, "hugeLength", "(II)I"⟩
def RJ3 : String := "jdk/internal/util/Preconditions"
def TJ3 : u_T := fun k => match k with
  | _ => ("", "", "", false)
def tyJ3 : Nat → FieldType := fun k => match k with
  | _ => .int
abbrev wsJ30 : List Cond := u_ws RJ3 TJ3 0
theorem nmJ3 : ∀ a, a < 0 → ∀ b, b < 0 → a ≠ b → (TJ3 a).2.1 ≠ (TJ3 b).2.1 := by decide +kernel
theorem tyJ3_ok : ∀ k, k < 0 → parseFieldDescriptor (TJ3 k).2.2.1 = some (tyJ3 k) := by decide +kernel
abbrev cJ3_checkIndex_8e157 : ByteArray := prog_56_method_11_code
def yJ3_checkIndex_8e157 : MethodName := ⟨RJ3, "checkIndex", "(IILjava/util/function/BiFunction;)I"⟩
abbrev cJ3_checkFromToIndex_8c36e : ByteArray := prog_56_method_12_code
def yJ3_checkFromToIndex_8c36e : MethodName := ⟨RJ3, "checkFromToIndex", "(IIILjava/util/function/BiFunction;)I"⟩
abbrev cJ3_checkFromIndexSize_8c36e : ByteArray := prog_56_method_13_code
def yJ3_checkFromIndexSize_8c36e : MethodName := ⟨RJ3, "checkFromIndexSize", "(IIILjava/util/function/BiFunction;)I"⟩
def RL : String := "CrateScaleLaw"
abbrev cL_cell : ByteArray := method_2_code
def yL_cell : MethodName := ⟨RL, "cell", "([II)I"⟩
abbrev cL_bits : ByteArray := method_3_code
def yL_bits : MethodName := ⟨RL, "bits", "(III)I"⟩
abbrev cL_told : ByteArray := method_4_code
def yL_told : MethodName := ⟨RL, "told", "(LCrateScale;Ljava/lang/String;)V"⟩
abbrev cL_isWhole : ByteArray := method_5_code
def yL_isWhole : MethodName := ⟨RL, "isWhole", "(LCrateScale;LCrateScaleLaw$Yard;)Z"⟩
abbrev cL_event : ByteArray := method_6_code
def yL_event : MethodName := ⟨RL, "event", "(LCrateScale;LCrateScaleLaw$Yard;I)Z"⟩
abbrev cL_drops : ByteArray := method_7_code
def yL_drops : MethodName := ⟨RL, "drops", "(Ljava/util/List;LCrateScaleLaw$Crate;)V"⟩
abbrev cL_isSold : ByteArray := method_8_code
def yL_isSold : MethodName := ⟨RL, "isSold", "(LCrateScale;LCrateScaleLaw$Yard;LCrateScaleLaw$Crate;)Z"⟩
abbrev cL_law : ByteArray := code
def yL_law : MethodName := ⟨RL, "law", "([I)Z"⟩
