def RX0 : String := "SealHouse$Desk"
def TX0 : u_T := fun k => match k with
  | 0 => ("SealHouse$Desk", "quotient", "LSealHouse$Whole;", true)
  | 1 => ("SealHouse$Desk", "divisor", "LSealHouse$Whole;", true)
  | 2 => ("SealHouse$Desk", "lift", "I", false)
  | 3 => ("SealHouse$Desk", "dividend", "LSealHouse$Whole;", true)
  | 4 => ("SealHouse$Desk", "factor", "LSealHouse$Whole;", true)
  | 5 => ("SealHouse$Desk", "powerA", "LSealHouse$Whole;", true)
  | 6 => ("SealHouse$Desk", "powerB", "LSealHouse$Whole;", true)
  | 7 => ("SealHouse$Desk", "euclidA", "LSealHouse$Whole;", true)
  | 8 => ("SealHouse$Desk", "euclidB", "LSealHouse$Whole;", true)
  | 9 => ("SealHouse$Desk", "euclidC", "LSealHouse$Whole;", true)
  | 10 => ("SealHouse$Desk", "timesA", "LSealHouse$Whole;", true)
  | 11 => ("SealHouse$Desk", "timesB", "LSealHouse$Whole;", true)
  | 12 => ("SealHouse$Desk", "timesC", "LSealHouse$Whole;", true)
  | 13 => ("SealHouse$Desk", "less", "LSealHouse$Whole;", true)
  | 14 => ("SealHouse$Desk", "odd", "LSealHouse$Whole;", true)
  | 15 => ("SealHouse$Desk", "base", "LSealHouse$Whole;", true)
  | _ => ("SealHouse$Desk", "witness", "LSealHouse$Whole;", true)
def tyX0 : Nat → FieldType := fun k => match k with
  | 0 => .object "SealHouse$Whole"
  | 1 => .object "SealHouse$Whole"
  | 2 => .int
  | 3 => .object "SealHouse$Whole"
  | 4 => .object "SealHouse$Whole"
  | 5 => .object "SealHouse$Whole"
  | 6 => .object "SealHouse$Whole"
  | 7 => .object "SealHouse$Whole"
  | 8 => .object "SealHouse$Whole"
  | 9 => .object "SealHouse$Whole"
  | 10 => .object "SealHouse$Whole"
  | 11 => .object "SealHouse$Whole"
  | 12 => .object "SealHouse$Whole"
  | 13 => .object "SealHouse$Whole"
  | 14 => .object "SealHouse$Whole"
  | 15 => .object "SealHouse$Whole"
  | _ => .object "SealHouse$Whole"
theorem nmX0 : ∀ a, a < 17 → ∀ b, b < 17 → a ≠ b → (TX0 a).2.1 ≠ (TX0 b).2.1 := by decide +kernel
theorem tyX0_ok : ∀ k, k < 17 → parseFieldDescriptor (TX0 k).2.2.1 = some (tyX0 k) := by decide +kernel
abbrev cX0_init : ByteArray := prog_2_method_1_code
def yX0_init : MethodName := ⟨RX0, "<init>", "()V"⟩
abbrev cX0_multiply : ByteArray := prog_2_method_2_code
def yX0_multiply : MethodName := ⟨RX0, "multiply", "(LSealHouse$Whole;LSealHouse$Whole;LSealHouse$Whole;)Z"⟩
abbrev cX0_divide : ByteArray := prog_2_method_3_code
def yX0_divide : MethodName := ⟨RX0, "divide", "(LSealHouse$Whole;LSealHouse$Whole;LSealHouse$Whole;)V"⟩
abbrev cX0_setDivisor : ByteArray := prog_2_method_4_code
def yX0_setDivisor : MethodName := ⟨RX0, "setDivisor", "(LSealHouse$Whole;)V"⟩
abbrev cX0_reduce : ByteArray := prog_2_method_5_code
def yX0_reduce : MethodName := ⟨RX0, "reduce", "(LSealHouse$Whole;)V"⟩
abbrev cX0_guessDigit : ByteArray := prog_2_method_6_code
def yX0_guessDigit : MethodName := ⟨RX0, "guessDigit", "(LSealHouse$Whole;I)J"⟩
abbrev cX0_takeAway : ByteArray := prog_2_method_7_code
def yX0_takeAway : MethodName := ⟨RX0, "takeAway", "(LSealHouse$Whole;JI)Z"⟩
abbrev cX0_putBack : ByteArray := prog_2_method_8_code
def yX0_putBack : MethodName := ⟨RX0, "putBack", "(LSealHouse$Whole;I)V"⟩
abbrev cX0_findDivisor : ByteArray := prog_2_method_9_code
def yX0_findDivisor : MethodName := ⟨RX0, "findDivisor", "(LSealHouse$Whole;LSealHouse$Whole;LSealHouse$Whole;)V"⟩
abbrev cX0_findMultiple : ByteArray := prog_2_method_10_code
def yX0_findMultiple : MethodName := ⟨RX0, "findMultiple", "(LSealHouse$Whole;LSealHouse$Whole;LSealHouse$Whole;)Z"⟩
abbrev cX0_invert : ByteArray := prog_2_method_11_code
def yX0_invert : MethodName := ⟨RX0, "invert", "(LSealHouse$Whole;LSealHouse$Whole;LSealHouse$Whole;)Z"⟩
abbrev cX0_power : ByteArray := prog_2_method_12_code
def yX0_power : MethodName := ⟨RX0, "power", "(LSealHouse$Whole;LSealHouse$Whole;LSealHouse$Whole;LSealHouse$Whole;)V"⟩
abbrev cX0_isProbable : ByteArray := prog_2_method_13_code
def yX0_isProbable : MethodName := ⟨RX0, "isProbable", "(LSealHouse$Whole;)Z"⟩
abbrev cX0_isBase : ByteArray := prog_2_method_14_code
def yX0_isBase : MethodName := ⟨RX0, "isBase", "(J)Z"⟩
abbrev cX0_hasBaseAsDivisor : ByteArray := prog_2_method_15_code
def yX0_hasBaseAsDivisor : MethodName := ⟨RX0, "hasBaseAsDivisor", "(LSealHouse$Whole;)Z"⟩
abbrev cX0_isWitnessed : ByteArray := prog_2_method_16_code
def yX0_isWitnessed : MethodName := ⟨RX0, "isWitnessed", "(LSealHouse$Whole;I)Z"⟩
def RX1 : String := "SealHouse$Digester"
def TX1 : u_T := fun k => match k with
  | 0 => ("SealHouse$Digester", "words", "[I", true)
  | 1 => ("SealHouse$Digester", "state", "[I", true)
  | 2 => ("SealHouse$Digester", "mixed", "[I", true)
  | 3 => ("SealHouse$Digester", "counted", "LSealHouse$Row;", true)
  | _ => ("SealHouse$Digester", "piece", "LSealHouse$Row;", true)
def tyX1 : Nat → FieldType := fun k => match k with
  | 0 => .array .int
  | 1 => .array .int
  | 2 => .array .int
  | 3 => .object "SealHouse$Row"
  | _ => .object "SealHouse$Row"
theorem nmX1 : ∀ a, a < 5 → ∀ b, b < 5 → a ≠ b → (TX1 a).2.1 ≠ (TX1 b).2.1 := by decide +kernel
theorem tyX1_ok : ∀ k, k < 5 → parseFieldDescriptor (TX1 k).2.2.1 = some (tyX1 k) := by decide +kernel
abbrev cX1_init : ByteArray := prog_3_method_1_code
def yX1_init : MethodName := ⟨RX1, "<init>", "()V"⟩
abbrev cX1_lengthOf : ByteArray := prog_3_method_2_code
def yX1_lengthOf : MethodName := ⟨RX1, "lengthOf", "(I)I"⟩
abbrev cX1_addDigest : ByteArray := prog_3_method_3_code
def yX1_addDigest : MethodName := ⟨RX1, "addDigest", "(ILSealHouse$Row;LSealHouse$Row;)V"⟩
abbrev cX1_setMask : ByteArray := prog_3_method_4_code
def yX1_setMask : MethodName := ⟨RX1, "setMask", "(ILSealHouse$Row;ILSealHouse$Row;)V"⟩
abbrev cX1_spreadBlock : ByteArray := prog_3_method_5_code
def yX1_spreadBlock : MethodName := ⟨RX1, "spreadBlock", "(LSealHouse$Row;IZ)V"⟩
abbrev cX1_padded : ByteArray := prog_3_method_6_code
def yX1_padded : MethodName := ⟨RX1, "padded", "(LSealHouse$Row;I)I"⟩
abbrev cX1_turned : ByteArray := prog_3_method_7_code
def yX1_turned : MethodName := ⟨RX1, "turned", "(II)I"⟩
abbrev cX1_mixBlock : ByteArray := prog_3_method_8_code
def yX1_mixBlock : MethodName := ⟨RX1, "mixBlock", "()V"⟩
abbrev cX1_mixWord : ByteArray := prog_3_method_9_code
def yX1_mixWord : MethodName := ⟨RX1, "mixWord", "(I)V"⟩
def RX2 : String := "SealHouse$Key"
def TX2 : u_T := fun k => match k with
  | 0 => ("SealHouse$Key", "parts", "[LSealHouse$Whole;", true)
  | _ => ("SealHouse$Key", "length", "I", true)
def tyX2 : Nat → FieldType := fun k => match k with
  | 0 => .array (.object "SealHouse$Whole")
  | _ => .int
theorem nmX2 : ∀ a, a < 2 → ∀ b, b < 2 → a ≠ b → (TX2 a).2.1 ≠ (TX2 b).2.1 := by decide +kernel
theorem tyX2_ok : ∀ k, k < 2 → parseFieldDescriptor (TX2 k).2.2.1 = some (tyX2 k) := by decide +kernel
abbrev cX2_init : ByteArray := prog_4_method_1_code
def yX2_init : MethodName := ⟨RX2, "<init>", "(ILSealHouse$Whole;LSealHouse$Whole;)V"⟩
abbrev cX2_isOpen : ByteArray := prog_4_method_2_code
def yX2_isOpen : MethodName := ⟨RX2, "isOpen", "()Z"⟩
abbrev cX2_has : ByteArray := prog_4_method_3_code
def yX2_has : MethodName := ⟨RX2, "has", "(I)Z"⟩
abbrev cX2_at : ByteArray := prog_4_method_4_code
def yX2_at : MethodName := ⟨RX2, "at", "(I)LSealHouse$Whole;"⟩
def RX3 : String := "SealHouse$Padder"
def TX3 : u_T := fun k => match k with
  | 0 => ("SealHouse$Padder", "digester", "LSealHouse$Digester;", true)
  | 1 => ("SealHouse$Padder", "data", "LSealHouse$Row;", true)
  | 2 => ("SealHouse$Padder", "mask", "LSealHouse$Row;", true)
  | 3 => ("SealHouse$Padder", "seed", "LSealHouse$Row;", true)
  | 4 => ("SealHouse$Padder", "proof", "LSealHouse$Row;", true)
  | _ => ("SealHouse$Padder", "salted", "LSealHouse$Row;", true)
def tyX3 : Nat → FieldType := fun k => match k with
  | 0 => .object "SealHouse$Digester"
  | 1 => .object "SealHouse$Row"
  | 2 => .object "SealHouse$Row"
  | 3 => .object "SealHouse$Row"
  | 4 => .object "SealHouse$Row"
  | _ => .object "SealHouse$Row"
theorem nmX3 : ∀ a, a < 6 → ∀ b, b < 6 → a ≠ b → (TX3 a).2.1 ≠ (TX3 b).2.1 := by decide +kernel
theorem tyX3_ok : ∀ k, k < 6 → parseFieldDescriptor (TX3 k).2.2.1 = some (tyX3 k) := by decide +kernel
abbrev cX3_init : ByteArray := prog_5_method_1_code
def yX3_init : MethodName := ⟨RX3, "<init>", "(LSealHouse$Digester;)V"⟩
abbrev cX3_leastSigned : ByteArray := prog_5_method_2_code
def yX3_leastSigned : MethodName := ⟨RX3, "leastSigned", "(I)I"⟩
abbrev cX3_bytesOf : ByteArray := prog_5_method_3_code
def yX3_bytesOf : MethodName := ⟨RX3, "bytesOf", "(I)I"⟩
abbrev cX3_hideIn : ByteArray := prog_5_method_4_code
def yX3_hideIn : MethodName := ⟨RX3, "hideIn", "(LSealHouse$Row;IILSealHouse$Row;LSealHouse$Row;LSealHouse$Row;)V"⟩
abbrev cX3_showFrom : ByteArray := prog_5_method_5_code
def yX3_showFrom : MethodName := ⟨RX3, "showFrom", "(LSealHouse$Row;ILSealHouse$Row;LSealHouse$Row;)Z"⟩
abbrev cX3_fillIn : ByteArray := prog_5_method_6_code
def yX3_fillIn : MethodName := ⟨RX3, "fillIn", "(LSealHouse$Row;LSealHouse$Row;LSealHouse$Row;)V"⟩
abbrev cX3_emptyFrom : ByteArray := prog_5_method_7_code
def yX3_emptyFrom : MethodName := ⟨RX3, "emptyFrom", "(LSealHouse$Row;LSealHouse$Row;)Z"⟩
abbrev cX3_signIn : ByteArray := prog_5_method_8_code
def yX3_signIn : MethodName := ⟨RX3, "signIn", "(LSealHouse$Row;IILSealHouse$Row;)V"⟩
abbrev cX3_saltIn : ByteArray := prog_5_method_9_code
def yX3_saltIn : MethodName := ⟨RX3, "saltIn", "(LSealHouse$Row;IILSealHouse$Row;LSealHouse$Row;)V"⟩
abbrev cX3_tasteFrom : ByteArray := prog_5_method_10_code
def yX3_tasteFrom : MethodName := ⟨RX3, "tasteFrom", "(LSealHouse$Row;IILSealHouse$Row;I)Z"⟩
abbrev cX3_highestKept : ByteArray := prog_5_method_11_code
def yX3_highestKept : MethodName := ⟨RX3, "highestKept", "(I)I"⟩
abbrev cX3_setProof : ByteArray := prog_5_method_12_code
def yX3_setProof : MethodName := ⟨RX3, "setProof", "(ILSealHouse$Row;LSealHouse$Row;)V"⟩
def RX4 : String := "SealHouse$Row"
def TX4 : u_T := fun k => match k with
  | 0 => ("SealHouse$Row", "bytes", "[B", true)
  | _ => ("SealHouse$Row", "length", "I", false)
def tyX4 : Nat → FieldType := fun k => match k with
  | 0 => .array .byte
  | _ => .int
theorem nmX4 : ∀ a, a < 2 → ∀ b, b < 2 → a ≠ b → (TX4 a).2.1 ≠ (TX4 b).2.1 := by decide +kernel
theorem tyX4_ok : ∀ k, k < 2 → parseFieldDescriptor (TX4 k).2.2.1 = some (tyX4 k) := by decide +kernel
abbrev cX4_init : ByteArray := prog_6_method_1_code
def yX4_init : MethodName := ⟨RX4, "<init>", "(I)V"⟩
abbrev cX4_has : ByteArray := prog_6_method_2_code
def yX4_has : MethodName := ⟨RX4, "has", "(I)Z"⟩
abbrev cX4_at : ByteArray := prog_6_method_3_code
def yX4_at : MethodName := ⟨RX4, "at", "(I)I"⟩
abbrev cX4_put : ByteArray := prog_6_method_4_code
def yX4_put : MethodName := ⟨RX4, "put", "(II)V"⟩
abbrev cX4_add : ByteArray := prog_6_method_5_code
def yX4_add : MethodName := ⟨RX4, "add", "(I)V"⟩
abbrev cX4_addWord : ByteArray := prog_6_method_6_code
def yX4_addWord : MethodName := ⟨RX4, "addWord", "(I)V"⟩
abbrev cX4_addTimes : ByteArray := prog_6_method_7_code
def yX4_addTimes : MethodName := ⟨RX4, "addTimes", "(II)V"⟩
abbrev cX4_addPart : ByteArray := prog_6_method_8_code
def yX4_addPart : MethodName := ⟨RX4, "addPart", "(LSealHouse$Row;II)V"⟩
abbrev cX4_addRow : ByteArray := prog_6_method_9_code
def yX4_addRow : MethodName := ⟨RX4, "addRow", "(LSealHouse$Row;)V"⟩
abbrev cX4_take : ByteArray := prog_6_method_10_code
def yX4_take : MethodName := ⟨RX4, "take", "(LSealHouse$Row;)V"⟩
abbrev cX4_takePart : ByteArray := prog_6_method_11_code
def yX4_takePart : MethodName := ⟨RX4, "takePart", "(LSealHouse$Row;II)V"⟩
abbrev cX4_mixWith : ByteArray := prog_6_method_12_code
def yX4_mixWith : MethodName := ⟨RX4, "mixWith", "(LSealHouse$Row;)V"⟩
abbrev cX4_holds : ByteArray := prog_6_method_13_code
def yX4_holds : MethodName := ⟨RX4, "holds", "(LSealHouse$Row;I)Z"⟩
abbrev cX4_othersFrom : ByteArray := prog_6_method_14_code
def yX4_othersFrom : MethodName := ⟨RX4, "othersFrom", "(I)I"⟩
abbrev cX4_zerosFrom : ByteArray := prog_6_method_15_code
def yX4_zerosFrom : MethodName := ⟨RX4, "zerosFrom", "(I)I"⟩
def RX5 : String := "SealHouse$Whole"
def TX5 : u_T := fun k => match k with
  | 0 => ("SealHouse$Whole", "limbs", "[J", true)
  | _ => ("SealHouse$Whole", "used", "I", false)
def tyX5 : Nat → FieldType := fun k => match k with
  | 0 => .array .long
  | _ => .int
theorem nmX5 : ∀ a, a < 2 → ∀ b, b < 2 → a ≠ b → (TX5 a).2.1 ≠ (TX5 b).2.1 := by decide +kernel
theorem tyX5_ok : ∀ k, k < 2 → parseFieldDescriptor (TX5 k).2.2.1 = some (tyX5 k) := by decide +kernel
abbrev cX5_init : ByteArray := prog_7_method_1_code
def yX5_init : MethodName := ⟨RX5, "<init>", "()V"⟩
abbrev cX5_isZero : ByteArray := prog_7_method_2_code
def yX5_isZero : MethodName := ⟨RX5, "isZero", "()Z"⟩
abbrev cX5_isOdd : ByteArray := prog_7_method_3_code
def yX5_isOdd : MethodName := ⟨RX5, "isOdd", "()Z"⟩
abbrev cX5_isSmall : ByteArray := prog_7_method_4_code
def yX5_isSmall : MethodName := ⟨RX5, "isSmall", "(I)Z"⟩
abbrev cX5_limbAt : ByteArray := prog_7_method_5_code
def yX5_limbAt : MethodName := ⟨RX5, "limbAt", "(I)J"⟩
abbrev cX5_bitLength : ByteArray := prog_7_method_6_code
def yX5_bitLength : MethodName := ⟨RX5, "bitLength", "()I"⟩
abbrev cX5_byteLength : ByteArray := prog_7_method_7_code
def yX5_byteLength : MethodName := ⟨RX5, "byteLength", "()I"⟩
abbrev cX5_hasBit : ByteArray := prog_7_method_8_code
def yX5_hasBit : MethodName := ⟨RX5, "hasBit", "(I)Z"⟩
abbrev cX5_widthOf : ByteArray := prog_7_method_9_code
def yX5_widthOf : MethodName := ⟨RX5, "widthOf", "(J)I"⟩
abbrev cX5_order : ByteArray := prog_7_method_10_code
def yX5_order : MethodName := ⟨RX5, "order", "(LSealHouse$Whole;)I"⟩
abbrev cX5_trim : ByteArray := prog_7_method_11_code
def yX5_trim : MethodName := ⟨RX5, "trim", "(I)V"⟩
abbrev cX5_setSmall : ByteArray := prog_7_method_12_code
def yX5_setSmall : MethodName := ⟨RX5, "setSmall", "(J)V"⟩
abbrev cX5_set : ByteArray := prog_7_method_13_code
def yX5_set : MethodName := ⟨RX5, "set", "(LSealHouse$Whole;)V"⟩
abbrev cX5_read : ByteArray := prog_7_method_14_code
def yX5_read : MethodName := ⟨RX5, "read", "(LSealHouse$Row;)V"⟩
abbrev cX5_write : ByteArray := prog_7_method_15_code
def yX5_write : MethodName := ⟨RX5, "write", "(LSealHouse$Row;I)V"⟩
abbrev cX5_addSmall : ByteArray := prog_7_method_16_code
def yX5_addSmall : MethodName := ⟨RX5, "addSmall", "(I)V"⟩
abbrev cX5_setSum : ByteArray := prog_7_method_17_code
def yX5_setSum : MethodName := ⟨RX5, "setSum", "(LSealHouse$Whole;LSealHouse$Whole;)V"⟩
abbrev cX5_setDifference : ByteArray := prog_7_method_18_code
def yX5_setDifference : MethodName := ⟨RX5, "setDifference", "(LSealHouse$Whole;LSealHouse$Whole;)V"⟩
abbrev cX5_setLess : ByteArray := prog_7_method_19_code
def yX5_setLess : MethodName := ⟨RX5, "setLess", "(LSealHouse$Whole;)V"⟩
abbrev cX5_setProduct : ByteArray := prog_7_method_20_code
def yX5_setProduct : MethodName := ⟨RX5, "setProduct", "(LSealHouse$Whole;LSealHouse$Whole;)V"⟩
abbrev cX5_setSquare : ByteArray := prog_7_method_21_code
def yX5_setSquare : MethodName := ⟨RX5, "setSquare", "(LSealHouse$Whole;)V"⟩
abbrev cX5_shiftUp : ByteArray := prog_7_method_22_code
def yX5_shiftUp : MethodName := ⟨RX5, "shiftUp", "(LSealHouse$Whole;I)V"⟩
abbrev cX5_shiftDown : ByteArray := prog_7_method_23_code
def yX5_shiftDown : MethodName := ⟨RX5, "shiftDown", "(LSealHouse$Whole;I)V"⟩
abbrev cX5_restBySmall : ByteArray := prog_7_method_24_code
def yX5_restBySmall : MethodName := ⟨RX5, "restBySmall", "(I)J"⟩
abbrev cX5_zeroBits : ByteArray := prog_7_method_25_code
def yX5_zeroBits : MethodName := ⟨RX5, "zeroBits", "()I"⟩
def RX6 : String := "SealHouse"
def TX6 : u_T := fun k => match k with
  | 0 => ("SealHouse", "slots", "[LSealHouse$Row;", true)
  | 1 => ("SealHouse", "tape", "LSealHouse$Row;", true)
  | 2 => ("SealHouse", "ring", "[LSealHouse$Key;", true)
  | 3 => ("SealHouse", "ringed", "I", false)
  | 4 => ("SealHouse", "desk", "LSealHouse$Desk;", true)
  | 5 => ("SealHouse", "digester", "LSealHouse$Digester;", true)
  | 6 => ("SealHouse", "padder", "LSealHouse$Padder;", true)
  | 7 => ("SealHouse", "answer", "LSealHouse$Row;", true)
  | 8 => ("SealHouse", "block", "LSealHouse$Row;", true)
  | 9 => ("SealHouse", "first", "LSealHouse$Whole;", true)
  | 10 => ("SealHouse", "second", "LSealHouse$Whole;", true)
  | 11 => ("SealHouse", "third", "LSealHouse$Whole;", true)
  | 12 => ("SealHouse", "result", "LSealHouse$Whole;", true)
  | 13 => ("SealHouse", "lessP", "LSealHouse$Whole;", true)
  | 14 => ("SealHouse", "lessQ", "LSealHouse$Whole;", true)
  | _ => ("SealHouse", "common", "LSealHouse$Whole;", true)
def tyX6 : Nat → FieldType := fun k => match k with
  | 0 => .array (.object "SealHouse$Row")
  | 1 => .object "SealHouse$Row"
  | 2 => .array (.object "SealHouse$Key")
  | 3 => .int
  | 4 => .object "SealHouse$Desk"
  | 5 => .object "SealHouse$Digester"
  | 6 => .object "SealHouse$Padder"
  | 7 => .object "SealHouse$Row"
  | 8 => .object "SealHouse$Row"
  | 9 => .object "SealHouse$Whole"
  | 10 => .object "SealHouse$Whole"
  | 11 => .object "SealHouse$Whole"
  | 12 => .object "SealHouse$Whole"
  | 13 => .object "SealHouse$Whole"
  | 14 => .object "SealHouse$Whole"
  | _ => .object "SealHouse$Whole"
theorem nmX6 : ∀ a, a < 16 → ∀ b, b < 16 → a ≠ b → (TX6 a).2.1 ≠ (TX6 b).2.1 := by decide +kernel
theorem tyX6_ok : ∀ k, k < 16 → parseFieldDescriptor (TX6 k).2.2.1 = some (tyX6 k) := by decide +kernel
abbrev cX6_init : ByteArray := prog_1_method_1_code
def yX6_init : MethodName := ⟨RX6, "<init>", "()V"⟩
abbrev cX6_feed : ByteArray := prog_1_method_2_code
def yX6_feed : MethodName := ⟨RX6, "feed", "(IIIII)I"⟩
abbrev cX6_load : ByteArray := prog_1_method_3_code
def yX6_load : MethodName := ⟨RX6, "load", "(II)V"⟩
abbrev cX6_size : ByteArray := prog_1_method_4_code
def yX6_size : MethodName := ⟨RX6, "size", "(I)I"⟩
abbrev cX6_octet : ByteArray := prog_1_method_5_code
def yX6_octet : MethodName := ⟨RX6, "octet", "(II)I"⟩
abbrev cX6_cut : ByteArray := prog_1_method_6_code
def yX6_cut : MethodName := ⟨RX6, "cut", "(IIII)I"⟩
abbrev cX6_join : ByteArray := prog_1_method_7_code
def yX6_join : MethodName := ⟨RX6, "join", "(III)I"⟩
abbrev cX6_change : ByteArray := prog_1_method_8_code
def yX6_change : MethodName := ⟨RX6, "change", "(III)I"⟩
abbrev cX6_calc : ByteArray := prog_1_method_9_code
def yX6_calc : MethodName := ⟨RX6, "calc", "(IIIII)I"⟩
abbrev cX6_compare : ByteArray := prog_1_method_10_code
def yX6_compare : MethodName := ⟨RX6, "compare", "(II)I"⟩
abbrev cX6_bits : ByteArray := prog_1_method_11_code
def yX6_bits : MethodName := ⟨RX6, "bits", "(I)I"⟩
abbrev cX6_probable : ByteArray := prog_1_method_12_code
def yX6_probable : MethodName := ⟨RX6, "probable", "(I)Z"⟩
abbrev cX6_next : ByteArray := prog_1_method_13_code
def yX6_next : MethodName := ⟨RX6, "next", "(II)I"⟩
abbrev cX6_digest : ByteArray := prog_1_method_14_code
def yX6_digest : MethodName := ⟨RX6, "digest", "(III)I"⟩
abbrev cX6_mask : ByteArray := prog_1_method_15_code
def yX6_mask : MethodName := ⟨RX6, "mask", "(IIII)I"⟩
abbrev cX6_key : ByteArray := prog_1_method_16_code
def yX6_key : MethodName := ⟨RX6, "key", "(III)I"⟩
abbrev cX6_open : ByteArray := prog_1_method_17_code
def yX6_open : MethodName := ⟨RX6, "open", "(II)I"⟩
abbrev cX6_part : ByteArray := prog_1_method_18_code
def yX6_part : MethodName := ⟨RX6, "part", "(III)I"⟩
abbrev cX6_turn : ByteArray := prog_1_method_19_code
def yX6_turn : MethodName := ⟨RX6, "turn", "(IIII)I"⟩
abbrev cX6_hide : ByteArray := prog_1_method_20_code
def yX6_hide : MethodName := ⟨RX6, "hide", "(IIIIII)I"⟩
abbrev cX6_show : ByteArray := prog_1_method_21_code
def yX6_show : MethodName := ⟨RX6, "show", "(IIIII)I"⟩
abbrev cX6_fill : ByteArray := prog_1_method_22_code
def yX6_fill : MethodName := ⟨RX6, "fill", "(IIII)I"⟩
abbrev cX6_empty : ByteArray := prog_1_method_23_code
def yX6_empty : MethodName := ⟨RX6, "empty", "(III)I"⟩
abbrev cX6_sign : ByteArray := prog_1_method_24_code
def yX6_sign : MethodName := ⟨RX6, "sign", "(IIII)I"⟩
abbrev cX6_prove : ByteArray := prog_1_method_25_code
def yX6_prove : MethodName := ⟨RX6, "prove", "(IIII)I"⟩
abbrev cX6_salt : ByteArray := prog_1_method_26_code
def yX6_salt : MethodName := ⟨RX6, "salt", "(IIIII)I"⟩
abbrev cX6_taste : ByteArray := prog_1_method_27_code
def yX6_taste : MethodName := ⟨RX6, "taste", "(IIIII)I"⟩
abbrev cX6_keys : ByteArray := prog_1_method_28_code
def yX6_keys : MethodName := ⟨RX6, "keys", "()I"⟩
abbrev cX6_slotAt : ByteArray := prog_1_method_29_code
def yX6_slotAt : MethodName := ⟨RX6, "slotAt", "(I)LSealHouse$Row;"⟩
abbrev cX6_keyAt : ByteArray := prog_1_method_30_code
def yX6_keyAt : MethodName := ⟨RX6, "keyAt", "(I)LSealHouse$Key;"⟩
abbrev cX6_checkHash : ByteArray := prog_1_method_31_code
def yX6_checkHash : MethodName := ⟨RX6, "checkHash", "(I)V"⟩
abbrev cX6_putFewest : ByteArray := prog_1_method_32_code
def yX6_putFewest : MethodName := ⟨RX6, "putFewest", "(LSealHouse$Whole;LSealHouse$Row;)I"⟩
abbrev cX6_reckonPlain : ByteArray := prog_1_method_33_code
def yX6_reckonPlain : MethodName := ⟨RX6, "reckonPlain", "(I)I"⟩
abbrev cX6_reckonDeep : ByteArray := prog_1_method_34_code
def yX6_reckonDeep : MethodName := ⟨RX6, "reckonDeep", "(I)I"⟩
abbrev cX6_isModulusLength : ByteArray := prog_1_method_35_code
def yX6_isModulusLength : MethodName := ⟨RX6, "isModulusLength", "(I)Z"⟩
abbrev cX6_isExponent : ByteArray := prog_1_method_36_code
def yX6_isExponent : MethodName := ⟨RX6, "isExponent", "(LSealHouse$Whole;LSealHouse$Whole;)Z"⟩
abbrev cX6_haveCommonDivisor : ByteArray := prog_1_method_37_code
def yX6_haveCommonDivisor : MethodName := ⟨RX6, "haveCommonDivisor", "(LSealHouse$Whole;LSealHouse$Whole;)Z"⟩
abbrev cX6_refusalOfPrimes : ByteArray := prog_1_method_38_code
def yX6_refusalOfPrimes : MethodName := ⟨RX6, "refusalOfPrimes", "()I"⟩
abbrev cX6_refusalOfExponent : ByteArray := prog_1_method_39_code
def yX6_refusalOfExponent : MethodName := ⟨RX6, "refusalOfExponent", "()I"⟩
abbrev cX6_wholeKey : ByteArray := prog_1_method_40_code
def yX6_wholeKey : MethodName := ⟨RX6, "wholeKey", "()LSealHouse$Key;"⟩
abbrev cX6_keep : ByteArray := prog_1_method_41_code
def yX6_keep : MethodName := ⟨RX6, "keep", "(LSealHouse$Key;)I"⟩
abbrev cX6_turnRow : ByteArray := prog_1_method_42_code
def yX6_turnRow : MethodName := ⟨RX6, "turnRow", "(LSealHouse$Key;ILSealHouse$Row;)Z"⟩
abbrev cX6_turnWholeRow : ByteArray := prog_1_method_43_code
def yX6_turnWholeRow : MethodName := ⟨RX6, "turnWholeRow", "(LSealHouse$Key;ILSealHouse$Row;)Z"⟩
abbrev cX6_putTurned : ByteArray := prog_1_method_44_code
def yX6_putTurned : MethodName := ⟨RX6, "putTurned", "(LSealHouse$Key;ILSealHouse$Row;)I"⟩
def RX7 : String := "SealHouseModel$Num"
def TX7 : u_T := fun k => match k with
  | 0 => ("SealHouseModel$Num", "d", "[I", true)
  | _ => ("SealHouseModel$Num", "n", "I", false)
def tyX7 : Nat → FieldType := fun k => match k with
  | 0 => .array .int
  | _ => .int
theorem nmX7 : ∀ a, a < 2 → ∀ b, b < 2 → a ≠ b → (TX7 a).2.1 ≠ (TX7 b).2.1 := by decide +kernel
theorem tyX7_ok : ∀ k, k < 2 → parseFieldDescriptor (TX7 k).2.2.1 = some (tyX7 k) := by decide +kernel
abbrev cX7_init : ByteArray := prog_10_method_1_code
def yX7_init : MethodName := ⟨RX7, "<init>", "()V"⟩
abbrev cX7_set : ByteArray := prog_10_method_2_code
def yX7_set : MethodName := ⟨RX7, "set", "(I)V"⟩
abbrev cX7_take : ByteArray := prog_10_method_3_code
def yX7_take : MethodName := ⟨RX7, "take", "(LSealHouseModel$Num;)V"⟩
abbrev cX7_cut : ByteArray := prog_10_method_4_code
def yX7_cut : MethodName := ⟨RX7, "cut", "()V"⟩
abbrev cX7_bits : ByteArray := prog_10_method_5_code
def yX7_bits : MethodName := ⟨RX7, "bits", "()I"⟩
abbrev cX7_bit : ByteArray := prog_10_method_6_code
def yX7_bit : MethodName := ⟨RX7, "bit", "(I)Z"⟩
abbrev cX7_isOdd : ByteArray := prog_10_method_7_code
def yX7_isOdd : MethodName := ⟨RX7, "isOdd", "()Z"⟩
abbrev cX7_is : ByteArray := prog_10_method_8_code
def yX7_is : MethodName := ⟨RX7, "is", "(I)Z"⟩
abbrev cX7_bytes : ByteArray := prog_10_method_9_code
def yX7_bytes : MethodName := ⟨RX7, "bytes", "()I"⟩
abbrev cX7_compare : ByteArray := prog_10_method_10_code
def yX7_compare : MethodName := ⟨RX7, "compare", "(LSealHouseModel$Num;)I"⟩
abbrev cX7_add : ByteArray := prog_10_method_11_code
def yX7_add : MethodName := ⟨RX7, "add", "(LSealHouseModel$Num;)V"⟩
abbrev cX7_less : ByteArray := prog_10_method_12_code
def yX7_less : MethodName := ⟨RX7, "less", "(LSealHouseModel$Num;)V"⟩
abbrev cX7_product : ByteArray := prog_10_method_13_code
def yX7_product : MethodName := ⟨RX7, "product", "(LSealHouseModel$Num;LSealHouseModel$Num;)V"⟩
abbrev cX7_half : ByteArray := prog_10_method_15_code
def yX7_half : MethodName := ⟨RX7, "half", "()V"⟩
def RX8 : String := "SealHouseModel"
def TX8 : u_T := fun k => match k with
  | 0 => ("SealHouseModel", "thrown", "I", false)
  | 1 => ("SealHouseModel", "t0", "LSealHouseModel$Num;", true)
  | 2 => ("SealHouseModel", "t1", "LSealHouseModel$Num;", true)
  | 3 => ("SealHouseModel", "quotient", "LSealHouseModel$Num;", true)
  | 4 => ("SealHouseModel", "wide", "LSealHouseModel$Num;", true)
  | 5 => ("SealHouseModel", "base", "LSealHouseModel$Num;", true)
  | 6 => ("SealHouseModel", "power", "LSealHouseModel$Num;", true)
  | 7 => ("SealHouseModel", "ga", "LSealHouseModel$Num;", true)
  | 8 => ("SealHouseModel", "gb", "LSealHouseModel$Num;", true)
  | 9 => ("SealHouseModel", "ra", "LSealHouseModel$Num;", true)
  | 10 => ("SealHouseModel", "rb", "LSealHouseModel$Num;", true)
  | 11 => ("SealHouseModel", "ta", "LSealHouseModel$Num;", true)
  | 12 => ("SealHouseModel", "tb", "LSealHouseModel$Num;", true)
  | 13 => ("SealHouseModel", "step", "LSealHouseModel$Num;", true)
  | 14 => ("SealHouseModel", "one", "LSealHouseModel$Num;", true)
  | 15 => ("SealHouseModel", "minus", "LSealHouseModel$Num;", true)
  | 16 => ("SealHouseModel", "odd", "LSealHouseModel$Num;", true)
  | 17 => ("SealHouseModel", "witness", "LSealHouseModel$Num;", true)
  | 18 => ("SealHouseModel", "rest", "LSealHouseModel$Num;", true)
  | 19 => ("SealHouseModel", "slot", "[I", true)
  | 20 => ("SealHouseModel", "sizes", "[I", true)
  | 21 => ("SealHouseModel", "tape", "[I", true)
  | 22 => ("SealHouseModel", "taped", "I", false)
  | 23 => ("SealHouseModel", "row", "[I", true)
  | 24 => ("SealHouseModel", "rowMany", "I", false)
  | 25 => ("SealHouseModel", "na", "LSealHouseModel$Num;", true)
  | 26 => ("SealHouseModel", "nb", "LSealHouseModel$Num;", true)
  | 27 => ("SealHouseModel", "nc", "LSealHouseModel$Num;", true)
  | 28 => ("SealHouseModel", "nr", "LSealHouseModel$Num;", true)
  | 29 => ("SealHouseModel", "lcm", "LSealHouseModel$Num;", true)
  | 30 => ("SealHouseModel", "dm", "[I", true)
  | 31 => ("SealHouseModel", "dh", "[I", true)
  | 32 => ("SealHouseModel", "dw", "[I", true)
  | 33 => ("SealHouseModel", "dk", "[I", true)
  | 34 => ("SealHouseModel", "db", "[I", true)
  | 35 => ("SealHouseModel", "ds", "[I", true)
  | 36 => ("SealHouseModel", "dMany", "I", false)
  | 37 => ("SealHouseModel", "hasConstants", "Z", false)
  | 38 => ("SealHouseModel", "mask", "[I", true)
  | 39 => ("SealHouseModel", "kb", "[I", true)
  | 40 => ("SealHouseModel", "kMany", "[I", true)
  | 41 => ("SealHouseModel", "isWhole", "[Z", true)
  | 42 => ("SealHouseModel", "keys", "I", false)
  | 43 => ("SealHouseModel", "kn", "LSealHouseModel$Num;", true)
  | 44 => ("SealHouseModel", "ke", "LSealHouseModel$Num;", true)
  | 45 => ("SealHouseModel", "kd", "LSealHouseModel$Num;", true)
  | 46 => ("SealHouseModel", "kp", "LSealHouseModel$Num;", true)
  | 47 => ("SealHouseModel", "kq", "LSealHouseModel$Num;", true)
  | 48 => ("SealHouseModel", "ka", "LSealHouseModel$Num;", true)
  | 49 => ("SealHouseModel", "kc", "LSealHouseModel$Num;", true)
  | 50 => ("SealHouseModel", "pad", "[I", true)
  | 51 => ("SealHouseModel", "digest", "[I", true)
  | _ => ("SealHouseModel", "form", "[I", true)
def tyX8 : Nat → FieldType := fun k => match k with
  | 0 => .int
  | 1 => .object "SealHouseModel$Num"
  | 2 => .object "SealHouseModel$Num"
  | 3 => .object "SealHouseModel$Num"
  | 4 => .object "SealHouseModel$Num"
  | 5 => .object "SealHouseModel$Num"
  | 6 => .object "SealHouseModel$Num"
  | 7 => .object "SealHouseModel$Num"
  | 8 => .object "SealHouseModel$Num"
  | 9 => .object "SealHouseModel$Num"
  | 10 => .object "SealHouseModel$Num"
  | 11 => .object "SealHouseModel$Num"
  | 12 => .object "SealHouseModel$Num"
  | 13 => .object "SealHouseModel$Num"
  | 14 => .object "SealHouseModel$Num"
  | 15 => .object "SealHouseModel$Num"
  | 16 => .object "SealHouseModel$Num"
  | 17 => .object "SealHouseModel$Num"
  | 18 => .object "SealHouseModel$Num"
  | 19 => .array .int
  | 20 => .array .int
  | 21 => .array .int
  | 22 => .int
  | 23 => .array .int
  | 24 => .int
  | 25 => .object "SealHouseModel$Num"
  | 26 => .object "SealHouseModel$Num"
  | 27 => .object "SealHouseModel$Num"
  | 28 => .object "SealHouseModel$Num"
  | 29 => .object "SealHouseModel$Num"
  | 30 => .array .int
  | 31 => .array .int
  | 32 => .array .int
  | 33 => .array .int
  | 34 => .array .int
  | 35 => .array .int
  | 36 => .int
  | 37 => .boolean
  | 38 => .array .int
  | 39 => .array .int
  | 40 => .array .int
  | 41 => .array .boolean
  | 42 => .int
  | 43 => .object "SealHouseModel$Num"
  | 44 => .object "SealHouseModel$Num"
  | 45 => .object "SealHouseModel$Num"
  | 46 => .object "SealHouseModel$Num"
  | 47 => .object "SealHouseModel$Num"
  | 48 => .object "SealHouseModel$Num"
  | 49 => .object "SealHouseModel$Num"
  | 50 => .array .int
  | 51 => .array .int
  | _ => .array .int
theorem nmX8 : ∀ a, a < 53 → ∀ b, b < 53 → a ≠ b → (TX8 a).2.1 ≠ (TX8 b).2.1 := by decide +kernel
theorem tyX8_ok : ∀ k, k < 53 → parseFieldDescriptor (TX8 k).2.2.1 = some (tyX8 k) := by decide +kernel
abbrev cX8_init : ByteArray := prog_9_method_1_code
def yX8_init : MethodName := ⟨RX8, "<init>", "()V"⟩
abbrev cX8_thrown : ByteArray := prog_9_method_2_code
def yX8_thrown : MethodName := ⟨RX8, "thrown", "()I"⟩
abbrev cX8_divide : ByteArray := prog_9_method_3_code
def yX8_divide : MethodName := ⟨RX8, "divide", "(LSealHouseModel$Num;LSealHouseModel$Num;LSealHouseModel$Num;)V"⟩
abbrev cX8_shift : ByteArray := prog_9_method_4_code
def yX8_shift : MethodName := ⟨RX8, "shift", "(LSealHouseModel$Num;ILSealHouseModel$Num;)V"⟩
abbrev cX8_times : ByteArray := prog_9_method_5_code
def yX8_times : MethodName := ⟨RX8, "times", "(LSealHouseModel$Num;LSealHouseModel$Num;LSealHouseModel$Num;LSealHouseModel$Num;)V"⟩
abbrev cX8_raise : ByteArray := prog_9_method_6_code
def yX8_raise : MethodName := ⟨RX8, "raise", "(LSealHouseModel$Num;LSealHouseModel$Num;LSealHouseModel$Num;LSealHouseModel$Num;)V"⟩
abbrev cX8_common : ByteArray := prog_9_method_7_code
def yX8_common : MethodName := ⟨RX8, "common", "(LSealHouseModel$Num;LSealHouseModel$Num;LSealHouseModel$Num;)V"⟩
abbrev cX8_invert : ByteArray := prog_9_method_8_code
def yX8_invert : MethodName := ⟨RX8, "invert", "(LSealHouseModel$Num;LSealHouseModel$Num;LSealHouseModel$Num;)Z"⟩
abbrev cX8_isFew : ByteArray := prog_9_method_9_code
def yX8_isFew : MethodName := ⟨RX8, "isFew", "(LSealHouseModel$Num;)Z"⟩
abbrev cX8_prime : ByteArray := prog_9_method_10_code
def yX8_prime : MethodName := ⟨RX8, "prime", "(I)I"⟩
abbrev cX8_isProbable : ByteArray := prog_9_method_11_code
def yX8_isProbable : MethodName := ⟨RX8, "isProbable", "(LSealHouseModel$Num;)Z"⟩
abbrev cX8_feed : ByteArray := prog_9_method_12_code
def yX8_feed : MethodName := ⟨RX8, "feed", "(IIIII)I"⟩
abbrev cX8_isSlot : ByteArray := prog_9_method_13_code
def yX8_isSlot : MethodName := ⟨RX8, "isSlot", "(I)Z"⟩
abbrev cX8_are : ByteArray := prog_9_method_14_code
def yX8_are : MethodName := ⟨RX8, "are", "(III)Z"⟩
abbrev cX8_bad : ByteArray := prog_9_method_15_code
def yX8_bad : MethodName := ⟨RX8, "bad", "(Z)Z"⟩
abbrev cX8_load : ByteArray := prog_9_method_16_code
def yX8_load : MethodName := ⟨RX8, "load", "(II)V"⟩
abbrev cX8_size : ByteArray := prog_9_method_17_code
def yX8_size : MethodName := ⟨RX8, "size", "(I)I"⟩
abbrev cX8_octet : ByteArray := prog_9_method_18_code
def yX8_octet : MethodName := ⟨RX8, "octet", "(II)I"⟩
abbrev cX8_anew : ByteArray := prog_9_method_19_code
def yX8_anew : MethodName := ⟨RX8, "anew", "()V"⟩
abbrev cX8_puts : ByteArray := prog_9_method_20_code
def yX8_puts : MethodName := ⟨RX8, "puts", "(I)V"⟩
abbrev cX8_putsSlot : ByteArray := prog_9_method_21_code
def yX8_putsSlot : MethodName := ⟨RX8, "putsSlot", "(I)V"⟩
abbrev cX8_writes : ByteArray := prog_9_method_22_code
def yX8_writes : MethodName := ⟨RX8, "writes", "(I)I"⟩
abbrev cX8_cut : ByteArray := prog_9_method_23_code
def yX8_cut : MethodName := ⟨RX8, "cut", "(IIII)I"⟩
abbrev cX8_join : ByteArray := prog_9_method_24_code
def yX8_join : MethodName := ⟨RX8, "join", "(III)I"⟩
abbrev cX8_change : ByteArray := prog_9_method_25_code
def yX8_change : MethodName := ⟨RX8, "change", "(III)I"⟩
abbrev cX8_reads : ByteArray := prog_9_method_26_code
def yX8_reads : MethodName := ⟨RX8, "reads", "([IIILSealHouseModel$Num;)V"⟩
abbrev cX8_number : ByteArray := prog_9_method_27_code
def yX8_number : MethodName := ⟨RX8, "number", "(ILSealHouseModel$Num;)V"⟩
abbrev cX8_putsNumber : ByteArray := prog_9_method_28_code
def yX8_putsNumber : MethodName := ⟨RX8, "putsNumber", "(LSealHouseModel$Num;I)V"⟩
abbrev cX8_writesNumber : ByteArray := prog_9_method_29_code
def yX8_writesNumber : MethodName := ⟨RX8, "writesNumber", "(LSealHouseModel$Num;I)I"⟩
abbrev cX8_calc : ByteArray := prog_9_method_30_code
def yX8_calc : MethodName := ⟨RX8, "calc", "(IIIII)I"⟩
abbrev cX8_powers : ByteArray := prog_9_method_31_code
def yX8_powers : MethodName := ⟨RX8, "powers", "(I)I"⟩
abbrev cX8_multiple : ByteArray := prog_9_method_32_code
def yX8_multiple : MethodName := ⟨RX8, "multiple", "(LSealHouseModel$Num;LSealHouseModel$Num;LSealHouseModel$Num;)V"⟩
abbrev cX8_compare : ByteArray := prog_9_method_33_code
def yX8_compare : MethodName := ⟨RX8, "compare", "(II)I"⟩
abbrev cX8_bits : ByteArray := prog_9_method_34_code
def yX8_bits : MethodName := ⟨RX8, "bits", "(I)I"⟩
abbrev cX8_probable : ByteArray := prog_9_method_35_code
def yX8_probable : MethodName := ⟨RX8, "probable", "(I)Z"⟩
abbrev cX8_next : ByteArray := prog_9_method_36_code
def yX8_next : MethodName := ⟨RX8, "next", "(II)I"⟩
abbrev cX8_says : ByteArray := prog_9_method_37_code
def yX8_says : MethodName := ⟨RX8, "says", "(I)V"⟩
abbrev cX8_across : ByteArray := prog_9_method_38_code
def yX8_across : MethodName := ⟨RX8, "across", "(II)I"⟩
abbrev cX8_root : ByteArray := prog_9_method_39_code
def yX8_root : MethodName := ⟨RX8, "root", "(II)I"⟩
abbrev cX8_isAtMost : ByteArray := prog_9_method_40_code
def yX8_isAtMost : MethodName := ⟨RX8, "isAtMost", "(JII)Z"⟩
abbrev cX8_constants : ByteArray := prog_9_method_41_code
def yX8_constants : MethodName := ⟨RX8, "constants", "()V"⟩
abbrev cX8_begins : ByteArray := prog_9_method_42_code
def yX8_begins : MethodName := ⟨RX8, "begins", "(II)I"⟩
abbrev cX8_long0 : ByteArray := prog_9_method_43_code
def yX8_long0 : MethodName := ⟨RX8, "long0", "(I)I"⟩
abbrev cX8_digests : ByteArray := prog_9_method_44_code
def yX8_digests : MethodName := ⟨RX8, "digests", "(I)V"⟩
abbrev cX8_block : ByteArray := prog_9_method_45_code
def yX8_block : MethodName := ⟨RX8, "block", "(I)V"⟩
abbrev cX8_saysSlot : ByteArray := prog_9_method_46_code
def yX8_saysSlot : MethodName := ⟨RX8, "saysSlot", "(I)V"⟩
abbrev cX8_isHash : ByteArray := prog_9_method_47_code
def yX8_isHash : MethodName := ⟨RX8, "isHash", "(I)Z"⟩
abbrev cX8_digest : ByteArray := prog_9_method_48_code
def yX8_digest : MethodName := ⟨RX8, "digest", "(III)I"⟩
abbrev cX8_masks : ByteArray := prog_9_method_49_code
def yX8_masks : MethodName := ⟨RX8, "masks", "(I[IIII)V"⟩
abbrev cX8_mask : ByteArray := prog_9_method_50_code
def yX8_mask : MethodName := ⟨RX8, "mask", "(IIII)I"⟩
abbrev cX8_keeps : ByteArray := prog_9_method_51_code
def yX8_keeps : MethodName := ⟨RX8, "keeps", "(ILSealHouseModel$Num;)V"⟩
abbrev cX8_kept : ByteArray := prog_9_method_52_code
def yX8_kept : MethodName := ⟨RX8, "kept", "(IILSealHouseModel$Num;)V"⟩
abbrev cX8_isRefused : ByteArray := prog_9_method_53_code
def yX8_isRefused : MethodName := ⟨RX8, "isRefused", "()Z"⟩
abbrev cX8_isUnfit : ByteArray := prog_9_method_54_code
def yX8_isUnfit : MethodName := ⟨RX8, "isUnfit", "()Z"⟩
abbrev cX8_key : ByteArray := prog_9_method_55_code
def yX8_key : MethodName := ⟨RX8, "key", "(III)I"⟩
abbrev cX8_open : ByteArray := prog_9_method_56_code
def yX8_open : MethodName := ⟨RX8, "open", "(II)I"⟩
abbrev cX8_isKey : ByteArray := prog_9_method_57_code
def yX8_isKey : MethodName := ⟨RX8, "isKey", "(I)Z"⟩
abbrev cX8_part : ByteArray := prog_9_method_58_code
def yX8_part : MethodName := ⟨RX8, "part", "(III)I"⟩
abbrev cX8_lengthOf : ByteArray := prog_9_method_59_code
def yX8_lengthOf : MethodName := ⟨RX8, "lengthOf", "(I)I"⟩
abbrev cX8_turns : ByteArray := prog_9_method_60_code
def yX8_turns : MethodName := ⟨RX8, "turns", "(IILSealHouseModel$Num;)V"⟩
abbrev cX8_turn : ByteArray := prog_9_method_61_code
def yX8_turn : MethodName := ⟨RX8, "turn", "(IIII)I"⟩
abbrev cX8_keepsDigest : ByteArray := prog_9_method_62_code
def yX8_keepsDigest : MethodName := ⟨RX8, "keepsDigest", "(I)V"⟩
abbrev cX8_padded : ByteArray := prog_9_method_63_code
def yX8_padded : MethodName := ⟨RX8, "padded", "(IIII)I"⟩
abbrev cX8_opened : ByteArray := prog_9_method_64_code
def yX8_opened : MethodName := ⟨RX8, "opened", "(III)Z"⟩
abbrev cX8_crosses : ByteArray := prog_9_method_65_code
def yX8_crosses : MethodName := ⟨RX8, "crosses", "(II)V"⟩
abbrev cX8_hide : ByteArray := prog_9_method_66_code
def yX8_hide : MethodName := ⟨RX8, "hide", "(IIIIII)I"⟩
abbrev cX8_show : ByteArray := prog_9_method_67_code
def yX8_show : MethodName := ⟨RX8, "show", "(IIIII)I"⟩
abbrev cX8_shows : ByteArray := prog_9_method_68_code
def yX8_shows : MethodName := ⟨RX8, "shows", "(III)I"⟩
abbrev cX8_fill : ByteArray := prog_9_method_69_code
def yX8_fill : MethodName := ⟨RX8, "fill", "(IIII)I"⟩
abbrev cX8_empty : ByteArray := prog_9_method_70_code
def yX8_empty : MethodName := ⟨RX8, "empty", "(III)I"⟩
abbrev cX8_forms : ByteArray := prog_9_method_71_code
def yX8_forms : MethodName := ⟨RX8, "forms", "(III)V"⟩
abbrev cX8_head : ByteArray := prog_9_method_72_code
def yX8_head : MethodName := ⟨RX8, "head", "(II)I"⟩
abbrev cX8_sign : ByteArray := prog_9_method_73_code
def yX8_sign : MethodName := ⟨RX8, "sign", "(IIII)I"⟩
abbrev cX8_prove : ByteArray := prog_9_method_74_code
def yX8_prove : MethodName := ⟨RX8, "prove", "(IIII)I"⟩
abbrev cX8_salts : ByteArray := prog_9_method_75_code
def yX8_salts : MethodName := ⟨RX8, "salts", "(II[III)V"⟩
abbrev cX8_salt : ByteArray := prog_9_method_76_code
def yX8_salt : MethodName := ⟨RX8, "salt", "(IIIII)I"⟩
abbrev cX8_taste : ByteArray := prog_9_method_77_code
def yX8_taste : MethodName := ⟨RX8, "taste", "(IIIII)I"⟩
abbrev cX8_keys : ByteArray := prog_9_method_78_code
def yX8_keys : MethodName := ⟨RX8, "keys", "()I"⟩
def RL : String := "SealHouseLaw"
abbrev cL_load : ByteArray := method_3_code
def yL_load : MethodName := ⟨RL, "load", "(LSealHouse;II)I"⟩
abbrev cL_size : ByteArray := method_4_code
def yL_size : MethodName := ⟨RL, "size", "(LSealHouse;I[J)I"⟩
abbrev cL_octet : ByteArray := method_5_code
def yL_octet : MethodName := ⟨RL, "octet", "(LSealHouse;II[J)I"⟩
abbrev cL_cut : ByteArray := method_6_code
def yL_cut : MethodName := ⟨RL, "cut", "(LSealHouse;IIII[J)I"⟩
abbrev cL_join : ByteArray := method_7_code
def yL_join : MethodName := ⟨RL, "join", "(LSealHouse;III[J)I"⟩
abbrev cL_change : ByteArray := method_8_code
def yL_change : MethodName := ⟨RL, "change", "(LSealHouse;III[J)I"⟩
abbrev cL_calc : ByteArray := method_9_code
def yL_calc : MethodName := ⟨RL, "calc", "(LSealHouse;IIIII[J)I"⟩
abbrev cL_compare : ByteArray := method_10_code
def yL_compare : MethodName := ⟨RL, "compare", "(LSealHouse;II[J)I"⟩
abbrev cL_bits : ByteArray := method_11_code
def yL_bits : MethodName := ⟨RL, "bits", "(LSealHouse;I[J)I"⟩
abbrev cL_probable : ByteArray := method_12_code
def yL_probable : MethodName := ⟨RL, "probable", "(LSealHouse;I[J)I"⟩
abbrev cL_next : ByteArray := method_13_code
def yL_next : MethodName := ⟨RL, "next", "(LSealHouse;II[J)I"⟩
abbrev cL_digest : ByteArray := method_14_code
def yL_digest : MethodName := ⟨RL, "digest", "(LSealHouse;III[J)I"⟩
abbrev cL_mask : ByteArray := method_15_code
def yL_mask : MethodName := ⟨RL, "mask", "(LSealHouse;IIII[J)I"⟩
abbrev cL_key : ByteArray := method_16_code
def yL_key : MethodName := ⟨RL, "key", "(LSealHouse;III[J)I"⟩
abbrev cL_open : ByteArray := method_17_code
def yL_open : MethodName := ⟨RL, "open", "(LSealHouse;II[J)I"⟩
abbrev cL_part : ByteArray := method_18_code
def yL_part : MethodName := ⟨RL, "part", "(LSealHouse;III[J)I"⟩
abbrev cL_turn : ByteArray := method_19_code
def yL_turn : MethodName := ⟨RL, "turn", "(LSealHouse;IIII[J)I"⟩
abbrev cL_hide : ByteArray := method_20_code
def yL_hide : MethodName := ⟨RL, "hide", "(LSealHouse;IIIIII[J)I"⟩
abbrev cL_show : ByteArray := method_21_code
def yL_show : MethodName := ⟨RL, "show", "(LSealHouse;IIIII[J)I"⟩
abbrev cL_fill : ByteArray := method_22_code
def yL_fill : MethodName := ⟨RL, "fill", "(LSealHouse;IIII[J)I"⟩
abbrev cL_empty : ByteArray := method_23_code
def yL_empty : MethodName := ⟨RL, "empty", "(LSealHouse;III[J)I"⟩
abbrev cL_sign : ByteArray := method_24_code
def yL_sign : MethodName := ⟨RL, "sign", "(LSealHouse;IIII[J)I"⟩
abbrev cL_prove : ByteArray := method_25_code
def yL_prove : MethodName := ⟨RL, "prove", "(LSealHouse;IIII[J)I"⟩
abbrev cL_salt : ByteArray := method_26_code
def yL_salt : MethodName := ⟨RL, "salt", "(LSealHouse;IIIII[J)I"⟩
abbrev cL_taste : ByteArray := method_27_code
def yL_taste : MethodName := ⟨RL, "taste", "(LSealHouse;IIIII[J)I"⟩
abbrev cL_law : ByteArray := code
def yL_law : MethodName := ⟨RL, "law", "([I)Z"⟩
abbrev vwCl : List vw_C := [(RX0, TX0, 17), (RX1, TX1, 5), (RX2, TX2, 2), (RX3, TX3, 6), (RX4, TX4, 2), (RX5, TX5, 2), (RX6, TX6, 16), (RX7, TX7, 2), (RX8, TX8, 53)]
/-! one list of words for every method -/
def BW : List Cond := lw_tbl.filter goodWord
theorem bw_r {w : Cond} (h : w ∈ tables_1) (hg : goodWord w = true) : w ∈ BW := List.mem_filter.mpr ⟨List.mem_append_right _ h, hg⟩
theorem bw_s {w : Cond} (h : w ∈ k2_sels lw_privs) (hg : goodWord w = true) : w ∈ BW := List.mem_filter.mpr ⟨List.mem_append_left _ h, hg⟩
theorem bw_1 {w : Cond} (h : w ∈ tables_1_1) (hg : goodWord w = true) : w ∈ BW := bw_r (List.mem_append_left _ h) hg
theorem bw_2 {w : Cond} (h : w ∈ tables_1_2) (hg : goodWord w = true) : w ∈ BW := bw_r (List.mem_append_right _ (List.mem_append_left _ h)) hg
theorem bw_3 {w : Cond} (h : w ∈ tables_1_3) (hg : goodWord w = true) : w ∈ BW := bw_r (List.mem_append_right _ (List.mem_append_right _ (List.mem_append_left _ h))) hg
theorem bw_4 {w : Cond} (h : w ∈ tables_1_4) (hg : goodWord w = true) : w ∈ BW := bw_r (List.mem_append_right _ (List.mem_append_right _ (List.mem_append_right _ (List.mem_append_left _ h)))) hg
theorem bw_5 {w : Cond} (h : w ∈ tables_1_5) (hg : goodWord w = true) : w ∈ BW := bw_r (List.mem_append_right _ (List.mem_append_right _ (List.mem_append_right _ (List.mem_append_right _ (List.mem_append_left _ h))))) hg
theorem bw_6 {w : Cond} (h : w ∈ tables_1_6) (hg : goodWord w = true) : w ∈ BW := bw_r (List.mem_append_right _ (List.mem_append_right _ (List.mem_append_right _ (List.mem_append_right _ (List.mem_append_right _ (List.mem_append_left _ h)))))) hg
theorem bw_7 {w : Cond} (h : w ∈ tables_1_7) (hg : goodWord w = true) : w ∈ BW := bw_r (List.mem_append_right _ (List.mem_append_right _ (List.mem_append_right _ (List.mem_append_right _ (List.mem_append_right _ (List.mem_append_right _ (h))))))) hg
theorem wd_0 : (Jvm.Cond.initialized "SealHouseLaw") ∈ BW := bw_1 (List.mem_of_getElem? (i := 0) (by decide +kernel)) (by decide +kernel)
theorem wd_1 : (Jvm.Cond.initialized "SealHouse") ∈ BW := bw_1 (List.mem_of_getElem? (i := 1) (by decide +kernel)) (by decide +kernel)
theorem wd_2 : (Jvm.Cond.initialized "SealHouse$Row") ∈ BW := bw_1 (List.mem_of_getElem? (i := 2) (by decide +kernel)) (by decide +kernel)
theorem wd_3 : (Jvm.Cond.initialized "SealHouse$Desk") ∈ BW := bw_1 (List.mem_of_getElem? (i := 3) (by decide +kernel)) (by decide +kernel)
theorem wd_4 : (Jvm.Cond.initialized "SealHouse$Whole") ∈ BW := bw_1 (List.mem_of_getElem? (i := 4) (by decide +kernel)) (by decide +kernel)
theorem wd_5 : (Jvm.Cond.initialized "SealHouse$Digester") ∈ BW := bw_1 (List.mem_of_getElem? (i := 5) (by decide +kernel)) (by decide +kernel)
theorem wd_6 : (Jvm.Cond.initialized "SealHouse$Padder") ∈ BW := bw_1 (List.mem_of_getElem? (i := 6) (by decide +kernel)) (by decide +kernel)
theorem wd_7 : (Jvm.Cond.initialized "SealHouseModel") ∈ BW := bw_1 (List.mem_of_getElem? (i := 7) (by decide +kernel)) (by decide +kernel)
theorem wd_8 : (Jvm.Cond.initialized "SealHouseModel$Num") ∈ BW := bw_1 (List.mem_of_getElem? (i := 8) (by decide +kernel)) (by decide +kernel)
theorem wd_9 : (Jvm.Cond.initialized "java/lang/Throwable") ∈ BW := bw_1 (List.mem_of_getElem? (i := 9) (by decide +kernel)) (by decide +kernel)
theorem wd_10 : (Jvm.Cond.initialized "java/lang/Exception") ∈ BW := bw_1 (List.mem_of_getElem? (i := 10) (by decide +kernel)) (by decide +kernel)
theorem wd_11 : (Jvm.Cond.initialized "java/lang/RuntimeException") ∈ BW := bw_1 (List.mem_of_getElem? (i := 11) (by decide +kernel)) (by decide +kernel)
theorem wd_12 : (Jvm.Cond.initialized "java/lang/IndexOutOfBoundsException") ∈ BW := bw_1 (List.mem_of_getElem? (i := 12) (by decide +kernel)) (by decide +kernel)
theorem wd_13 : (Jvm.Cond.initialized "java/lang/IllegalArgumentException") ∈ BW := bw_1 (List.mem_of_getElem? (i := 13) (by decide +kernel)) (by decide +kernel)
theorem wd_14 : (Jvm.Cond.initialized "SealHouse$Key") ∈ BW := bw_1 (List.mem_of_getElem? (i := 14) (by decide +kernel)) (by decide +kernel)
theorem wd_15 : (Jvm.Cond.classLink "SealHouseLaw" (8 : Nat) "SealHouse") ∈ BW := bw_1 (List.mem_of_getElem? (i := 15) (by decide +kernel)) (by decide +kernel)
theorem wd_16 : (Jvm.Cond.instantiable "SealHouse" (16 : Nat)) ∈ BW := bw_1 (List.mem_of_getElem? (i := 16) (by decide +kernel)) (by decide +kernel)
theorem wd_17 : (Jvm.Cond.methodLink "SealHouseLaw" (96 : Nat) ({ cls := "SealHouse", name := "<init>", desc := "()V" } : Jvm.MethodName)) ∈ BW := bw_1 (List.mem_of_getElem? (i := 17) (by decide +kernel)) (by decide +kernel)
theorem wd_18 : (Jvm.Cond.instanceMethod ({ cls := "SealHouse", name := "<init>", desc := "()V" } : Jvm.MethodName)) ∈ BW := bw_1 (List.mem_of_getElem? (i := 18) (by decide +kernel)) (by decide +kernel)
theorem wd_19 : (Jvm.Cond.code ({ cls := "SealHouse", name := "<init>", desc := "()V" } : Jvm.MethodName) prog_1_method_1_code (2 : Nat) (Option.none : Option Jvm.ClassFile.FieldType)) ∈ BW := bw_1 (List.mem_of_getElem? (i := 19) rfl) rfl
theorem wd_20 : (Jvm.Cond.methodLink "SealHouse" (1 : Nat) ({ cls := "java/lang/Object", name := "<init>", desc := "()V" } : Jvm.MethodName)) ∈ BW := bw_1 (List.mem_of_getElem? (i := 20) (by decide +kernel)) (by decide +kernel)
theorem wd_21 : (Jvm.Cond.instanceMethod ({ cls := "java/lang/Object", name := "<init>", desc := "()V" } : Jvm.MethodName)) ∈ BW := bw_1 (List.mem_of_getElem? (i := 21) (by decide +kernel)) (by decide +kernel)
theorem wd_22 : (Jvm.Cond.code ({ cls := "java/lang/Object", name := "<init>", desc := "()V" } : Jvm.MethodName) object_method_1_code (1 : Nat) (Option.none : Option Jvm.ClassFile.FieldType)) ∈ BW := bw_1 (List.mem_of_getElem? (i := 22) rfl) rfl
theorem wd_23 : (Jvm.Cond.classLink "SealHouse" (9 : Nat) "SealHouse$Row") ∈ BW := bw_1 (List.mem_of_getElem? (i := 23) (by decide +kernel)) (by decide +kernel)
theorem wd_25 : (Jvm.Cond.instantiable "SealHouse$Row" (2 : Nat)) ∈ BW := bw_1 (List.mem_of_getElem? (i := 25) (by decide +kernel)) (by decide +kernel)
theorem wd_26 : (Jvm.Cond.methodLink "SealHouse" (15 : Nat) ({ cls := "SealHouse$Row", name := "<init>", desc := "(I)V" } : Jvm.MethodName)) ∈ BW := bw_1 (List.mem_of_getElem? (i := 26) (by decide +kernel)) (by decide +kernel)
theorem wd_27 : (Jvm.Cond.instanceMethod ({ cls := "SealHouse$Row", name := "<init>", desc := "(I)V" } : Jvm.MethodName)) ∈ BW := bw_1 (List.mem_of_getElem? (i := 27) (by decide +kernel)) (by decide +kernel)
theorem wd_28 : (Jvm.Cond.code ({ cls := "SealHouse$Row", name := "<init>", desc := "(I)V" } : Jvm.MethodName) prog_6_method_1_code (2 : Nat) (Option.none : Option Jvm.ClassFile.FieldType)) ∈ BW := bw_1 (List.mem_of_getElem? (i := 28) rfl) rfl
theorem wd_29 : (Jvm.Cond.methodLink "SealHouse$Row" (1 : Nat) ({ cls := "java/lang/Object", name := "<init>", desc := "()V" } : Jvm.MethodName)) ∈ BW := bw_1 (List.mem_of_getElem? (i := 29) (by decide +kernel)) (by decide +kernel)
theorem wd_30 : (Jvm.Cond.fieldLink "SealHouse$Row" (7 : Nat) "SealHouse$Row" "bytes" "[B") ∈ BW := bw_1 (List.mem_of_getElem? (i := 30) (by decide +kernel)) (by decide +kernel)
theorem wd_31 : (Jvm.Cond.fieldLink "SealHouse$Row" (13 : Nat) "SealHouse$Row" "length" "I") ∈ BW := bw_1 (List.mem_of_getElem? (i := 31) (by decide +kernel)) (by decide +kernel)
theorem wd_32 : (Jvm.Cond.fieldLink "SealHouse" (86 : Nat) "SealHouse$Row" "length" "I") ∈ BW := bw_1 (List.mem_of_getElem? (i := 32) (by decide +kernel)) (by decide +kernel)
theorem wd_33 : (Jvm.Cond.fieldLink "SealHouse$Digester" (33 : Nat) "SealHouse$Row" "length" "I") ∈ BW := bw_1 (List.mem_of_getElem? (i := 33) (by decide +kernel)) (by decide +kernel)
theorem wd_34 : (Jvm.Cond.fieldLink "SealHouse$Padder" (42 : Nat) "SealHouse$Row" "length" "I") ∈ BW := bw_1 (List.mem_of_getElem? (i := 34) (by decide +kernel)) (by decide +kernel)
theorem wd_35 : (Jvm.Cond.fieldLink "SealHouse$Whole" (33 : Nat) "SealHouse$Row" "length" "I") ∈ BW := bw_1 (List.mem_of_getElem? (i := 35) (by decide +kernel)) (by decide +kernel)
theorem wd_36 : (Jvm.Cond.laysFinal "SealHouse$Row" "SealHouse$Row" "bytes" "[B") ∈ BW := bw_1 (List.mem_of_getElem? (i := 36) (by decide +kernel)) (by decide +kernel)
theorem wd_38 : (Jvm.Cond.lays "SealHouse$Row" "SealHouse$Row" "length" "I") ∈ BW := bw_1 (List.mem_of_getElem? (i := 38) (by decide +kernel)) (by decide +kernel)
theorem wd_40 : (Jvm.Cond.superclass "SealHouse$Row" "java/lang/Object") ∈ BW := bw_1 (List.mem_of_getElem? (i := 40) (by decide +kernel)) (by decide +kernel)
theorem wd_41 : (Jvm.Cond.arrayClass Jvm.ClassFile.FieldType.byte) ∈ BW := bw_1 (List.mem_of_getElem? (i := 41) (by decide +kernel)) (by decide +kernel)
theorem wd_42 : (Jvm.Cond.classLink "SealHouse" (22 : Nat) "SealHouse$Key") ∈ BW := bw_1 (List.mem_of_getElem? (i := 42) (by decide +kernel)) (by decide +kernel)
theorem wd_44 : (Jvm.Cond.classLink "SealHouse" (32 : Nat) "SealHouse$Desk") ∈ BW := bw_1 (List.mem_of_getElem? (i := 44) (by decide +kernel)) (by decide +kernel)
theorem wd_45 : (Jvm.Cond.instantiable "SealHouse$Desk" (17 : Nat)) ∈ BW := bw_1 (List.mem_of_getElem? (i := 45) (by decide +kernel)) (by decide +kernel)
theorem wd_47 : (Jvm.Cond.instanceMethod ({ cls := "SealHouse$Desk", name := "<init>", desc := "()V" } : Jvm.MethodName)) ∈ BW := bw_1 (List.mem_of_getElem? (i := 47) (by decide +kernel)) (by decide +kernel)
theorem wd_48 : (Jvm.Cond.code ({ cls := "SealHouse$Desk", name := "<init>", desc := "()V" } : Jvm.MethodName) prog_2_method_1_code (1 : Nat) (Option.none : Option Jvm.ClassFile.FieldType)) ∈ BW := bw_1 (List.mem_of_getElem? (i := 48) rfl) rfl
theorem wd_49 : (Jvm.Cond.methodLink "SealHouse$Desk" (3 : Nat) ({ cls := "java/lang/Object", name := "<init>", desc := "()V" } : Jvm.MethodName)) ∈ BW := bw_1 (List.mem_of_getElem? (i := 49) (by decide +kernel)) (by decide +kernel)
theorem wd_50 : (Jvm.Cond.classLink "SealHouse$Desk" (9 : Nat) "SealHouse$Whole") ∈ BW := bw_1 (List.mem_of_getElem? (i := 50) (by decide +kernel)) (by decide +kernel)
theorem wd_51 : (Jvm.Cond.instantiable "SealHouse$Whole" (2 : Nat)) ∈ BW := bw_1 (List.mem_of_getElem? (i := 51) (by decide +kernel)) (by decide +kernel)
theorem wd_52 : (Jvm.Cond.methodLink "SealHouse$Desk" (11 : Nat) ({ cls := "SealHouse$Whole", name := "<init>", desc := "()V" } : Jvm.MethodName)) ∈ BW := bw_1 (List.mem_of_getElem? (i := 52) (by decide +kernel)) (by decide +kernel)
theorem wd_53 : (Jvm.Cond.instanceMethod ({ cls := "SealHouse$Whole", name := "<init>", desc := "()V" } : Jvm.MethodName)) ∈ BW := bw_1 (List.mem_of_getElem? (i := 53) (by decide +kernel)) (by decide +kernel)
theorem wd_54 : (Jvm.Cond.code ({ cls := "SealHouse$Whole", name := "<init>", desc := "()V" } : Jvm.MethodName) prog_7_method_1_code (1 : Nat) (Option.none : Option Jvm.ClassFile.FieldType)) ∈ BW := bw_1 (List.mem_of_getElem? (i := 54) rfl) rfl
theorem wd_55 : (Jvm.Cond.methodLink "SealHouse$Whole" (3 : Nat) ({ cls := "java/lang/Object", name := "<init>", desc := "()V" } : Jvm.MethodName)) ∈ BW := bw_1 (List.mem_of_getElem? (i := 55) (by decide +kernel)) (by decide +kernel)
theorem wd_56 : (Jvm.Cond.fieldLink "SealHouse$Whole" (9 : Nat) "SealHouse$Whole" "limbs" "[J") ∈ BW := bw_1 (List.mem_of_getElem? (i := 56) (by decide +kernel)) (by decide +kernel)
theorem wd_57 : (Jvm.Cond.fieldLink "SealHouse$Desk" (100 : Nat) "SealHouse$Whole" "limbs" "[J") ∈ BW := bw_1 (List.mem_of_getElem? (i := 57) (by decide +kernel)) (by decide +kernel)
theorem wd_58 : (Jvm.Cond.fieldLink "SealHouse$Whole" (13 : Nat) "SealHouse$Whole" "used" "I") ∈ BW := bw_1 (List.mem_of_getElem? (i := 58) (by decide +kernel)) (by decide +kernel)
theorem wd_59 : (Jvm.Cond.fieldLink "SealHouse$Desk" (89 : Nat) "SealHouse$Whole" "used" "I") ∈ BW := bw_1 (List.mem_of_getElem? (i := 59) (by decide +kernel)) (by decide +kernel)
theorem wd_60 : (Jvm.Cond.laysFinal "SealHouse$Whole" "SealHouse$Whole" "limbs" "[J") ∈ BW := bw_1 (List.mem_of_getElem? (i := 60) (by decide +kernel)) (by decide +kernel)
theorem wd_62 : (Jvm.Cond.lays "SealHouse$Whole" "SealHouse$Whole" "used" "I") ∈ BW := bw_1 (List.mem_of_getElem? (i := 62) (by decide +kernel)) (by decide +kernel)
theorem wd_64 : (Jvm.Cond.superclass "SealHouse$Whole" "java/lang/Object") ∈ BW := bw_1 (List.mem_of_getElem? (i := 64) (by decide +kernel)) (by decide +kernel)
theorem wd_65 : (Jvm.Cond.arrayClass Jvm.ClassFile.FieldType.long) ∈ BW := bw_1 (List.mem_of_getElem? (i := 65) (by decide +kernel)) (by decide +kernel)
theorem wd_66 : (Jvm.Cond.fieldLink "SealHouse$Desk" (12 : Nat) "SealHouse$Desk" "quotient" "LSealHouse$Whole;") ∈ BW := bw_1 (List.mem_of_getElem? (i := 66) (by decide +kernel)) (by decide +kernel)
theorem wd_67 : (Jvm.Cond.fieldLink "SealHouse" (308 : Nat) "SealHouse$Desk" "quotient" "LSealHouse$Whole;") ∈ BW := bw_1 (List.mem_of_getElem? (i := 67) (by decide +kernel)) (by decide +kernel)
theorem wd_68 : (Jvm.Cond.fieldLink "SealHouse$Desk" (18 : Nat) "SealHouse$Desk" "divisor" "LSealHouse$Whole;") ∈ BW := bw_1 (List.mem_of_getElem? (i := 68) (by decide +kernel)) (by decide +kernel)
theorem wd_69 : (Jvm.Cond.fieldLink "SealHouse$Desk" (21 : Nat) "SealHouse$Desk" "lift" "I") ∈ BW := bw_1 (List.mem_of_getElem? (i := 69) (by decide +kernel)) (by decide +kernel)
theorem wd_70 : (Jvm.Cond.fieldLink "SealHouse$Desk" (25 : Nat) "SealHouse$Desk" "dividend" "LSealHouse$Whole;") ∈ BW := bw_1 (List.mem_of_getElem? (i := 70) (by decide +kernel)) (by decide +kernel)
theorem wd_71 : (Jvm.Cond.fieldLink "SealHouse$Desk" (28 : Nat) "SealHouse$Desk" "factor" "LSealHouse$Whole;") ∈ BW := bw_1 (List.mem_of_getElem? (i := 71) (by decide +kernel)) (by decide +kernel)
theorem wd_72 : (Jvm.Cond.fieldLink "SealHouse$Desk" (31 : Nat) "SealHouse$Desk" "powerA" "LSealHouse$Whole;") ∈ BW := bw_1 (List.mem_of_getElem? (i := 72) (by decide +kernel)) (by decide +kernel)
theorem wd_73 : (Jvm.Cond.fieldLink "SealHouse$Desk" (34 : Nat) "SealHouse$Desk" "powerB" "LSealHouse$Whole;") ∈ BW := bw_1 (List.mem_of_getElem? (i := 73) (by decide +kernel)) (by decide +kernel)
theorem wd_74 : (Jvm.Cond.fieldLink "SealHouse$Desk" (37 : Nat) "SealHouse$Desk" "euclidA" "LSealHouse$Whole;") ∈ BW := bw_1 (List.mem_of_getElem? (i := 74) (by decide +kernel)) (by decide +kernel)
theorem wd_75 : (Jvm.Cond.fieldLink "SealHouse$Desk" (40 : Nat) "SealHouse$Desk" "euclidB" "LSealHouse$Whole;") ∈ BW := bw_1 (List.mem_of_getElem? (i := 75) (by decide +kernel)) (by decide +kernel)
theorem wd_76 : (Jvm.Cond.fieldLink "SealHouse$Desk" (43 : Nat) "SealHouse$Desk" "euclidC" "LSealHouse$Whole;") ∈ BW := bw_1 (List.mem_of_getElem? (i := 76) (by decide +kernel)) (by decide +kernel)
theorem wd_77 : (Jvm.Cond.fieldLink "SealHouse$Desk" (46 : Nat) "SealHouse$Desk" "timesA" "LSealHouse$Whole;") ∈ BW := bw_1 (List.mem_of_getElem? (i := 77) (by decide +kernel)) (by decide +kernel)
theorem wd_78 : (Jvm.Cond.fieldLink "SealHouse$Desk" (49 : Nat) "SealHouse$Desk" "timesB" "LSealHouse$Whole;") ∈ BW := bw_1 (List.mem_of_getElem? (i := 78) (by decide +kernel)) (by decide +kernel)
theorem wd_79 : (Jvm.Cond.fieldLink "SealHouse$Desk" (52 : Nat) "SealHouse$Desk" "timesC" "LSealHouse$Whole;") ∈ BW := bw_1 (List.mem_of_getElem? (i := 79) (by decide +kernel)) (by decide +kernel)
theorem wd_80 : (Jvm.Cond.fieldLink "SealHouse$Desk" (55 : Nat) "SealHouse$Desk" "less" "LSealHouse$Whole;") ∈ BW := bw_1 (List.mem_of_getElem? (i := 80) (by decide +kernel)) (by decide +kernel)
theorem wd_81 : (Jvm.Cond.fieldLink "SealHouse$Desk" (58 : Nat) "SealHouse$Desk" "odd" "LSealHouse$Whole;") ∈ BW := bw_1 (List.mem_of_getElem? (i := 81) (by decide +kernel)) (by decide +kernel)
theorem wd_82 : (Jvm.Cond.fieldLink "SealHouse$Desk" (61 : Nat) "SealHouse$Desk" "base" "LSealHouse$Whole;") ∈ BW := bw_1 (List.mem_of_getElem? (i := 82) (by decide +kernel)) (by decide +kernel)
theorem wd_83 : (Jvm.Cond.fieldLink "SealHouse$Desk" (64 : Nat) "SealHouse$Desk" "witness" "LSealHouse$Whole;") ∈ BW := bw_1 (List.mem_of_getElem? (i := 83) (by decide +kernel)) (by decide +kernel)
theorem wd_84 : (Jvm.Cond.laysFinal "SealHouse$Desk" "SealHouse$Desk" "quotient" "LSealHouse$Whole;") ∈ BW := bw_1 (List.mem_of_getElem? (i := 84) (by decide +kernel)) (by decide +kernel)
theorem wd_86 : (Jvm.Cond.laysFinal "SealHouse$Desk" "SealHouse$Desk" "divisor" "LSealHouse$Whole;") ∈ BW := bw_1 (List.mem_of_getElem? (i := 86) (by decide +kernel)) (by decide +kernel)
theorem wd_88 : (Jvm.Cond.lays "SealHouse$Desk" "SealHouse$Desk" "lift" "I") ∈ BW := bw_1 (List.mem_of_getElem? (i := 88) (by decide +kernel)) (by decide +kernel)
theorem wd_90 : (Jvm.Cond.laysFinal "SealHouse$Desk" "SealHouse$Desk" "dividend" "LSealHouse$Whole;") ∈ BW := bw_1 (List.mem_of_getElem? (i := 90) (by decide +kernel)) (by decide +kernel)
theorem wd_92 : (Jvm.Cond.laysFinal "SealHouse$Desk" "SealHouse$Desk" "factor" "LSealHouse$Whole;") ∈ BW := bw_1 (List.mem_of_getElem? (i := 92) (by decide +kernel)) (by decide +kernel)
theorem wd_94 : (Jvm.Cond.laysFinal "SealHouse$Desk" "SealHouse$Desk" "powerA" "LSealHouse$Whole;") ∈ BW := bw_1 (List.mem_of_getElem? (i := 94) (by decide +kernel)) (by decide +kernel)
theorem wd_96 : (Jvm.Cond.laysFinal "SealHouse$Desk" "SealHouse$Desk" "powerB" "LSealHouse$Whole;") ∈ BW := bw_1 (List.mem_of_getElem? (i := 96) (by decide +kernel)) (by decide +kernel)
theorem wd_98 : (Jvm.Cond.laysFinal "SealHouse$Desk" "SealHouse$Desk" "euclidA" "LSealHouse$Whole;") ∈ BW := bw_1 (List.mem_of_getElem? (i := 98) (by decide +kernel)) (by decide +kernel)
theorem wd_100 : (Jvm.Cond.laysFinal "SealHouse$Desk" "SealHouse$Desk" "euclidB" "LSealHouse$Whole;") ∈ BW := bw_1 (List.mem_of_getElem? (i := 100) (by decide +kernel)) (by decide +kernel)
theorem wd_102 : (Jvm.Cond.laysFinal "SealHouse$Desk" "SealHouse$Desk" "euclidC" "LSealHouse$Whole;") ∈ BW := bw_1 (List.mem_of_getElem? (i := 102) (by decide +kernel)) (by decide +kernel)
theorem wd_104 : (Jvm.Cond.laysFinal "SealHouse$Desk" "SealHouse$Desk" "timesA" "LSealHouse$Whole;") ∈ BW := bw_1 (List.mem_of_getElem? (i := 104) (by decide +kernel)) (by decide +kernel)
theorem wd_106 : (Jvm.Cond.laysFinal "SealHouse$Desk" "SealHouse$Desk" "timesB" "LSealHouse$Whole;") ∈ BW := bw_1 (List.mem_of_getElem? (i := 106) (by decide +kernel)) (by decide +kernel)
theorem wd_108 : (Jvm.Cond.laysFinal "SealHouse$Desk" "SealHouse$Desk" "timesC" "LSealHouse$Whole;") ∈ BW := bw_1 (List.mem_of_getElem? (i := 108) (by decide +kernel)) (by decide +kernel)
theorem wd_110 : (Jvm.Cond.laysFinal "SealHouse$Desk" "SealHouse$Desk" "less" "LSealHouse$Whole;") ∈ BW := bw_1 (List.mem_of_getElem? (i := 110) (by decide +kernel)) (by decide +kernel)
theorem wd_112 : (Jvm.Cond.laysFinal "SealHouse$Desk" "SealHouse$Desk" "odd" "LSealHouse$Whole;") ∈ BW := bw_1 (List.mem_of_getElem? (i := 112) (by decide +kernel)) (by decide +kernel)
theorem wd_114 : (Jvm.Cond.laysFinal "SealHouse$Desk" "SealHouse$Desk" "base" "LSealHouse$Whole;") ∈ BW := bw_1 (List.mem_of_getElem? (i := 114) (by decide +kernel)) (by decide +kernel)
theorem wd_116 : (Jvm.Cond.laysFinal "SealHouse$Desk" "SealHouse$Desk" "witness" "LSealHouse$Whole;") ∈ BW := bw_1 (List.mem_of_getElem? (i := 116) (by decide +kernel)) (by decide +kernel)
theorem wd_118 : (Jvm.Cond.superclass "SealHouse$Desk" "java/lang/Object") ∈ BW := bw_1 (List.mem_of_getElem? (i := 118) (by decide +kernel)) (by decide +kernel)
theorem wd_119 : (Jvm.Cond.classLink "SealHouse" (39 : Nat) "SealHouse$Digester") ∈ BW := bw_1 (List.mem_of_getElem? (i := 119) (by decide +kernel)) (by decide +kernel)
theorem wd_120 : (Jvm.Cond.instantiable "SealHouse$Digester" (5 : Nat)) ∈ BW := bw_1 (List.mem_of_getElem? (i := 120) (by decide +kernel)) (by decide +kernel)
theorem wd_122 : (Jvm.Cond.instanceMethod ({ cls := "SealHouse$Digester", name := "<init>", desc := "()V" } : Jvm.MethodName)) ∈ BW := bw_1 (List.mem_of_getElem? (i := 122) (by decide +kernel)) (by decide +kernel)
theorem wd_123 : (Jvm.Cond.code ({ cls := "SealHouse$Digester", name := "<init>", desc := "()V" } : Jvm.MethodName) prog_3_method_1_code (1 : Nat) (Option.none : Option Jvm.ClassFile.FieldType)) ∈ BW := bw_1 (List.mem_of_getElem? (i := 123) rfl) rfl
theorem wd_124 : (Jvm.Cond.methodLink "SealHouse$Digester" (3 : Nat) ({ cls := "java/lang/Object", name := "<init>", desc := "()V" } : Jvm.MethodName)) ∈ BW := bw_1 (List.mem_of_getElem? (i := 124) (by decide +kernel)) (by decide +kernel)
theorem wd_125 : (Jvm.Cond.classLink "SealHouse$Digester" (21 : Nat) "SealHouse$Row") ∈ BW := bw_1 (List.mem_of_getElem? (i := 125) (by decide +kernel)) (by decide +kernel)
theorem wd_126 : (Jvm.Cond.methodLink "SealHouse$Digester" (23 : Nat) ({ cls := "SealHouse$Row", name := "<init>", desc := "(I)V" } : Jvm.MethodName)) ∈ BW := bw_1 (List.mem_of_getElem? (i := 126) (by decide +kernel)) (by decide +kernel)
theorem wd_127 : (Jvm.Cond.fieldLink "SealHouse$Digester" (11 : Nat) "SealHouse$Digester" "words" "[I") ∈ BW := bw_1 (List.mem_of_getElem? (i := 127) (by decide +kernel)) (by decide +kernel)
theorem wd_128 : (Jvm.Cond.fieldLink "SealHouse$Digester" (15 : Nat) "SealHouse$Digester" "state" "[I") ∈ BW := bw_1 (List.mem_of_getElem? (i := 128) (by decide +kernel)) (by decide +kernel)
theorem wd_129 : (Jvm.Cond.fieldLink "SealHouse$Digester" (18 : Nat) "SealHouse$Digester" "mixed" "[I") ∈ BW := bw_1 (List.mem_of_getElem? (i := 129) (by decide +kernel)) (by decide +kernel)
theorem wd_130 : (Jvm.Cond.fieldLink "SealHouse$Digester" (26 : Nat) "SealHouse$Digester" "counted" "LSealHouse$Row;") ∈ BW := bw_1 (List.mem_of_getElem? (i := 130) (by decide +kernel)) (by decide +kernel)
theorem wd_131 : (Jvm.Cond.fieldLink "SealHouse$Digester" (30 : Nat) "SealHouse$Digester" "piece" "LSealHouse$Row;") ∈ BW := bw_1 (List.mem_of_getElem? (i := 131) (by decide +kernel)) (by decide +kernel)
theorem wd_132 : (Jvm.Cond.laysFinal "SealHouse$Digester" "SealHouse$Digester" "words" "[I") ∈ BW := bw_1 (List.mem_of_getElem? (i := 132) (by decide +kernel)) (by decide +kernel)
theorem wd_134 : (Jvm.Cond.laysFinal "SealHouse$Digester" "SealHouse$Digester" "state" "[I") ∈ BW := bw_1 (List.mem_of_getElem? (i := 134) (by decide +kernel)) (by decide +kernel)
theorem wd_136 : (Jvm.Cond.laysFinal "SealHouse$Digester" "SealHouse$Digester" "mixed" "[I") ∈ BW := bw_1 (List.mem_of_getElem? (i := 136) (by decide +kernel)) (by decide +kernel)
theorem wd_138 : (Jvm.Cond.laysFinal "SealHouse$Digester" "SealHouse$Digester" "counted" "LSealHouse$Row;") ∈ BW := bw_1 (List.mem_of_getElem? (i := 138) (by decide +kernel)) (by decide +kernel)
theorem wd_140 : (Jvm.Cond.laysFinal "SealHouse$Digester" "SealHouse$Digester" "piece" "LSealHouse$Row;") ∈ BW := bw_1 (List.mem_of_getElem? (i := 140) (by decide +kernel)) (by decide +kernel)
theorem wd_142 : (Jvm.Cond.superclass "SealHouse$Digester" "java/lang/Object") ∈ BW := bw_1 (List.mem_of_getElem? (i := 142) (by decide +kernel)) (by decide +kernel)
theorem wd_143 : (Jvm.Cond.arrayClass Jvm.ClassFile.FieldType.int) ∈ BW := bw_1 (List.mem_of_getElem? (i := 143) (by decide +kernel)) (by decide +kernel)
theorem wd_144 : (Jvm.Cond.classLink "SealHouse" (46 : Nat) "SealHouse$Padder") ∈ BW := bw_1 (List.mem_of_getElem? (i := 144) (by decide +kernel)) (by decide +kernel)
theorem wd_145 : (Jvm.Cond.instantiable "SealHouse$Padder" (6 : Nat)) ∈ BW := bw_1 (List.mem_of_getElem? (i := 145) (by decide +kernel)) (by decide +kernel)
theorem wd_146 : (Jvm.Cond.methodLink "SealHouse" (48 : Nat) ({ cls := "SealHouse$Padder", name := "<init>", desc := "(LSealHouse$Digester;)V" } : Jvm.MethodName)) ∈ BW := bw_1 (List.mem_of_getElem? (i := 146) (by decide +kernel)) (by decide +kernel)
theorem wd_147 : (Jvm.Cond.instanceMethod ({ cls := "SealHouse$Padder", name := "<init>", desc := "(LSealHouse$Digester;)V" } : Jvm.MethodName)) ∈ BW := bw_1 (List.mem_of_getElem? (i := 147) (by decide +kernel)) (by decide +kernel)
theorem wd_148 : (Jvm.Cond.code ({ cls := "SealHouse$Padder", name := "<init>", desc := "(LSealHouse$Digester;)V" } : Jvm.MethodName) prog_5_method_1_code (2 : Nat) (Option.none : Option Jvm.ClassFile.FieldType)) ∈ BW := bw_1 (List.mem_of_getElem? (i := 148) rfl) rfl
theorem wd_149 : (Jvm.Cond.methodLink "SealHouse$Padder" (3 : Nat) ({ cls := "java/lang/Object", name := "<init>", desc := "()V" } : Jvm.MethodName)) ∈ BW := bw_1 (List.mem_of_getElem? (i := 149) (by decide +kernel)) (by decide +kernel)
theorem wd_150 : (Jvm.Cond.classLink "SealHouse$Padder" (9 : Nat) "SealHouse$Row") ∈ BW := bw_1 (List.mem_of_getElem? (i := 150) (by decide +kernel)) (by decide +kernel)
theorem wd_151 : (Jvm.Cond.methodLink "SealHouse$Padder" (11 : Nat) ({ cls := "SealHouse$Row", name := "<init>", desc := "(I)V" } : Jvm.MethodName)) ∈ BW := bw_1 (List.mem_of_getElem? (i := 151) (by decide +kernel)) (by decide +kernel)
theorem wd_152 : (Jvm.Cond.fieldLink "SealHouse$Padder" (32 : Nat) "SealHouse$Padder" "digester" "LSealHouse$Digester;") ∈ BW := bw_1 (List.mem_of_getElem? (i := 152) (by decide +kernel)) (by decide +kernel)
theorem wd_153 : (Jvm.Cond.fieldLink "SealHouse$Padder" (14 : Nat) "SealHouse$Padder" "data" "LSealHouse$Row;") ∈ BW := bw_1 (List.mem_of_getElem? (i := 153) (by decide +kernel)) (by decide +kernel)
theorem wd_154 : (Jvm.Cond.fieldLink "SealHouse$Padder" (20 : Nat) "SealHouse$Padder" "mask" "LSealHouse$Row;") ∈ BW := bw_1 (List.mem_of_getElem? (i := 154) (by decide +kernel)) (by decide +kernel)
theorem wd_155 : (Jvm.Cond.fieldLink "SealHouse$Padder" (23 : Nat) "SealHouse$Padder" "seed" "LSealHouse$Row;") ∈ BW := bw_1 (List.mem_of_getElem? (i := 155) (by decide +kernel)) (by decide +kernel)
theorem wd_156 : (Jvm.Cond.fieldLink "SealHouse$Padder" (26 : Nat) "SealHouse$Padder" "proof" "LSealHouse$Row;") ∈ BW := bw_1 (List.mem_of_getElem? (i := 156) (by decide +kernel)) (by decide +kernel)
theorem wd_157 : (Jvm.Cond.fieldLink "SealHouse$Padder" (29 : Nat) "SealHouse$Padder" "salted" "LSealHouse$Row;") ∈ BW := bw_1 (List.mem_of_getElem? (i := 157) (by decide +kernel)) (by decide +kernel)
theorem wd_158 : (Jvm.Cond.laysFinal "SealHouse$Padder" "SealHouse$Padder" "digester" "LSealHouse$Digester;") ∈ BW := bw_1 (List.mem_of_getElem? (i := 158) (by decide +kernel)) (by decide +kernel)
theorem wd_160 : (Jvm.Cond.laysFinal "SealHouse$Padder" "SealHouse$Padder" "data" "LSealHouse$Row;") ∈ BW := bw_1 (List.mem_of_getElem? (i := 160) (by decide +kernel)) (by decide +kernel)
theorem wd_162 : (Jvm.Cond.laysFinal "SealHouse$Padder" "SealHouse$Padder" "mask" "LSealHouse$Row;") ∈ BW := bw_1 (List.mem_of_getElem? (i := 162) (by decide +kernel)) (by decide +kernel)
theorem wd_164 : (Jvm.Cond.laysFinal "SealHouse$Padder" "SealHouse$Padder" "seed" "LSealHouse$Row;") ∈ BW := bw_1 (List.mem_of_getElem? (i := 164) (by decide +kernel)) (by decide +kernel)
theorem wd_166 : (Jvm.Cond.laysFinal "SealHouse$Padder" "SealHouse$Padder" "proof" "LSealHouse$Row;") ∈ BW := bw_1 (List.mem_of_getElem? (i := 166) (by decide +kernel)) (by decide +kernel)
theorem wd_168 : (Jvm.Cond.laysFinal "SealHouse$Padder" "SealHouse$Padder" "salted" "LSealHouse$Row;") ∈ BW := bw_1 (List.mem_of_getElem? (i := 168) (by decide +kernel)) (by decide +kernel)
theorem wd_170 : (Jvm.Cond.superclass "SealHouse$Padder" "java/lang/Object") ∈ BW := bw_1 (List.mem_of_getElem? (i := 170) (by decide +kernel)) (by decide +kernel)
theorem wd_171 : (Jvm.Cond.classLink "SealHouse" (61 : Nat) "SealHouse$Whole") ∈ BW := bw_1 (List.mem_of_getElem? (i := 171) (by decide +kernel)) (by decide +kernel)
theorem wd_172 : (Jvm.Cond.methodLink "SealHouse" (63 : Nat) ({ cls := "SealHouse$Whole", name := "<init>", desc := "()V" } : Jvm.MethodName)) ∈ BW := bw_1 (List.mem_of_getElem? (i := 172) (by decide +kernel)) (by decide +kernel)
theorem wd_173 : (Jvm.Cond.fieldLink "SealHouse" (11 : Nat) "SealHouse" "slots" "[LSealHouse$Row;") ∈ BW := bw_1 (List.mem_of_getElem? (i := 173) (by decide +kernel)) (by decide +kernel)
theorem wd_174 : (Jvm.Cond.fieldLink "SealHouse" (18 : Nat) "SealHouse" "tape" "LSealHouse$Row;") ∈ BW := bw_1 (List.mem_of_getElem? (i := 174) (by decide +kernel)) (by decide +kernel)
theorem wd_175 : (Jvm.Cond.fieldLink "SealHouse" (24 : Nat) "SealHouse" "ring" "[LSealHouse$Key;") ∈ BW := bw_1 (List.mem_of_getElem? (i := 175) (by decide +kernel)) (by decide +kernel)
theorem wd_176 : (Jvm.Cond.fieldLink "SealHouse" (28 : Nat) "SealHouse" "ringed" "I") ∈ BW := bw_1 (List.mem_of_getElem? (i := 176) (by decide +kernel)) (by decide +kernel)
theorem wd_177 : (Jvm.Cond.fieldLink "SealHouse" (35 : Nat) "SealHouse" "desk" "LSealHouse$Desk;") ∈ BW := bw_1 (List.mem_of_getElem? (i := 177) (by decide +kernel)) (by decide +kernel)
theorem wd_178 : (Jvm.Cond.fieldLink "SealHouse" (42 : Nat) "SealHouse" "digester" "LSealHouse$Digester;") ∈ BW := bw_1 (List.mem_of_getElem? (i := 178) (by decide +kernel)) (by decide +kernel)
theorem wd_179 : (Jvm.Cond.fieldLink "SealHouse" (51 : Nat) "SealHouse" "padder" "LSealHouse$Padder;") ∈ BW := bw_1 (List.mem_of_getElem? (i := 179) (by decide +kernel)) (by decide +kernel)
theorem wd_180 : (Jvm.Cond.fieldLink "SealHouse" (55 : Nat) "SealHouse" "answer" "LSealHouse$Row;") ∈ BW := bw_1 (List.mem_of_getElem? (i := 180) (by decide +kernel)) (by decide +kernel)
theorem wd_181 : (Jvm.Cond.fieldLink "SealHouse" (58 : Nat) "SealHouse" "block" "LSealHouse$Row;") ∈ BW := bw_1 (List.mem_of_getElem? (i := 181) (by decide +kernel)) (by decide +kernel)
theorem wd_182 : (Jvm.Cond.fieldLink "SealHouse" (64 : Nat) "SealHouse" "first" "LSealHouse$Whole;") ∈ BW := bw_1 (List.mem_of_getElem? (i := 182) (by decide +kernel)) (by decide +kernel)
theorem wd_183 : (Jvm.Cond.fieldLink "SealHouse" (68 : Nat) "SealHouse" "second" "LSealHouse$Whole;") ∈ BW := bw_1 (List.mem_of_getElem? (i := 183) (by decide +kernel)) (by decide +kernel)
theorem wd_184 : (Jvm.Cond.fieldLink "SealHouse" (71 : Nat) "SealHouse" "third" "LSealHouse$Whole;") ∈ BW := bw_1 (List.mem_of_getElem? (i := 184) (by decide +kernel)) (by decide +kernel)
theorem wd_185 : (Jvm.Cond.fieldLink "SealHouse" (74 : Nat) "SealHouse" "result" "LSealHouse$Whole;") ∈ BW := bw_1 (List.mem_of_getElem? (i := 185) (by decide +kernel)) (by decide +kernel)
theorem wd_186 : (Jvm.Cond.fieldLink "SealHouse" (77 : Nat) "SealHouse" "lessP" "LSealHouse$Whole;") ∈ BW := bw_1 (List.mem_of_getElem? (i := 186) (by decide +kernel)) (by decide +kernel)
theorem wd_187 : (Jvm.Cond.fieldLink "SealHouse" (80 : Nat) "SealHouse" "lessQ" "LSealHouse$Whole;") ∈ BW := bw_1 (List.mem_of_getElem? (i := 187) (by decide +kernel)) (by decide +kernel)
theorem wd_188 : (Jvm.Cond.fieldLink "SealHouse" (83 : Nat) "SealHouse" "common" "LSealHouse$Whole;") ∈ BW := bw_1 (List.mem_of_getElem? (i := 188) (by decide +kernel)) (by decide +kernel)
theorem wd_189 : (Jvm.Cond.laysFinal "SealHouse" "SealHouse" "slots" "[LSealHouse$Row;") ∈ BW := bw_1 (List.mem_of_getElem? (i := 189) (by decide +kernel)) (by decide +kernel)
theorem wd_191 : (Jvm.Cond.laysFinal "SealHouse" "SealHouse" "tape" "LSealHouse$Row;") ∈ BW := bw_1 (List.mem_of_getElem? (i := 191) (by decide +kernel)) (by decide +kernel)
theorem wd_193 : (Jvm.Cond.laysFinal "SealHouse" "SealHouse" "ring" "[LSealHouse$Key;") ∈ BW := bw_1 (List.mem_of_getElem? (i := 193) (by decide +kernel)) (by decide +kernel)
theorem wd_195 : (Jvm.Cond.lays "SealHouse" "SealHouse" "ringed" "I") ∈ BW := bw_1 (List.mem_of_getElem? (i := 195) (by decide +kernel)) (by decide +kernel)
theorem wd_197 : (Jvm.Cond.laysFinal "SealHouse" "SealHouse" "desk" "LSealHouse$Desk;") ∈ BW := bw_1 (List.mem_of_getElem? (i := 197) (by decide +kernel)) (by decide +kernel)
theorem wd_199 : (Jvm.Cond.laysFinal "SealHouse" "SealHouse" "digester" "LSealHouse$Digester;") ∈ BW := bw_1 (List.mem_of_getElem? (i := 199) (by decide +kernel)) (by decide +kernel)
theorem wd_201 : (Jvm.Cond.laysFinal "SealHouse" "SealHouse" "padder" "LSealHouse$Padder;") ∈ BW := bw_1 (List.mem_of_getElem? (i := 201) (by decide +kernel)) (by decide +kernel)
theorem wd_203 : (Jvm.Cond.laysFinal "SealHouse" "SealHouse" "answer" "LSealHouse$Row;") ∈ BW := bw_1 (List.mem_of_getElem? (i := 203) (by decide +kernel)) (by decide +kernel)
theorem wd_205 : (Jvm.Cond.laysFinal "SealHouse" "SealHouse" "block" "LSealHouse$Row;") ∈ BW := bw_1 (List.mem_of_getElem? (i := 205) (by decide +kernel)) (by decide +kernel)
theorem wd_207 : (Jvm.Cond.laysFinal "SealHouse" "SealHouse" "first" "LSealHouse$Whole;") ∈ BW := bw_1 (List.mem_of_getElem? (i := 207) (by decide +kernel)) (by decide +kernel)
theorem wd_209 : (Jvm.Cond.laysFinal "SealHouse" "SealHouse" "second" "LSealHouse$Whole;") ∈ BW := bw_1 (List.mem_of_getElem? (i := 209) (by decide +kernel)) (by decide +kernel)
theorem wd_211 : (Jvm.Cond.laysFinal "SealHouse" "SealHouse" "third" "LSealHouse$Whole;") ∈ BW := bw_1 (List.mem_of_getElem? (i := 211) (by decide +kernel)) (by decide +kernel)
theorem wd_213 : (Jvm.Cond.laysFinal "SealHouse" "SealHouse" "result" "LSealHouse$Whole;") ∈ BW := bw_1 (List.mem_of_getElem? (i := 213) (by decide +kernel)) (by decide +kernel)
theorem wd_215 : (Jvm.Cond.laysFinal "SealHouse" "SealHouse" "lessP" "LSealHouse$Whole;") ∈ BW := bw_1 (List.mem_of_getElem? (i := 215) (by decide +kernel)) (by decide +kernel)
theorem wd_217 : (Jvm.Cond.laysFinal "SealHouse" "SealHouse" "lessQ" "LSealHouse$Whole;") ∈ BW := bw_1 (List.mem_of_getElem? (i := 217) (by decide +kernel)) (by decide +kernel)
theorem wd_219 : (Jvm.Cond.laysFinal "SealHouse" "SealHouse" "common" "LSealHouse$Whole;") ∈ BW := bw_1 (List.mem_of_getElem? (i := 219) (by decide +kernel)) (by decide +kernel)
theorem wd_221 : (Jvm.Cond.superclass "SealHouse" "java/lang/Object") ∈ BW := bw_1 (List.mem_of_getElem? (i := 221) (by decide +kernel)) (by decide +kernel)
theorem wd_222 : (Jvm.Cond.methodLink "SealHouseLaw" (100 : Nat) ({ cls := "SealHouse", name := "feed", desc := "(IIIII)I" } : Jvm.MethodName)) ∈ BW := bw_1 (List.mem_of_getElem? (i := 222) (by decide +kernel)) (by decide +kernel)
theorem wd_223 : (Jvm.Cond.instanceMethod ({ cls := "SealHouse", name := "feed", desc := "(IIIII)I" } : Jvm.MethodName)) ∈ BW := bw_1 (List.mem_of_getElem? (i := 223) (by decide +kernel)) (by decide +kernel)
theorem wd_224 : (Jvm.Cond.selects "SealHouse" ({ cls := "SealHouse", name := "feed", desc := "(IIIII)I" } : Jvm.MethodName) ({ cls := "SealHouse", name := "feed", desc := "(IIIII)I" } : Jvm.MethodName)) ∈ BW := bw_1 (List.mem_of_getElem? (i := 224) (by decide +kernel)) (by decide +kernel)
theorem wd_225 : (Jvm.Cond.code ({ cls := "SealHouse", name := "feed", desc := "(IIIII)I" } : Jvm.MethodName) prog_1_method_2_code (6 : Nat) (Option.some Jvm.ClassFile.FieldType.int)) ∈ BW := bw_1 (List.mem_of_getElem? (i := 225) rfl) rfl
theorem wd_226 : (Jvm.Cond.methodLink "SealHouse" (89 : Nat) ({ cls := "SealHouse$Row", name := "addWord", desc := "(I)V" } : Jvm.MethodName)) ∈ BW := bw_1 (List.mem_of_getElem? (i := 226) (by decide +kernel)) (by decide +kernel)
theorem wd_227 : (Jvm.Cond.instanceMethod ({ cls := "SealHouse$Row", name := "addWord", desc := "(I)V" } : Jvm.MethodName)) ∈ BW := bw_1 (List.mem_of_getElem? (i := 227) (by decide +kernel)) (by decide +kernel)
theorem wd_228 : (Jvm.Cond.selects "SealHouse$Row" ({ cls := "SealHouse$Row", name := "addWord", desc := "(I)V" } : Jvm.MethodName) ({ cls := "SealHouse$Row", name := "addWord", desc := "(I)V" } : Jvm.MethodName)) ∈ BW := bw_1 (List.mem_of_getElem? (i := 228) (by decide +kernel)) (by decide +kernel)
theorem wd_229 : (Jvm.Cond.code ({ cls := "SealHouse$Row", name := "addWord", desc := "(I)V" } : Jvm.MethodName) prog_6_method_6_code (2 : Nat) (Option.none : Option Jvm.ClassFile.FieldType)) ∈ BW := bw_1 (List.mem_of_getElem? (i := 229) rfl) rfl
theorem wd_230 : (Jvm.Cond.methodLink "SealHouse$Row" (17 : Nat) ({ cls := "SealHouse$Row", name := "add", desc := "(I)V" } : Jvm.MethodName)) ∈ BW := bw_1 (List.mem_of_getElem? (i := 230) (by decide +kernel)) (by decide +kernel)
theorem wd_231 : (Jvm.Cond.instanceMethod ({ cls := "SealHouse$Row", name := "add", desc := "(I)V" } : Jvm.MethodName)) ∈ BW := bw_1 (List.mem_of_getElem? (i := 231) (by decide +kernel)) (by decide +kernel)
theorem wd_232 : (Jvm.Cond.selects "SealHouse$Row" ({ cls := "SealHouse$Row", name := "add", desc := "(I)V" } : Jvm.MethodName) ({ cls := "SealHouse$Row", name := "add", desc := "(I)V" } : Jvm.MethodName)) ∈ BW := bw_1 (List.mem_of_getElem? (i := 232) (by decide +kernel)) (by decide +kernel)
theorem wd_233 : (Jvm.Cond.code ({ cls := "SealHouse$Row", name := "add", desc := "(I)V" } : Jvm.MethodName) prog_6_method_5_code (2 : Nat) (Option.none : Option Jvm.ClassFile.FieldType)) ∈ BW := bw_1 (List.mem_of_getElem? (i := 233) rfl) rfl
theorem wd_234 : (Jvm.Cond.methodLink "SealHouseLaw" (192 : Nat) ({ cls := "SealHouse", name := "keys", desc := "()I" } : Jvm.MethodName)) ∈ BW := bw_1 (List.mem_of_getElem? (i := 234) (by decide +kernel)) (by decide +kernel)
theorem wd_235 : (Jvm.Cond.instanceMethod ({ cls := "SealHouse", name := "keys", desc := "()I" } : Jvm.MethodName)) ∈ BW := bw_1 (List.mem_of_getElem? (i := 235) (by decide +kernel)) (by decide +kernel)
theorem wd_236 : (Jvm.Cond.selects "SealHouse" ({ cls := "SealHouse", name := "keys", desc := "()I" } : Jvm.MethodName) ({ cls := "SealHouse", name := "keys", desc := "()I" } : Jvm.MethodName)) ∈ BW := bw_1 (List.mem_of_getElem? (i := 236) (by decide +kernel)) (by decide +kernel)
theorem wd_237 : (Jvm.Cond.code ({ cls := "SealHouse", name := "keys", desc := "()I" } : Jvm.MethodName) prog_1_method_28_code (1 : Nat) (Option.some Jvm.ClassFile.FieldType.int)) ∈ BW := bw_1 (List.mem_of_getElem? (i := 237) rfl) rfl
theorem wd_238 : (Jvm.Cond.methodLink "SealHouseLaw" (104 : Nat) ({ cls := "SealHouseLaw", name := "load", desc := "(LSealHouse;II)I" } : Jvm.MethodName)) ∈ BW := bw_1 (List.mem_of_getElem? (i := 238) (by decide +kernel)) (by decide +kernel)
theorem wd_239 : (Jvm.Cond.static ({ cls := "SealHouseLaw", name := "load", desc := "(LSealHouse;II)I" } : Jvm.MethodName)) ∈ BW := bw_1 (List.mem_of_getElem? (i := 239) (by decide +kernel)) (by decide +kernel)
theorem wd_240 : (Jvm.Cond.codeWith ({ cls := "SealHouseLaw", name := "load", desc := "(LSealHouse;II)I" } : Jvm.MethodName) method_3_code (4 : Nat) (Option.some Jvm.ClassFile.FieldType.int) [((0 : Nat), (6 : Nat), (9 : Nat), (13 : Nat)), ((0 : Nat), (6 : Nat), (12 : Nat), (15 : Nat))]) ∈ BW := bw_2 (List.mem_of_getElem? (i := 0) rfl) rfl
theorem wd_241 : (Jvm.Cond.classLink "SealHouseLaw" (13 : Nat) "java/lang/IndexOutOfBoundsException") ∈ BW := bw_2 (List.mem_of_getElem? (i := 1) (by decide +kernel)) (by decide +kernel)
theorem wd_242 : (Jvm.Cond.classLink "SealHouseLaw" (15 : Nat) "java/lang/IllegalArgumentException") ∈ BW := bw_2 (List.mem_of_getElem? (i := 2) (by decide +kernel)) (by decide +kernel)
theorem wd_243 : (Jvm.Cond.methodLink "SealHouseLaw" (7 : Nat) ({ cls := "SealHouse", name := "load", desc := "(II)V" } : Jvm.MethodName)) ∈ BW := bw_2 (List.mem_of_getElem? (i := 3) (by decide +kernel)) (by decide +kernel)
theorem wd_244 : (Jvm.Cond.instanceMethod ({ cls := "SealHouse", name := "load", desc := "(II)V" } : Jvm.MethodName)) ∈ BW := bw_2 (List.mem_of_getElem? (i := 4) (by decide +kernel)) (by decide +kernel)
theorem wd_245 : (Jvm.Cond.selects "SealHouse" ({ cls := "SealHouse", name := "load", desc := "(II)V" } : Jvm.MethodName) ({ cls := "SealHouse", name := "load", desc := "(II)V" } : Jvm.MethodName)) ∈ BW := bw_2 (List.mem_of_getElem? (i := 5) (by decide +kernel)) (by decide +kernel)
theorem wd_246 : (Jvm.Cond.code ({ cls := "SealHouse", name := "load", desc := "(II)V" } : Jvm.MethodName) prog_1_method_3_code (4 : Nat) (Option.none : Option Jvm.ClassFile.FieldType)) ∈ BW := bw_2 (List.mem_of_getElem? (i := 6) rfl) rfl
theorem wd_247 : (Jvm.Cond.methodLink "SealHouse" (92 : Nat) ({ cls := "SealHouse", name := "slotAt", desc := "(I)LSealHouse$Row;" } : Jvm.MethodName)) ∈ BW := bw_2 (List.mem_of_getElem? (i := 7) (by decide +kernel)) (by decide +kernel)
theorem wd_249 : (Jvm.Cond.instanceMethod ({ cls := "SealHouse", name := "slotAt", desc := "(I)LSealHouse$Row;" } : Jvm.MethodName)) ∈ BW := bw_2 (List.mem_of_getElem? (i := 9) (by decide +kernel)) (by decide +kernel)
theorem wd_250 : (Jvm.Cond.code ({ cls := "SealHouse", name := "slotAt", desc := "(I)LSealHouse$Row;" } : Jvm.MethodName) prog_1_method_29_code (2 : Nat) (Option.some (Jvm.ClassFile.FieldType.object "SealHouse$Row"))) ∈ BW := bw_2 (List.mem_of_getElem? (i := 10) rfl) rfl
theorem wd_251 : (Jvm.Cond.classLink "SealHouse" (277 : Nat) "java/lang/IndexOutOfBoundsException") ∈ BW := bw_2 (List.mem_of_getElem? (i := 11) (by decide +kernel)) (by decide +kernel)
theorem wd_252 : (Jvm.Cond.instantiable "java/lang/IndexOutOfBoundsException" (6 : Nat)) ∈ BW := bw_2 (List.mem_of_getElem? (i := 12) (by decide +kernel)) (by decide +kernel)
theorem wd_260 : (Jvm.Cond.selects "java/lang/IndexOutOfBoundsException" ({ cls := "java/lang/Throwable", name := "fillInStackTrace", desc := "(I)Ljava/lang/Throwable;" } : Jvm.MethodName) ({ cls := "java/lang/Throwable", name := "fillInStackTrace", desc := "(I)Ljava/lang/Throwable;" } : Jvm.MethodName)) ∈ BW := bw_2 (List.mem_of_getElem? (i := 20) (by decide +kernel)) (by decide +kernel)
theorem wd_261 : (Jvm.Cond.selects "java/lang/IndexOutOfBoundsException" ({ cls := "java/lang/Throwable", name := "fillInStackTrace", desc := "()Ljava/lang/Throwable;" } : Jvm.MethodName) ({ cls := "java/lang/Throwable", name := "fillInStackTrace", desc := "()Ljava/lang/Throwable;" } : Jvm.MethodName)) ∈ BW := bw_2 (List.mem_of_getElem? (i := 21) (by decide +kernel)) (by decide +kernel)
theorem wd_262 : (Jvm.Cond.lays "java/lang/IndexOutOfBoundsException" "java/lang/Throwable" "cause" "Ljava/lang/Throwable;") ∈ BW := bw_2 (List.mem_of_getElem? (i := 22) (by decide +kernel)) (by decide +kernel)
theorem wd_263 : (Jvm.Cond.lays "java/lang/Throwable" "java/lang/Throwable" "cause" "Ljava/lang/Throwable;") ∈ BW := bw_2 (List.mem_of_getElem? (i := 23) (by decide +kernel)) (by decide +kernel)
theorem wd_264 : (Jvm.Cond.lays "java/lang/IndexOutOfBoundsException" "java/lang/Throwable" "stackTrace" "[Ljava/lang/StackTraceElement;") ∈ BW := bw_2 (List.mem_of_getElem? (i := 24) (by decide +kernel)) (by decide +kernel)
theorem wd_265 : (Jvm.Cond.lays "java/lang/Throwable" "java/lang/Throwable" "stackTrace" "[Ljava/lang/StackTraceElement;") ∈ BW := bw_2 (List.mem_of_getElem? (i := 25) (by decide +kernel)) (by decide +kernel)
theorem wd_266 : (Jvm.Cond.lays "java/lang/IndexOutOfBoundsException" "java/lang/Throwable" "suppressedExceptions" "Ljava/util/List;") ∈ BW := bw_2 (List.mem_of_getElem? (i := 26) (by decide +kernel)) (by decide +kernel)
theorem wd_267 : (Jvm.Cond.lays "java/lang/Throwable" "java/lang/Throwable" "suppressedExceptions" "Ljava/util/List;") ∈ BW := bw_2 (List.mem_of_getElem? (i := 27) (by decide +kernel)) (by decide +kernel)
theorem wd_268 : (Jvm.Cond.lays "java/lang/IndexOutOfBoundsException" "java/lang/Throwable" "detailMessage" "Ljava/lang/String;") ∈ BW := bw_2 (List.mem_of_getElem? (i := 28) (by decide +kernel)) (by decide +kernel)
theorem wd_269 : (Jvm.Cond.lays "java/lang/Throwable" "java/lang/Throwable" "detailMessage" "Ljava/lang/String;") ∈ BW := bw_2 (List.mem_of_getElem? (i := 29) (by decide +kernel)) (by decide +kernel)
theorem wd_270 : (Jvm.Cond.lays "java/lang/IndexOutOfBoundsException" "java/lang/Throwable" "backtrace" "Ljava/lang/Object;") ∈ BW := bw_2 (List.mem_of_getElem? (i := 30) (by decide +kernel)) (by decide +kernel)
theorem wd_271 : (Jvm.Cond.lays "java/lang/Throwable" "java/lang/Throwable" "backtrace" "Ljava/lang/Object;") ∈ BW := bw_2 (List.mem_of_getElem? (i := 31) (by decide +kernel)) (by decide +kernel)
theorem wd_272 : (Jvm.Cond.fieldLink "java/lang/Throwable" (198 : Nat) "java/lang/Throwable" "backtrace" "Ljava/lang/Object;") ∈ BW := bw_2 (List.mem_of_getElem? (i := 32) (by decide +kernel)) (by decide +kernel)
theorem wd_273 : (Jvm.Cond.superclass "java/lang/Throwable" "java/lang/Object") ∈ BW := bw_2 (List.mem_of_getElem? (i := 33) (by decide +kernel)) (by decide +kernel)
theorem wd_274 : (Jvm.Cond.instanceMethod ({ cls := "java/lang/Throwable", name := "<init>", desc := "()V" } : Jvm.MethodName)) ∈ BW := bw_2 (List.mem_of_getElem? (i := 34) (by decide +kernel)) (by decide +kernel)
theorem wd_275 : (Jvm.Cond.code ({ cls := "java/lang/Throwable", name := "<init>", desc := "()V" } : Jvm.MethodName) prog_16_method_1_code (1 : Nat) (Option.none : Option Jvm.ClassFile.FieldType)) ∈ BW := bw_2 (List.mem_of_getElem? (i := 35) rfl) rfl
theorem wd_276 : (Jvm.Cond.methodLink "java/lang/Throwable" (1 : Nat) ({ cls := "java/lang/Object", name := "<init>", desc := "()V" } : Jvm.MethodName)) ∈ BW := bw_2 (List.mem_of_getElem? (i := 36) (by decide +kernel)) (by decide +kernel)
theorem wd_277 : (Jvm.Cond.fieldLink "java/lang/Throwable" (13 : Nat) "java/lang/Throwable" "UNASSIGNED_STACK" "[Ljava/lang/StackTraceElement;") ∈ BW := bw_2 (List.mem_of_getElem? (i := 37) (by decide +kernel)) (by decide +kernel)
theorem wd_279 : (Jvm.Cond.fieldLink "java/lang/Throwable" (20 : Nat) "java/lang/Throwable" "SUPPRESSED_SENTINEL" "Ljava/util/List;") ∈ BW := bw_2 (List.mem_of_getElem? (i := 39) (by decide +kernel)) (by decide +kernel)
theorem wd_281 : (Jvm.Cond.methodLink "java/lang/Throwable" (27 : Nat) ({ cls := "java/lang/Throwable", name := "fillInStackTrace", desc := "()Ljava/lang/Throwable;" } : Jvm.MethodName)) ∈ BW := bw_2 (List.mem_of_getElem? (i := 41) (by decide +kernel)) (by decide +kernel)
theorem wd_282 : (Jvm.Cond.instanceMethod ({ cls := "java/lang/Throwable", name := "fillInStackTrace", desc := "()Ljava/lang/Throwable;" } : Jvm.MethodName)) ∈ BW := bw_2 (List.mem_of_getElem? (i := 42) (by decide +kernel)) (by decide +kernel)
theorem wd_284 : (Jvm.Cond.selects "java/lang/IllegalArgumentException" ({ cls := "java/lang/Throwable", name := "fillInStackTrace", desc := "()Ljava/lang/Throwable;" } : Jvm.MethodName) ({ cls := "java/lang/Throwable", name := "fillInStackTrace", desc := "()Ljava/lang/Throwable;" } : Jvm.MethodName)) ∈ BW := bw_2 (List.mem_of_getElem? (i := 44) (by decide +kernel)) (by decide +kernel)
theorem wd_286 : (Jvm.Cond.methodLink "java/lang/Throwable" (202 : Nat) ({ cls := "java/lang/Throwable", name := "fillInStackTrace", desc := "(I)Ljava/lang/Throwable;" } : Jvm.MethodName)) ∈ BW := bw_2 (List.mem_of_getElem? (i := 46) (by decide +kernel)) (by decide +kernel)
theorem wd_288 : (Jvm.Cond.instanceMethod ({ cls := "java/lang/Throwable", name := "fillInStackTrace", desc := "(I)Ljava/lang/Throwable;" } : Jvm.MethodName)) ∈ BW := bw_2 (List.mem_of_getElem? (i := 48) (by decide +kernel)) (by decide +kernel)
theorem wd_289 : (Jvm.Cond.instantiable "java/lang/Throwable" (6 : Nat)) ∈ BW := bw_2 (List.mem_of_getElem? (i := 49) (by decide +kernel)) (by decide +kernel)
theorem wd_292 : (Jvm.Cond.methodLink "SealHouse" (281 : Nat) ({ cls := "java/lang/IndexOutOfBoundsException", name := "<init>", desc := "(Ljava/lang/String;)V" } : Jvm.MethodName)) ∈ BW := bw_2 (List.mem_of_getElem? (i := 52) (by decide +kernel)) (by decide +kernel)
theorem wd_293 : (Jvm.Cond.instanceMethod ({ cls := "java/lang/IndexOutOfBoundsException", name := "<init>", desc := "(Ljava/lang/String;)V" } : Jvm.MethodName)) ∈ BW := bw_2 (List.mem_of_getElem? (i := 53) (by decide +kernel)) (by decide +kernel)
theorem wd_294 : (Jvm.Cond.code ({ cls := "java/lang/IndexOutOfBoundsException", name := "<init>", desc := "(Ljava/lang/String;)V" } : Jvm.MethodName) prog_13_method_2_code (2 : Nat) (Option.none : Option Jvm.ClassFile.FieldType)) ∈ BW := bw_2 (List.mem_of_getElem? (i := 54) rfl) rfl
theorem wd_295 : (Jvm.Cond.methodLink "java/lang/IndexOutOfBoundsException" (7 : Nat) ({ cls := "java/lang/RuntimeException", name := "<init>", desc := "(Ljava/lang/String;)V" } : Jvm.MethodName)) ∈ BW := bw_2 (List.mem_of_getElem? (i := 55) (by decide +kernel)) (by decide +kernel)
theorem wd_296 : (Jvm.Cond.instanceMethod ({ cls := "java/lang/RuntimeException", name := "<init>", desc := "(Ljava/lang/String;)V" } : Jvm.MethodName)) ∈ BW := bw_2 (List.mem_of_getElem? (i := 56) (by decide +kernel)) (by decide +kernel)
theorem wd_297 : (Jvm.Cond.code ({ cls := "java/lang/RuntimeException", name := "<init>", desc := "(Ljava/lang/String;)V" } : Jvm.MethodName) prog_14_method_2_code (2 : Nat) (Option.none : Option Jvm.ClassFile.FieldType)) ∈ BW := bw_2 (List.mem_of_getElem? (i := 57) rfl) rfl
theorem wd_298 : (Jvm.Cond.methodLink "java/lang/RuntimeException" (7 : Nat) ({ cls := "java/lang/Exception", name := "<init>", desc := "(Ljava/lang/String;)V" } : Jvm.MethodName)) ∈ BW := bw_2 (List.mem_of_getElem? (i := 58) (by decide +kernel)) (by decide +kernel)
theorem wd_299 : (Jvm.Cond.instanceMethod ({ cls := "java/lang/Exception", name := "<init>", desc := "(Ljava/lang/String;)V" } : Jvm.MethodName)) ∈ BW := bw_2 (List.mem_of_getElem? (i := 59) (by decide +kernel)) (by decide +kernel)
theorem wd_300 : (Jvm.Cond.code ({ cls := "java/lang/Exception", name := "<init>", desc := "(Ljava/lang/String;)V" } : Jvm.MethodName) prog_11_method_2_code (2 : Nat) (Option.none : Option Jvm.ClassFile.FieldType)) ∈ BW := bw_2 (List.mem_of_getElem? (i := 60) rfl) rfl
theorem wd_301 : (Jvm.Cond.methodLink "java/lang/Exception" (7 : Nat) ({ cls := "java/lang/Throwable", name := "<init>", desc := "(Ljava/lang/String;)V" } : Jvm.MethodName)) ∈ BW := bw_2 (List.mem_of_getElem? (i := 61) (by decide +kernel)) (by decide +kernel)
theorem wd_302 : (Jvm.Cond.instanceMethod ({ cls := "java/lang/Throwable", name := "<init>", desc := "(Ljava/lang/String;)V" } : Jvm.MethodName)) ∈ BW := bw_2 (List.mem_of_getElem? (i := 62) (by decide +kernel)) (by decide +kernel)
theorem wd_303 : (Jvm.Cond.code ({ cls := "java/lang/Throwable", name := "<init>", desc := "(Ljava/lang/String;)V" } : Jvm.MethodName) prog_16_method_2_code (2 : Nat) (Option.none : Option Jvm.ClassFile.FieldType)) ∈ BW := bw_2 (List.mem_of_getElem? (i := 63) rfl) rfl
theorem wd_304 : (Jvm.Cond.fieldLink "java/lang/Throwable" (198 : Nat) "java/lang/Throwable" "backtrace" "Ljava/lang/Object;") ∈ BW := bw_2 (List.mem_of_getElem? (i := 64) (by decide +kernel)) (by decide +kernel)
theorem wd_305 : (Jvm.Cond.fieldLink "java/lang/Throwable" (31 : Nat) "java/lang/Throwable" "detailMessage" "Ljava/lang/String;") ∈ BW := bw_2 (List.mem_of_getElem? (i := 65) (by decide +kernel)) (by decide +kernel)
theorem wd_306 : (Jvm.Cond.fieldLink "java/lang/Throwable" (7 : Nat) "java/lang/Throwable" "cause" "Ljava/lang/Throwable;") ∈ BW := bw_2 (List.mem_of_getElem? (i := 66) (by decide +kernel)) (by decide +kernel)
theorem wd_307 : (Jvm.Cond.fieldLink "java/lang/Throwable" (17 : Nat) "java/lang/Throwable" "stackTrace" "[Ljava/lang/StackTraceElement;") ∈ BW := bw_2 (List.mem_of_getElem? (i := 67) (by decide +kernel)) (by decide +kernel)
theorem wd_308 : (Jvm.Cond.fieldLink "java/lang/Throwable" (24 : Nat) "java/lang/Throwable" "suppressedExceptions" "Ljava/util/List;") ∈ BW := bw_2 (List.mem_of_getElem? (i := 68) (by decide +kernel)) (by decide +kernel)
theorem wd_313 : (Jvm.Cond.lays "java/lang/IndexOutOfBoundsException" "java/lang/Throwable" "depth" "I") ∈ BW := bw_2 (List.mem_of_getElem? (i := 73) (by decide +kernel)) (by decide +kernel)
theorem wd_316 : (Jvm.Cond.superclass "java/lang/IndexOutOfBoundsException" "java/lang/RuntimeException") ∈ BW := bw_2 (List.mem_of_getElem? (i := 76) (by decide +kernel)) (by decide +kernel)
theorem wd_317 : (Jvm.Cond.classLink "SealHouse" (96 : Nat) "java/lang/IllegalArgumentException") ∈ BW := bw_2 (List.mem_of_getElem? (i := 77) (by decide +kernel)) (by decide +kernel)
theorem wd_318 : (Jvm.Cond.instantiable "java/lang/IllegalArgumentException" (6 : Nat)) ∈ BW := bw_2 (List.mem_of_getElem? (i := 78) (by decide +kernel)) (by decide +kernel)
theorem wd_320 : (Jvm.Cond.selects "java/lang/IllegalArgumentException" ({ cls := "java/lang/Throwable", name := "fillInStackTrace", desc := "(I)Ljava/lang/Throwable;" } : Jvm.MethodName) ({ cls := "java/lang/Throwable", name := "fillInStackTrace", desc := "(I)Ljava/lang/Throwable;" } : Jvm.MethodName)) ∈ BW := bw_2 (List.mem_of_getElem? (i := 80) (by decide +kernel)) (by decide +kernel)
theorem wd_321 : (Jvm.Cond.lays "java/lang/IllegalArgumentException" "java/lang/Throwable" "cause" "Ljava/lang/Throwable;") ∈ BW := bw_2 (List.mem_of_getElem? (i := 81) (by decide +kernel)) (by decide +kernel)
theorem wd_322 : (Jvm.Cond.lays "java/lang/IllegalArgumentException" "java/lang/Throwable" "stackTrace" "[Ljava/lang/StackTraceElement;") ∈ BW := bw_2 (List.mem_of_getElem? (i := 82) (by decide +kernel)) (by decide +kernel)
theorem wd_323 : (Jvm.Cond.lays "java/lang/IllegalArgumentException" "java/lang/Throwable" "suppressedExceptions" "Ljava/util/List;") ∈ BW := bw_2 (List.mem_of_getElem? (i := 83) (by decide +kernel)) (by decide +kernel)
theorem wd_324 : (Jvm.Cond.lays "java/lang/IllegalArgumentException" "java/lang/Throwable" "detailMessage" "Ljava/lang/String;") ∈ BW := bw_2 (List.mem_of_getElem? (i := 84) (by decide +kernel)) (by decide +kernel)
theorem wd_325 : (Jvm.Cond.lays "java/lang/IllegalArgumentException" "java/lang/Throwable" "backtrace" "Ljava/lang/Object;") ∈ BW := bw_2 (List.mem_of_getElem? (i := 85) (by decide +kernel)) (by decide +kernel)
theorem wd_327 : (Jvm.Cond.methodLink "SealHouse" (100 : Nat) ({ cls := "java/lang/IllegalArgumentException", name := "<init>", desc := "(Ljava/lang/String;)V" } : Jvm.MethodName)) ∈ BW := bw_2 (List.mem_of_getElem? (i := 87) (by decide +kernel)) (by decide +kernel)
theorem wd_328 : (Jvm.Cond.instanceMethod ({ cls := "java/lang/IllegalArgumentException", name := "<init>", desc := "(Ljava/lang/String;)V" } : Jvm.MethodName)) ∈ BW := bw_2 (List.mem_of_getElem? (i := 88) (by decide +kernel)) (by decide +kernel)
theorem wd_329 : (Jvm.Cond.code ({ cls := "java/lang/IllegalArgumentException", name := "<init>", desc := "(Ljava/lang/String;)V" } : Jvm.MethodName) prog_12_method_2_code (2 : Nat) (Option.none : Option Jvm.ClassFile.FieldType)) ∈ BW := bw_2 (List.mem_of_getElem? (i := 89) rfl) rfl
theorem wd_330 : (Jvm.Cond.methodLink "java/lang/IllegalArgumentException" (7 : Nat) ({ cls := "java/lang/RuntimeException", name := "<init>", desc := "(Ljava/lang/String;)V" } : Jvm.MethodName)) ∈ BW := bw_2 (List.mem_of_getElem? (i := 90) (by decide +kernel)) (by decide +kernel)
theorem wd_331 : (Jvm.Cond.lays "java/lang/IllegalArgumentException" "java/lang/Throwable" "depth" "I") ∈ BW := bw_2 (List.mem_of_getElem? (i := 91) (by decide +kernel)) (by decide +kernel)
theorem wd_332 : (Jvm.Cond.superclass "java/lang/IllegalArgumentException" "java/lang/RuntimeException") ∈ BW := bw_2 (List.mem_of_getElem? (i := 92) (by decide +kernel)) (by decide +kernel)
theorem wd_333 : (Jvm.Cond.methodLink "SealHouse" (103 : Nat) ({ cls := "SealHouse$Row", name := "takePart", desc := "(LSealHouse$Row;II)V" } : Jvm.MethodName)) ∈ BW := bw_2 (List.mem_of_getElem? (i := 93) (by decide +kernel)) (by decide +kernel)
theorem wd_334 : (Jvm.Cond.instanceMethod ({ cls := "SealHouse$Row", name := "takePart", desc := "(LSealHouse$Row;II)V" } : Jvm.MethodName)) ∈ BW := bw_2 (List.mem_of_getElem? (i := 94) (by decide +kernel)) (by decide +kernel)
theorem wd_335 : (Jvm.Cond.selects "SealHouse$Row" ({ cls := "SealHouse$Row", name := "takePart", desc := "(LSealHouse$Row;II)V" } : Jvm.MethodName) ({ cls := "SealHouse$Row", name := "takePart", desc := "(LSealHouse$Row;II)V" } : Jvm.MethodName)) ∈ BW := bw_2 (List.mem_of_getElem? (i := 95) (by decide +kernel)) (by decide +kernel)
theorem wd_336 : (Jvm.Cond.code ({ cls := "SealHouse$Row", name := "takePart", desc := "(LSealHouse$Row;II)V" } : Jvm.MethodName) prog_6_method_11_code (4 : Nat) (Option.none : Option Jvm.ClassFile.FieldType)) ∈ BW := bw_2 (List.mem_of_getElem? (i := 96) rfl) rfl
theorem wd_337 : (Jvm.Cond.methodLink "SealHouse$Row" (25 : Nat) ({ cls := "SealHouse$Row", name := "addPart", desc := "(LSealHouse$Row;II)V" } : Jvm.MethodName)) ∈ BW := bw_2 (List.mem_of_getElem? (i := 97) (by decide +kernel)) (by decide +kernel)
theorem wd_338 : (Jvm.Cond.instanceMethod ({ cls := "SealHouse$Row", name := "addPart", desc := "(LSealHouse$Row;II)V" } : Jvm.MethodName)) ∈ BW := bw_2 (List.mem_of_getElem? (i := 98) (by decide +kernel)) (by decide +kernel)
theorem wd_339 : (Jvm.Cond.selects "SealHouse$Row" ({ cls := "SealHouse$Row", name := "addPart", desc := "(LSealHouse$Row;II)V" } : Jvm.MethodName) ({ cls := "SealHouse$Row", name := "addPart", desc := "(LSealHouse$Row;II)V" } : Jvm.MethodName)) ∈ BW := bw_2 (List.mem_of_getElem? (i := 99) (by decide +kernel)) (by decide +kernel)
theorem wd_340 : (Jvm.Cond.code ({ cls := "SealHouse$Row", name := "addPart", desc := "(LSealHouse$Row;II)V" } : Jvm.MethodName) prog_6_method_8_code (5 : Nat) (Option.none : Option Jvm.ClassFile.FieldType)) ∈ BW := bw_2 (List.mem_of_getElem? (i := 100) rfl) rfl
theorem wd_341 : (Jvm.Cond.methodLink "SealHouse$Row" (21 : Nat) ({ cls := "SealHouse$Row", name := "at", desc := "(I)I" } : Jvm.MethodName)) ∈ BW := bw_2 (List.mem_of_getElem? (i := 101) (by decide +kernel)) (by decide +kernel)
theorem wd_342 : (Jvm.Cond.instanceMethod ({ cls := "SealHouse$Row", name := "at", desc := "(I)I" } : Jvm.MethodName)) ∈ BW := bw_2 (List.mem_of_getElem? (i := 102) (by decide +kernel)) (by decide +kernel)
theorem wd_343 : (Jvm.Cond.selects "SealHouse$Row" ({ cls := "SealHouse$Row", name := "at", desc := "(I)I" } : Jvm.MethodName) ({ cls := "SealHouse$Row", name := "at", desc := "(I)I" } : Jvm.MethodName)) ∈ BW := bw_2 (List.mem_of_getElem? (i := 103) (by decide +kernel)) (by decide +kernel)
theorem wd_344 : (Jvm.Cond.code ({ cls := "SealHouse$Row", name := "at", desc := "(I)I" } : Jvm.MethodName) prog_6_method_3_code (2 : Nat) (Option.some Jvm.ClassFile.FieldType.int)) ∈ BW := bw_2 (List.mem_of_getElem? (i := 104) rfl) rfl
theorem wd_345 : (Jvm.Cond.methodLink "SealHouseLaw" (114 : Nat) ({ cls := "SealHouseLaw", name := "size", desc := "(LSealHouse;I[J)I" } : Jvm.MethodName)) ∈ BW := bw_2 (List.mem_of_getElem? (i := 105) (by decide +kernel)) (by decide +kernel)
theorem wd_346 : (Jvm.Cond.static ({ cls := "SealHouseLaw", name := "size", desc := "(LSealHouse;I[J)I" } : Jvm.MethodName)) ∈ BW := bw_2 (List.mem_of_getElem? (i := 106) (by decide +kernel)) (by decide +kernel)
theorem wd_347 : (Jvm.Cond.codeWith ({ cls := "SealHouseLaw", name := "size", desc := "(LSealHouse;I[J)I" } : Jvm.MethodName) method_4_code (4 : Nat) (Option.some Jvm.ClassFile.FieldType.int) [((0 : Nat), (9 : Nat), (12 : Nat), (13 : Nat))]) ∈ BW := bw_2 (List.mem_of_getElem? (i := 107) rfl) rfl
theorem wd_348 : (Jvm.Cond.methodLink "SealHouseLaw" (17 : Nat) ({ cls := "SealHouse", name := "size", desc := "(I)I" } : Jvm.MethodName)) ∈ BW := bw_2 (List.mem_of_getElem? (i := 108) (by decide +kernel)) (by decide +kernel)
theorem wd_349 : (Jvm.Cond.instanceMethod ({ cls := "SealHouse", name := "size", desc := "(I)I" } : Jvm.MethodName)) ∈ BW := bw_2 (List.mem_of_getElem? (i := 109) (by decide +kernel)) (by decide +kernel)
theorem wd_350 : (Jvm.Cond.selects "SealHouse" ({ cls := "SealHouse", name := "size", desc := "(I)I" } : Jvm.MethodName) ({ cls := "SealHouse", name := "size", desc := "(I)I" } : Jvm.MethodName)) ∈ BW := bw_2 (List.mem_of_getElem? (i := 110) (by decide +kernel)) (by decide +kernel)
theorem wd_351 : (Jvm.Cond.code ({ cls := "SealHouse", name := "size", desc := "(I)I" } : Jvm.MethodName) prog_1_method_4_code (2 : Nat) (Option.some Jvm.ClassFile.FieldType.int)) ∈ BW := bw_2 (List.mem_of_getElem? (i := 111) rfl) rfl
theorem wd_352 : (Jvm.Cond.methodLink "SealHouseLaw" (118 : Nat) ({ cls := "SealHouseLaw", name := "octet", desc := "(LSealHouse;II[J)I" } : Jvm.MethodName)) ∈ BW := bw_2 (List.mem_of_getElem? (i := 112) (by decide +kernel)) (by decide +kernel)
theorem wd_353 : (Jvm.Cond.static ({ cls := "SealHouseLaw", name := "octet", desc := "(LSealHouse;II[J)I" } : Jvm.MethodName)) ∈ BW := bw_2 (List.mem_of_getElem? (i := 113) (by decide +kernel)) (by decide +kernel)
theorem wd_354 : (Jvm.Cond.codeWith ({ cls := "SealHouseLaw", name := "octet", desc := "(LSealHouse;II[J)I" } : Jvm.MethodName) method_5_code (5 : Nat) (Option.some Jvm.ClassFile.FieldType.int) [((0 : Nat), (10 : Nat), (13 : Nat), (13 : Nat))]) ∈ BW := bw_2 (List.mem_of_getElem? (i := 114) rfl) rfl
theorem wd_355 : (Jvm.Cond.methodLink "SealHouseLaw" (21 : Nat) ({ cls := "SealHouse", name := "octet", desc := "(II)I" } : Jvm.MethodName)) ∈ BW := bw_2 (List.mem_of_getElem? (i := 115) (by decide +kernel)) (by decide +kernel)
theorem wd_356 : (Jvm.Cond.instanceMethod ({ cls := "SealHouse", name := "octet", desc := "(II)I" } : Jvm.MethodName)) ∈ BW := bw_2 (List.mem_of_getElem? (i := 116) (by decide +kernel)) (by decide +kernel)
theorem wd_357 : (Jvm.Cond.selects "SealHouse" ({ cls := "SealHouse", name := "octet", desc := "(II)I" } : Jvm.MethodName) ({ cls := "SealHouse", name := "octet", desc := "(II)I" } : Jvm.MethodName)) ∈ BW := bw_2 (List.mem_of_getElem? (i := 117) (by decide +kernel)) (by decide +kernel)
theorem wd_358 : (Jvm.Cond.code ({ cls := "SealHouse", name := "octet", desc := "(II)I" } : Jvm.MethodName) prog_1_method_5_code (4 : Nat) (Option.some Jvm.ClassFile.FieldType.int)) ∈ BW := bw_2 (List.mem_of_getElem? (i := 118) rfl) rfl
theorem wd_359 : (Jvm.Cond.methodLink "SealHouse" (107 : Nat) ({ cls := "SealHouse$Row", name := "has", desc := "(I)Z" } : Jvm.MethodName)) ∈ BW := bw_2 (List.mem_of_getElem? (i := 119) (by decide +kernel)) (by decide +kernel)
theorem wd_360 : (Jvm.Cond.instanceMethod ({ cls := "SealHouse$Row", name := "has", desc := "(I)Z" } : Jvm.MethodName)) ∈ BW := bw_2 (List.mem_of_getElem? (i := 120) (by decide +kernel)) (by decide +kernel)
theorem wd_361 : (Jvm.Cond.selects "SealHouse$Row" ({ cls := "SealHouse$Row", name := "has", desc := "(I)Z" } : Jvm.MethodName) ({ cls := "SealHouse$Row", name := "has", desc := "(I)Z" } : Jvm.MethodName)) ∈ BW := bw_2 (List.mem_of_getElem? (i := 121) (by decide +kernel)) (by decide +kernel)
theorem wd_362 : (Jvm.Cond.code ({ cls := "SealHouse$Row", name := "has", desc := "(I)Z" } : Jvm.MethodName) prog_6_method_2_code (2 : Nat) (Option.some Jvm.ClassFile.FieldType.boolean)) ∈ BW := bw_2 (List.mem_of_getElem? (i := 122) rfl) rfl
theorem wd_363 : (Jvm.Cond.methodLink "SealHouse" (111 : Nat) ({ cls := "SealHouse$Row", name := "at", desc := "(I)I" } : Jvm.MethodName)) ∈ BW := bw_2 (List.mem_of_getElem? (i := 123) (by decide +kernel)) (by decide +kernel)
theorem wd_364 : (Jvm.Cond.methodLink "SealHouseLaw" (122 : Nat) ({ cls := "SealHouseLaw", name := "cut", desc := "(LSealHouse;IIII[J)I" } : Jvm.MethodName)) ∈ BW := bw_2 (List.mem_of_getElem? (i := 124) (by decide +kernel)) (by decide +kernel)
theorem wd_365 : (Jvm.Cond.static ({ cls := "SealHouseLaw", name := "cut", desc := "(LSealHouse;IIII[J)I" } : Jvm.MethodName)) ∈ BW := bw_2 (List.mem_of_getElem? (i := 125) (by decide +kernel)) (by decide +kernel)
theorem wd_366 : (Jvm.Cond.codeWith ({ cls := "SealHouseLaw", name := "cut", desc := "(LSealHouse;IIII[J)I" } : Jvm.MethodName) method_6_code (7 : Nat) (Option.some Jvm.ClassFile.FieldType.int) [((0 : Nat), (14 : Nat), (17 : Nat), (13 : Nat)), ((0 : Nat), (14 : Nat), (21 : Nat), (15 : Nat))]) ∈ BW := bw_2 (List.mem_of_getElem? (i := 126) rfl) rfl
theorem wd_367 : (Jvm.Cond.methodLink "SealHouseLaw" (25 : Nat) ({ cls := "SealHouse", name := "cut", desc := "(IIII)I" } : Jvm.MethodName)) ∈ BW := bw_2 (List.mem_of_getElem? (i := 127) (by decide +kernel)) (by decide +kernel)
theorem wd_368 : (Jvm.Cond.instanceMethod ({ cls := "SealHouse", name := "cut", desc := "(IIII)I" } : Jvm.MethodName)) ∈ BW := bw_2 (List.mem_of_getElem? (i := 128) (by decide +kernel)) (by decide +kernel)
theorem wd_369 : (Jvm.Cond.selects "SealHouse" ({ cls := "SealHouse", name := "cut", desc := "(IIII)I" } : Jvm.MethodName) ({ cls := "SealHouse", name := "cut", desc := "(IIII)I" } : Jvm.MethodName)) ∈ BW := bw_2 (List.mem_of_getElem? (i := 129) (by decide +kernel)) (by decide +kernel)
theorem wd_370 : (Jvm.Cond.code ({ cls := "SealHouse", name := "cut", desc := "(IIII)I" } : Jvm.MethodName) prog_1_method_6_code (7 : Nat) (Option.some Jvm.ClassFile.FieldType.int)) ∈ BW := bw_2 (List.mem_of_getElem? (i := 130) rfl) rfl
theorem wd_372 : (Jvm.Cond.methodLink "SealHouse" (117 : Nat) ({ cls := "SealHouse$Row", name := "take", desc := "(LSealHouse$Row;)V" } : Jvm.MethodName)) ∈ BW := bw_2 (List.mem_of_getElem? (i := 132) (by decide +kernel)) (by decide +kernel)
theorem wd_373 : (Jvm.Cond.instanceMethod ({ cls := "SealHouse$Row", name := "take", desc := "(LSealHouse$Row;)V" } : Jvm.MethodName)) ∈ BW := bw_2 (List.mem_of_getElem? (i := 133) (by decide +kernel)) (by decide +kernel)
theorem wd_374 : (Jvm.Cond.selects "SealHouse$Row" ({ cls := "SealHouse$Row", name := "take", desc := "(LSealHouse$Row;)V" } : Jvm.MethodName) ({ cls := "SealHouse$Row", name := "take", desc := "(LSealHouse$Row;)V" } : Jvm.MethodName)) ∈ BW := bw_2 (List.mem_of_getElem? (i := 134) (by decide +kernel)) (by decide +kernel)
theorem wd_375 : (Jvm.Cond.code ({ cls := "SealHouse$Row", name := "take", desc := "(LSealHouse$Row;)V" } : Jvm.MethodName) prog_6_method_10_code (2 : Nat) (Option.none : Option Jvm.ClassFile.FieldType)) ∈ BW := bw_2 (List.mem_of_getElem? (i := 135) rfl) rfl
theorem wd_376 : (Jvm.Cond.methodLink "SealHouse$Row" (29 : Nat) ({ cls := "SealHouse$Row", name := "takePart", desc := "(LSealHouse$Row;II)V" } : Jvm.MethodName)) ∈ BW := bw_2 (List.mem_of_getElem? (i := 136) (by decide +kernel)) (by decide +kernel)
theorem wd_377 : (Jvm.Cond.methodLink "SealHouseLaw" (126 : Nat) ({ cls := "SealHouseLaw", name := "join", desc := "(LSealHouse;III[J)I" } : Jvm.MethodName)) ∈ BW := bw_2 (List.mem_of_getElem? (i := 137) (by decide +kernel)) (by decide +kernel)
theorem wd_378 : (Jvm.Cond.static ({ cls := "SealHouseLaw", name := "join", desc := "(LSealHouse;III[J)I" } : Jvm.MethodName)) ∈ BW := bw_2 (List.mem_of_getElem? (i := 138) (by decide +kernel)) (by decide +kernel)
theorem wd_379 : (Jvm.Cond.codeWith ({ cls := "SealHouseLaw", name := "join", desc := "(LSealHouse;III[J)I" } : Jvm.MethodName) method_7_code (6 : Nat) (Option.some Jvm.ClassFile.FieldType.int) [((0 : Nat), (12 : Nat), (15 : Nat), (13 : Nat))]) ∈ BW := bw_2 (List.mem_of_getElem? (i := 139) rfl) rfl
theorem wd_380 : (Jvm.Cond.methodLink "SealHouseLaw" (29 : Nat) ({ cls := "SealHouse", name := "join", desc := "(III)I" } : Jvm.MethodName)) ∈ BW := bw_2 (List.mem_of_getElem? (i := 140) (by decide +kernel)) (by decide +kernel)
theorem wd_381 : (Jvm.Cond.instanceMethod ({ cls := "SealHouse", name := "join", desc := "(III)I" } : Jvm.MethodName)) ∈ BW := bw_2 (List.mem_of_getElem? (i := 141) (by decide +kernel)) (by decide +kernel)
theorem wd_382 : (Jvm.Cond.selects "SealHouse" ({ cls := "SealHouse", name := "join", desc := "(III)I" } : Jvm.MethodName) ({ cls := "SealHouse", name := "join", desc := "(III)I" } : Jvm.MethodName)) ∈ BW := bw_2 (List.mem_of_getElem? (i := 142) (by decide +kernel)) (by decide +kernel)
theorem wd_383 : (Jvm.Cond.code ({ cls := "SealHouse", name := "join", desc := "(III)I" } : Jvm.MethodName) prog_1_method_7_code (7 : Nat) (Option.some Jvm.ClassFile.FieldType.int)) ∈ BW := bw_2 (List.mem_of_getElem? (i := 143) rfl) rfl
theorem wd_384 : (Jvm.Cond.methodLink "SealHouse" (121 : Nat) ({ cls := "SealHouse$Row", name := "addRow", desc := "(LSealHouse$Row;)V" } : Jvm.MethodName)) ∈ BW := bw_2 (List.mem_of_getElem? (i := 144) (by decide +kernel)) (by decide +kernel)
theorem wd_385 : (Jvm.Cond.instanceMethod ({ cls := "SealHouse$Row", name := "addRow", desc := "(LSealHouse$Row;)V" } : Jvm.MethodName)) ∈ BW := bw_2 (List.mem_of_getElem? (i := 145) (by decide +kernel)) (by decide +kernel)
theorem wd_386 : (Jvm.Cond.selects "SealHouse$Row" ({ cls := "SealHouse$Row", name := "addRow", desc := "(LSealHouse$Row;)V" } : Jvm.MethodName) ({ cls := "SealHouse$Row", name := "addRow", desc := "(LSealHouse$Row;)V" } : Jvm.MethodName)) ∈ BW := bw_2 (List.mem_of_getElem? (i := 146) (by decide +kernel)) (by decide +kernel)
theorem wd_387 : (Jvm.Cond.code ({ cls := "SealHouse$Row", name := "addRow", desc := "(LSealHouse$Row;)V" } : Jvm.MethodName) prog_6_method_9_code (2 : Nat) (Option.none : Option Jvm.ClassFile.FieldType)) ∈ BW := bw_2 (List.mem_of_getElem? (i := 147) rfl) rfl
theorem wd_388 : (Jvm.Cond.methodLink "SealHouseLaw" (130 : Nat) ({ cls := "SealHouseLaw", name := "change", desc := "(LSealHouse;III[J)I" } : Jvm.MethodName)) ∈ BW := bw_2 (List.mem_of_getElem? (i := 148) (by decide +kernel)) (by decide +kernel)
theorem wd_389 : (Jvm.Cond.static ({ cls := "SealHouseLaw", name := "change", desc := "(LSealHouse;III[J)I" } : Jvm.MethodName)) ∈ BW := bw_2 (List.mem_of_getElem? (i := 149) (by decide +kernel)) (by decide +kernel)
theorem wd_390 : (Jvm.Cond.codeWith ({ cls := "SealHouseLaw", name := "change", desc := "(LSealHouse;III[J)I" } : Jvm.MethodName) method_8_code (6 : Nat) (Option.some Jvm.ClassFile.FieldType.int) [((0 : Nat), (12 : Nat), (15 : Nat), (13 : Nat)), ((0 : Nat), (12 : Nat), (19 : Nat), (15 : Nat))]) ∈ BW := bw_2 (List.mem_of_getElem? (i := 150) rfl) rfl
theorem wd_391 : (Jvm.Cond.methodLink "SealHouseLaw" (33 : Nat) ({ cls := "SealHouse", name := "change", desc := "(III)I" } : Jvm.MethodName)) ∈ BW := bw_2 (List.mem_of_getElem? (i := 151) (by decide +kernel)) (by decide +kernel)
theorem wd_392 : (Jvm.Cond.instanceMethod ({ cls := "SealHouse", name := "change", desc := "(III)I" } : Jvm.MethodName)) ∈ BW := bw_2 (List.mem_of_getElem? (i := 152) (by decide +kernel)) (by decide +kernel)
theorem wd_393 : (Jvm.Cond.selects "SealHouse" ({ cls := "SealHouse", name := "change", desc := "(III)I" } : Jvm.MethodName) ({ cls := "SealHouse", name := "change", desc := "(III)I" } : Jvm.MethodName)) ∈ BW := bw_2 (List.mem_of_getElem? (i := 153) (by decide +kernel)) (by decide +kernel)
theorem wd_394 : (Jvm.Cond.code ({ cls := "SealHouse", name := "change", desc := "(III)I" } : Jvm.MethodName) prog_1_method_8_code (6 : Nat) (Option.some Jvm.ClassFile.FieldType.int)) ∈ BW := bw_2 (List.mem_of_getElem? (i := 154) rfl) rfl
theorem wd_396 : (Jvm.Cond.methodLink "SealHouse" (126 : Nat) ({ cls := "SealHouse$Row", name := "put", desc := "(II)V" } : Jvm.MethodName)) ∈ BW := bw_2 (List.mem_of_getElem? (i := 156) (by decide +kernel)) (by decide +kernel)
theorem wd_397 : (Jvm.Cond.instanceMethod ({ cls := "SealHouse$Row", name := "put", desc := "(II)V" } : Jvm.MethodName)) ∈ BW := bw_2 (List.mem_of_getElem? (i := 157) (by decide +kernel)) (by decide +kernel)
theorem wd_398 : (Jvm.Cond.selects "SealHouse$Row" ({ cls := "SealHouse$Row", name := "put", desc := "(II)V" } : Jvm.MethodName) ({ cls := "SealHouse$Row", name := "put", desc := "(II)V" } : Jvm.MethodName)) ∈ BW := bw_2 (List.mem_of_getElem? (i := 158) (by decide +kernel)) (by decide +kernel)
theorem wd_399 : (Jvm.Cond.code ({ cls := "SealHouse$Row", name := "put", desc := "(II)V" } : Jvm.MethodName) prog_6_method_4_code (3 : Nat) (Option.none : Option Jvm.ClassFile.FieldType)) ∈ BW := bw_2 (List.mem_of_getElem? (i := 159) rfl) rfl
theorem wd_400 : (Jvm.Cond.methodLink "SealHouseLaw" (133 : Nat) ({ cls := "SealHouseLaw", name := "calc", desc := "(LSealHouse;IIIII[J)I" } : Jvm.MethodName)) ∈ BW := bw_2 (List.mem_of_getElem? (i := 160) (by decide +kernel)) (by decide +kernel)
theorem wd_401 : (Jvm.Cond.static ({ cls := "SealHouseLaw", name := "calc", desc := "(LSealHouse;IIIII[J)I" } : Jvm.MethodName)) ∈ BW := bw_2 (List.mem_of_getElem? (i := 161) (by decide +kernel)) (by decide +kernel)
theorem wd_402 : (Jvm.Cond.codeWith ({ cls := "SealHouseLaw", name := "calc", desc := "(LSealHouse;IIIII[J)I" } : Jvm.MethodName) method_9_code (8 : Nat) (Option.some Jvm.ClassFile.FieldType.int) [((0 : Nat), (16 : Nat), (19 : Nat), (13 : Nat)), ((0 : Nat), (16 : Nat), (23 : Nat), (15 : Nat))]) ∈ BW := bw_2 (List.mem_of_getElem? (i := 162) rfl) rfl
theorem wd_403 : (Jvm.Cond.methodLink "SealHouseLaw" (36 : Nat) ({ cls := "SealHouse", name := "calc", desc := "(IIIII)I" } : Jvm.MethodName)) ∈ BW := bw_2 (List.mem_of_getElem? (i := 163) (by decide +kernel)) (by decide +kernel)
theorem wd_404 : (Jvm.Cond.instanceMethod ({ cls := "SealHouse", name := "calc", desc := "(IIIII)I" } : Jvm.MethodName)) ∈ BW := bw_2 (List.mem_of_getElem? (i := 164) (by decide +kernel)) (by decide +kernel)
theorem wd_405 : (Jvm.Cond.selects "SealHouse" ({ cls := "SealHouse", name := "calc", desc := "(IIIII)I" } : Jvm.MethodName) ({ cls := "SealHouse", name := "calc", desc := "(IIIII)I" } : Jvm.MethodName)) ∈ BW := bw_2 (List.mem_of_getElem? (i := 165) (by decide +kernel)) (by decide +kernel)
theorem wd_406 : (Jvm.Cond.code ({ cls := "SealHouse", name := "calc", desc := "(IIIII)I" } : Jvm.MethodName) prog_1_method_9_code (11 : Nat) (Option.some Jvm.ClassFile.FieldType.int)) ∈ BW := bw_2 (List.mem_of_getElem? (i := 166) rfl) rfl
theorem wd_408 : (Jvm.Cond.methodLink "SealHouse" (132 : Nat) ({ cls := "SealHouse$Whole", name := "read", desc := "(LSealHouse$Row;)V" } : Jvm.MethodName)) ∈ BW := bw_2 (List.mem_of_getElem? (i := 168) (by decide +kernel)) (by decide +kernel)
theorem wd_409 : (Jvm.Cond.instanceMethod ({ cls := "SealHouse$Whole", name := "read", desc := "(LSealHouse$Row;)V" } : Jvm.MethodName)) ∈ BW := bw_2 (List.mem_of_getElem? (i := 169) (by decide +kernel)) (by decide +kernel)
theorem wd_410 : (Jvm.Cond.selects "SealHouse$Whole" ({ cls := "SealHouse$Whole", name := "read", desc := "(LSealHouse$Row;)V" } : Jvm.MethodName) ({ cls := "SealHouse$Whole", name := "read", desc := "(LSealHouse$Row;)V" } : Jvm.MethodName)) ∈ BW := bw_2 (List.mem_of_getElem? (i := 170) (by decide +kernel)) (by decide +kernel)
theorem wd_411 : (Jvm.Cond.code ({ cls := "SealHouse$Whole", name := "read", desc := "(LSealHouse$Row;)V" } : Jvm.MethodName) prog_7_method_14_code (7 : Nat) (Option.none : Option Jvm.ClassFile.FieldType)) ∈ BW := bw_2 (List.mem_of_getElem? (i := 171) rfl) rfl
theorem wd_412 : (Jvm.Cond.methodLink "SealHouse$Whole" (38 : Nat) ({ cls := "SealHouse$Row", name := "at", desc := "(I)I" } : Jvm.MethodName)) ∈ BW := bw_2 (List.mem_of_getElem? (i := 172) (by decide +kernel)) (by decide +kernel)
theorem wd_413 : (Jvm.Cond.constantLong "SealHouse$Whole" (42 : Nat) (268435455 : Int64)) ∈ BW := bw_2 (List.mem_of_getElem? (i := 173) (by decide +kernel)) (by decide +kernel)
theorem wd_414 : (Jvm.Cond.methodLink "SealHouse$Whole" (29 : Nat) ({ cls := "SealHouse$Whole", name := "trim", desc := "(I)V" } : Jvm.MethodName)) ∈ BW := bw_2 (List.mem_of_getElem? (i := 174) (by decide +kernel)) (by decide +kernel)
theorem wd_415 : (Jvm.Cond.instanceMethod ({ cls := "SealHouse$Whole", name := "trim", desc := "(I)V" } : Jvm.MethodName)) ∈ BW := bw_2 (List.mem_of_getElem? (i := 175) (by decide +kernel)) (by decide +kernel)
theorem wd_416 : (Jvm.Cond.selects "SealHouse$Whole" ({ cls := "SealHouse$Whole", name := "trim", desc := "(I)V" } : Jvm.MethodName) ({ cls := "SealHouse$Whole", name := "trim", desc := "(I)V" } : Jvm.MethodName)) ∈ BW := bw_2 (List.mem_of_getElem? (i := 176) (by decide +kernel)) (by decide +kernel)
theorem wd_417 : (Jvm.Cond.code ({ cls := "SealHouse$Whole", name := "trim", desc := "(I)V" } : Jvm.MethodName) prog_7_method_11_code (3 : Nat) (Option.none : Option Jvm.ClassFile.FieldType)) ∈ BW := bw_2 (List.mem_of_getElem? (i := 177) rfl) rfl
theorem wd_418 : (Jvm.Cond.methodLink "SealHouse" (135 : Nat) ({ cls := "SealHouse", name := "reckonPlain", desc := "(I)I" } : Jvm.MethodName)) ∈ BW := bw_2 (List.mem_of_getElem? (i := 178) (by decide +kernel)) (by decide +kernel)
theorem wd_420 : (Jvm.Cond.instanceMethod ({ cls := "SealHouse", name := "reckonPlain", desc := "(I)I" } : Jvm.MethodName)) ∈ BW := bw_2 (List.mem_of_getElem? (i := 180) (by decide +kernel)) (by decide +kernel)
theorem wd_421 : (Jvm.Cond.code ({ cls := "SealHouse", name := "reckonPlain", desc := "(I)I" } : Jvm.MethodName) prog_1_method_33_code (2 : Nat) (Option.some Jvm.ClassFile.FieldType.int)) ∈ BW := bw_2 (List.mem_of_getElem? (i := 181) rfl) rfl
theorem wd_422 : (Jvm.Cond.methodLink "SealHouse" (290 : Nat) ({ cls := "SealHouse$Whole", name := "setSum", desc := "(LSealHouse$Whole;LSealHouse$Whole;)V" } : Jvm.MethodName)) ∈ BW := bw_2 (List.mem_of_getElem? (i := 182) (by decide +kernel)) (by decide +kernel)
theorem wd_423 : (Jvm.Cond.instanceMethod ({ cls := "SealHouse$Whole", name := "setSum", desc := "(LSealHouse$Whole;LSealHouse$Whole;)V" } : Jvm.MethodName)) ∈ BW := bw_2 (List.mem_of_getElem? (i := 183) (by decide +kernel)) (by decide +kernel)
theorem wd_424 : (Jvm.Cond.selects "SealHouse$Whole" ({ cls := "SealHouse$Whole", name := "setSum", desc := "(LSealHouse$Whole;LSealHouse$Whole;)V" } : Jvm.MethodName) ({ cls := "SealHouse$Whole", name := "setSum", desc := "(LSealHouse$Whole;LSealHouse$Whole;)V" } : Jvm.MethodName)) ∈ BW := bw_2 (List.mem_of_getElem? (i := 184) (by decide +kernel)) (by decide +kernel)
theorem wd_425 : (Jvm.Cond.code ({ cls := "SealHouse$Whole", name := "setSum", desc := "(LSealHouse$Whole;LSealHouse$Whole;)V" } : Jvm.MethodName) prog_7_method_17_code (9 : Nat) (Option.none : Option Jvm.ClassFile.FieldType)) ∈ BW := bw_2 (List.mem_of_getElem? (i := 185) rfl) rfl
theorem wd_426 : (Jvm.Cond.methodLink "SealHouse$Whole" (17 : Nat) ({ cls := "SealHouse$Whole", name := "limbAt", desc := "(I)J" } : Jvm.MethodName)) ∈ BW := bw_2 (List.mem_of_getElem? (i := 186) (by decide +kernel)) (by decide +kernel)
theorem wd_427 : (Jvm.Cond.instanceMethod ({ cls := "SealHouse$Whole", name := "limbAt", desc := "(I)J" } : Jvm.MethodName)) ∈ BW := bw_2 (List.mem_of_getElem? (i := 187) (by decide +kernel)) (by decide +kernel)
theorem wd_428 : (Jvm.Cond.selects "SealHouse$Whole" ({ cls := "SealHouse$Whole", name := "limbAt", desc := "(I)J" } : Jvm.MethodName) ({ cls := "SealHouse$Whole", name := "limbAt", desc := "(I)J" } : Jvm.MethodName)) ∈ BW := bw_2 (List.mem_of_getElem? (i := 188) (by decide +kernel)) (by decide +kernel)
theorem wd_429 : (Jvm.Cond.code ({ cls := "SealHouse$Whole", name := "limbAt", desc := "(I)J" } : Jvm.MethodName) prog_7_method_5_code (2 : Nat) (Option.some Jvm.ClassFile.FieldType.long)) ∈ BW := bw_2 (List.mem_of_getElem? (i := 189) rfl) rfl
theorem wd_430 : (Jvm.Cond.methodLink "SealHouse" (145 : Nat) ({ cls := "SealHouse$Whole", name := "order", desc := "(LSealHouse$Whole;)I" } : Jvm.MethodName)) ∈ BW := bw_2 (List.mem_of_getElem? (i := 190) (by decide +kernel)) (by decide +kernel)
theorem wd_431 : (Jvm.Cond.instanceMethod ({ cls := "SealHouse$Whole", name := "order", desc := "(LSealHouse$Whole;)I" } : Jvm.MethodName)) ∈ BW := bw_2 (List.mem_of_getElem? (i := 191) (by decide +kernel)) (by decide +kernel)
theorem wd_432 : (Jvm.Cond.selects "SealHouse$Whole" ({ cls := "SealHouse$Whole", name := "order", desc := "(LSealHouse$Whole;)I" } : Jvm.MethodName) ({ cls := "SealHouse$Whole", name := "order", desc := "(LSealHouse$Whole;)I" } : Jvm.MethodName)) ∈ BW := bw_2 (List.mem_of_getElem? (i := 192) (by decide +kernel)) (by decide +kernel)
theorem wd_433 : (Jvm.Cond.code ({ cls := "SealHouse$Whole", name := "order", desc := "(LSealHouse$Whole;)I" } : Jvm.MethodName) prog_7_method_10_code (7 : Nat) (Option.some Jvm.ClassFile.FieldType.int)) ∈ BW := bw_2 (List.mem_of_getElem? (i := 193) rfl) rfl
theorem wd_434 : (Jvm.Cond.methodLink "SealHouse" (294 : Nat) ({ cls := "SealHouse$Whole", name := "setDifference", desc := "(LSealHouse$Whole;LSealHouse$Whole;)V" } : Jvm.MethodName)) ∈ BW := bw_2 (List.mem_of_getElem? (i := 194) (by decide +kernel)) (by decide +kernel)
theorem wd_435 : (Jvm.Cond.instanceMethod ({ cls := "SealHouse$Whole", name := "setDifference", desc := "(LSealHouse$Whole;LSealHouse$Whole;)V" } : Jvm.MethodName)) ∈ BW := bw_2 (List.mem_of_getElem? (i := 195) (by decide +kernel)) (by decide +kernel)
theorem wd_436 : (Jvm.Cond.selects "SealHouse$Whole" ({ cls := "SealHouse$Whole", name := "setDifference", desc := "(LSealHouse$Whole;LSealHouse$Whole;)V" } : Jvm.MethodName) ({ cls := "SealHouse$Whole", name := "setDifference", desc := "(LSealHouse$Whole;LSealHouse$Whole;)V" } : Jvm.MethodName)) ∈ BW := bw_2 (List.mem_of_getElem? (i := 196) (by decide +kernel)) (by decide +kernel)
theorem wd_437 : (Jvm.Cond.code ({ cls := "SealHouse$Whole", name := "setDifference", desc := "(LSealHouse$Whole;LSealHouse$Whole;)V" } : Jvm.MethodName) prog_7_method_18_code (9 : Nat) (Option.none : Option Jvm.ClassFile.FieldType)) ∈ BW := bw_2 (List.mem_of_getElem? (i := 197) rfl) rfl
theorem wd_438 : (Jvm.Cond.methodLink "SealHouse" (297 : Nat) ({ cls := "SealHouse$Desk", name := "multiply", desc := "(LSealHouse$Whole;LSealHouse$Whole;LSealHouse$Whole;)Z" } : Jvm.MethodName)) ∈ BW := bw_2 (List.mem_of_getElem? (i := 198) (by decide +kernel)) (by decide +kernel)
theorem wd_439 : (Jvm.Cond.instanceMethod ({ cls := "SealHouse$Desk", name := "multiply", desc := "(LSealHouse$Whole;LSealHouse$Whole;LSealHouse$Whole;)Z" } : Jvm.MethodName)) ∈ BW := bw_2 (List.mem_of_getElem? (i := 199) (by decide +kernel)) (by decide +kernel)
theorem wd_440 : (Jvm.Cond.selects "SealHouse$Desk" ({ cls := "SealHouse$Desk", name := "multiply", desc := "(LSealHouse$Whole;LSealHouse$Whole;LSealHouse$Whole;)Z" } : Jvm.MethodName) ({ cls := "SealHouse$Desk", name := "multiply", desc := "(LSealHouse$Whole;LSealHouse$Whole;LSealHouse$Whole;)Z" } : Jvm.MethodName)) ∈ BW := bw_2 (List.mem_of_getElem? (i := 200) (by decide +kernel)) (by decide +kernel)
theorem wd_441 : (Jvm.Cond.code ({ cls := "SealHouse$Desk", name := "multiply", desc := "(LSealHouse$Whole;LSealHouse$Whole;LSealHouse$Whole;)Z" } : Jvm.MethodName) prog_2_method_2_code (4 : Nat) (Option.some Jvm.ClassFile.FieldType.boolean)) ∈ BW := bw_2 (List.mem_of_getElem? (i := 201) rfl) rfl
theorem wd_442 : (Jvm.Cond.methodLink "SealHouse$Desk" (67 : Nat) ({ cls := "SealHouse$Whole", name := "bitLength", desc := "()I" } : Jvm.MethodName)) ∈ BW := bw_2 (List.mem_of_getElem? (i := 202) (by decide +kernel)) (by decide +kernel)
theorem wd_443 : (Jvm.Cond.instanceMethod ({ cls := "SealHouse$Whole", name := "bitLength", desc := "()I" } : Jvm.MethodName)) ∈ BW := bw_2 (List.mem_of_getElem? (i := 203) (by decide +kernel)) (by decide +kernel)
theorem wd_444 : (Jvm.Cond.selects "SealHouse$Whole" ({ cls := "SealHouse$Whole", name := "bitLength", desc := "()I" } : Jvm.MethodName) ({ cls := "SealHouse$Whole", name := "bitLength", desc := "()I" } : Jvm.MethodName)) ∈ BW := bw_2 (List.mem_of_getElem? (i := 204) (by decide +kernel)) (by decide +kernel)
theorem wd_445 : (Jvm.Cond.code ({ cls := "SealHouse$Whole", name := "bitLength", desc := "()I" } : Jvm.MethodName) prog_7_method_6_code (1 : Nat) (Option.some Jvm.ClassFile.FieldType.int)) ∈ BW := bw_2 (List.mem_of_getElem? (i := 205) rfl) rfl
theorem wd_446 : (Jvm.Cond.methodLink "SealHouse$Whole" (21 : Nat) ({ cls := "SealHouse$Whole", name := "widthOf", desc := "(J)I" } : Jvm.MethodName)) ∈ BW := bw_2 (List.mem_of_getElem? (i := 206) (by decide +kernel)) (by decide +kernel)
theorem wd_447 : (Jvm.Cond.static ({ cls := "SealHouse$Whole", name := "widthOf", desc := "(J)I" } : Jvm.MethodName)) ∈ BW := bw_2 (List.mem_of_getElem? (i := 207) (by decide +kernel)) (by decide +kernel)
theorem wd_448 : (Jvm.Cond.code ({ cls := "SealHouse$Whole", name := "widthOf", desc := "(J)I" } : Jvm.MethodName) prog_7_method_9_code (3 : Nat) (Option.some Jvm.ClassFile.FieldType.int)) ∈ BW := bw_2 (List.mem_of_getElem? (i := 208) rfl) rfl
theorem wd_449 : (Jvm.Cond.methodLink "SealHouse$Desk" (71 : Nat) ({ cls := "SealHouse$Whole", name := "setProduct", desc := "(LSealHouse$Whole;LSealHouse$Whole;)V" } : Jvm.MethodName)) ∈ BW := bw_2 (List.mem_of_getElem? (i := 209) (by decide +kernel)) (by decide +kernel)
theorem wd_450 : (Jvm.Cond.instanceMethod ({ cls := "SealHouse$Whole", name := "setProduct", desc := "(LSealHouse$Whole;LSealHouse$Whole;)V" } : Jvm.MethodName)) ∈ BW := bw_2 (List.mem_of_getElem? (i := 210) (by decide +kernel)) (by decide +kernel)
theorem wd_451 : (Jvm.Cond.selects "SealHouse$Whole" ({ cls := "SealHouse$Whole", name := "setProduct", desc := "(LSealHouse$Whole;LSealHouse$Whole;)V" } : Jvm.MethodName) ({ cls := "SealHouse$Whole", name := "setProduct", desc := "(LSealHouse$Whole;LSealHouse$Whole;)V" } : Jvm.MethodName)) ∈ BW := bw_2 (List.mem_of_getElem? (i := 211) (by decide +kernel)) (by decide +kernel)
theorem wd_452 : (Jvm.Cond.code ({ cls := "SealHouse$Whole", name := "setProduct", desc := "(LSealHouse$Whole;LSealHouse$Whole;)V" } : Jvm.MethodName) prog_7_method_20_code (12 : Nat) (Option.none : Option Jvm.ClassFile.FieldType)) ∈ BW := bw_2 (List.mem_of_getElem? (i := 212) rfl) rfl
theorem wd_453 : (Jvm.Cond.methodLink "SealHouse" (301 : Nat) ({ cls := "SealHouse$Whole", name := "isZero", desc := "()Z" } : Jvm.MethodName)) ∈ BW := bw_2 (List.mem_of_getElem? (i := 213) (by decide +kernel)) (by decide +kernel)
theorem wd_454 : (Jvm.Cond.instanceMethod ({ cls := "SealHouse$Whole", name := "isZero", desc := "()Z" } : Jvm.MethodName)) ∈ BW := bw_2 (List.mem_of_getElem? (i := 214) (by decide +kernel)) (by decide +kernel)
theorem wd_455 : (Jvm.Cond.selects "SealHouse$Whole" ({ cls := "SealHouse$Whole", name := "isZero", desc := "()Z" } : Jvm.MethodName) ({ cls := "SealHouse$Whole", name := "isZero", desc := "()Z" } : Jvm.MethodName)) ∈ BW := bw_2 (List.mem_of_getElem? (i := 215) (by decide +kernel)) (by decide +kernel)
theorem wd_456 : (Jvm.Cond.code ({ cls := "SealHouse$Whole", name := "isZero", desc := "()Z" } : Jvm.MethodName) prog_7_method_2_code (1 : Nat) (Option.some Jvm.ClassFile.FieldType.boolean)) ∈ BW := bw_2 (List.mem_of_getElem? (i := 216) rfl) rfl
theorem wd_457 : (Jvm.Cond.methodLink "SealHouse" (304 : Nat) ({ cls := "SealHouse$Desk", name := "divide", desc := "(LSealHouse$Whole;LSealHouse$Whole;LSealHouse$Whole;)V" } : Jvm.MethodName)) ∈ BW := bw_2 (List.mem_of_getElem? (i := 217) (by decide +kernel)) (by decide +kernel)
theorem wd_458 : (Jvm.Cond.instanceMethod ({ cls := "SealHouse$Desk", name := "divide", desc := "(LSealHouse$Whole;LSealHouse$Whole;LSealHouse$Whole;)V" } : Jvm.MethodName)) ∈ BW := bw_2 (List.mem_of_getElem? (i := 218) (by decide +kernel)) (by decide +kernel)
theorem wd_459 : (Jvm.Cond.selects "SealHouse$Desk" ({ cls := "SealHouse$Desk", name := "divide", desc := "(LSealHouse$Whole;LSealHouse$Whole;LSealHouse$Whole;)V" } : Jvm.MethodName) ({ cls := "SealHouse$Desk", name := "divide", desc := "(LSealHouse$Whole;LSealHouse$Whole;LSealHouse$Whole;)V" } : Jvm.MethodName)) ∈ BW := bw_2 (List.mem_of_getElem? (i := 219) (by decide +kernel)) (by decide +kernel)
theorem wd_460 : (Jvm.Cond.code ({ cls := "SealHouse$Desk", name := "divide", desc := "(LSealHouse$Whole;LSealHouse$Whole;LSealHouse$Whole;)V" } : Jvm.MethodName) prog_2_method_3_code (4 : Nat) (Option.none : Option Jvm.ClassFile.FieldType)) ∈ BW := bw_2 (List.mem_of_getElem? (i := 220) rfl) rfl
theorem wd_461 : (Jvm.Cond.methodLink "SealHouse$Desk" (75 : Nat) ({ cls := "SealHouse$Desk", name := "setDivisor", desc := "(LSealHouse$Whole;)V" } : Jvm.MethodName)) ∈ BW := bw_2 (List.mem_of_getElem? (i := 221) (by decide +kernel)) (by decide +kernel)
theorem wd_463 : (Jvm.Cond.instanceMethod ({ cls := "SealHouse$Desk", name := "setDivisor", desc := "(LSealHouse$Whole;)V" } : Jvm.MethodName)) ∈ BW := bw_2 (List.mem_of_getElem? (i := 223) (by decide +kernel)) (by decide +kernel)
theorem wd_464 : (Jvm.Cond.code ({ cls := "SealHouse$Desk", name := "setDivisor", desc := "(LSealHouse$Whole;)V" } : Jvm.MethodName) prog_2_method_4_code (2 : Nat) (Option.none : Option Jvm.ClassFile.FieldType)) ∈ BW := bw_2 (List.mem_of_getElem? (i := 224) rfl) rfl
theorem wd_465 : (Jvm.Cond.methodLink "SealHouse$Desk" (92 : Nat) ({ cls := "SealHouse$Whole", name := "limbAt", desc := "(I)J" } : Jvm.MethodName)) ∈ BW := bw_2 (List.mem_of_getElem? (i := 225) (by decide +kernel)) (by decide +kernel)
theorem wd_466 : (Jvm.Cond.methodLink "SealHouse$Desk" (96 : Nat) ({ cls := "SealHouse$Whole", name := "widthOf", desc := "(J)I" } : Jvm.MethodName)) ∈ BW := bw_2 (List.mem_of_getElem? (i := 226) (by decide +kernel)) (by decide +kernel)
theorem wd_467 : (Jvm.Cond.methodLink "SealHouse$Desk" (79 : Nat) ({ cls := "SealHouse$Whole", name := "shiftUp", desc := "(LSealHouse$Whole;I)V" } : Jvm.MethodName)) ∈ BW := bw_2 (List.mem_of_getElem? (i := 227) (by decide +kernel)) (by decide +kernel)
theorem wd_468 : (Jvm.Cond.instanceMethod ({ cls := "SealHouse$Whole", name := "shiftUp", desc := "(LSealHouse$Whole;I)V" } : Jvm.MethodName)) ∈ BW := bw_2 (List.mem_of_getElem? (i := 228) (by decide +kernel)) (by decide +kernel)
theorem wd_469 : (Jvm.Cond.selects "SealHouse$Whole" ({ cls := "SealHouse$Whole", name := "shiftUp", desc := "(LSealHouse$Whole;I)V" } : Jvm.MethodName) ({ cls := "SealHouse$Whole", name := "shiftUp", desc := "(LSealHouse$Whole;I)V" } : Jvm.MethodName)) ∈ BW := bw_2 (List.mem_of_getElem? (i := 229) (by decide +kernel)) (by decide +kernel)
theorem wd_470 : (Jvm.Cond.code ({ cls := "SealHouse$Whole", name := "shiftUp", desc := "(LSealHouse$Whole;I)V" } : Jvm.MethodName) prog_7_method_22_code (9 : Nat) (Option.none : Option Jvm.ClassFile.FieldType)) ∈ BW := bw_2 (List.mem_of_getElem? (i := 230) rfl) rfl
theorem wd_471 : (Jvm.Cond.methodLink "SealHouse$Desk" (83 : Nat) ({ cls := "SealHouse$Desk", name := "reduce", desc := "(LSealHouse$Whole;)V" } : Jvm.MethodName)) ∈ BW := bw_2 (List.mem_of_getElem? (i := 231) (by decide +kernel)) (by decide +kernel)
theorem wd_473 : (Jvm.Cond.instanceMethod ({ cls := "SealHouse$Desk", name := "reduce", desc := "(LSealHouse$Whole;)V" } : Jvm.MethodName)) ∈ BW := bw_2 (List.mem_of_getElem? (i := 233) (by decide +kernel)) (by decide +kernel)
theorem wd_474 : (Jvm.Cond.code ({ cls := "SealHouse$Desk", name := "reduce", desc := "(LSealHouse$Whole;)V" } : Jvm.MethodName) prog_2_method_5_code (6 : Nat) (Option.none : Option Jvm.ClassFile.FieldType)) ∈ BW := bw_2 (List.mem_of_getElem? (i := 234) rfl) rfl
theorem wd_475 : (Jvm.Cond.methodLink "SealHouse$Desk" (104 : Nat) ({ cls := "SealHouse$Desk", name := "guessDigit", desc := "(LSealHouse$Whole;I)J" } : Jvm.MethodName)) ∈ BW := bw_2 (List.mem_of_getElem? (i := 235) (by decide +kernel)) (by decide +kernel)
theorem wd_477 : (Jvm.Cond.instanceMethod ({ cls := "SealHouse$Desk", name := "guessDigit", desc := "(LSealHouse$Whole;I)J" } : Jvm.MethodName)) ∈ BW := bw_2 (List.mem_of_getElem? (i := 237) (by decide +kernel)) (by decide +kernel)
theorem wd_478 : (Jvm.Cond.code ({ cls := "SealHouse$Desk", name := "guessDigit", desc := "(LSealHouse$Whole;I)J" } : Jvm.MethodName) prog_2_method_6_code (20 : Nat) (Option.some Jvm.ClassFile.FieldType.long)) ∈ BW := bw_2 (List.mem_of_getElem? (i := 238) rfl) rfl
theorem wd_479 : (Jvm.Cond.constantLong "SealHouse$Desk" (119 : Nat) (268435455 : Int64)) ∈ BW := bw_2 (List.mem_of_getElem? (i := 239) (by decide +kernel)) (by decide +kernel)
theorem wd_480 : (Jvm.Cond.methodLink "SealHouse$Desk" (108 : Nat) ({ cls := "SealHouse$Desk", name := "takeAway", desc := "(LSealHouse$Whole;JI)Z" } : Jvm.MethodName)) ∈ BW := bw_3 (List.mem_of_getElem? (i := 0) (by decide +kernel)) (by decide +kernel)
theorem wd_482 : (Jvm.Cond.instanceMethod ({ cls := "SealHouse$Desk", name := "takeAway", desc := "(LSealHouse$Whole;JI)Z" } : Jvm.MethodName)) ∈ BW := bw_3 (List.mem_of_getElem? (i := 2) (by decide +kernel)) (by decide +kernel)
theorem wd_483 : (Jvm.Cond.code ({ cls := "SealHouse$Desk", name := "takeAway", desc := "(LSealHouse$Whole;JI)Z" } : Jvm.MethodName) prog_2_method_7_code (13 : Nat) (Option.some Jvm.ClassFile.FieldType.boolean)) ∈ BW := bw_3 (List.mem_of_getElem? (i := 3) rfl) rfl
theorem wd_484 : (Jvm.Cond.methodLink "SealHouse$Desk" (112 : Nat) ({ cls := "SealHouse$Desk", name := "putBack", desc := "(LSealHouse$Whole;I)V" } : Jvm.MethodName)) ∈ BW := bw_3 (List.mem_of_getElem? (i := 4) (by decide +kernel)) (by decide +kernel)
theorem wd_486 : (Jvm.Cond.instanceMethod ({ cls := "SealHouse$Desk", name := "putBack", desc := "(LSealHouse$Whole;I)V" } : Jvm.MethodName)) ∈ BW := bw_3 (List.mem_of_getElem? (i := 6) (by decide +kernel)) (by decide +kernel)
theorem wd_487 : (Jvm.Cond.code ({ cls := "SealHouse$Desk", name := "putBack", desc := "(LSealHouse$Whole;I)V" } : Jvm.MethodName) prog_2_method_8_code (10 : Nat) (Option.none : Option Jvm.ClassFile.FieldType)) ∈ BW := bw_3 (List.mem_of_getElem? (i := 7) rfl) rfl
theorem wd_488 : (Jvm.Cond.methodLink "SealHouse$Desk" (115 : Nat) ({ cls := "SealHouse$Whole", name := "trim", desc := "(I)V" } : Jvm.MethodName)) ∈ BW := bw_3 (List.mem_of_getElem? (i := 8) (by decide +kernel)) (by decide +kernel)
theorem wd_489 : (Jvm.Cond.methodLink "SealHouse$Desk" (86 : Nat) ({ cls := "SealHouse$Whole", name := "shiftDown", desc := "(LSealHouse$Whole;I)V" } : Jvm.MethodName)) ∈ BW := bw_3 (List.mem_of_getElem? (i := 9) (by decide +kernel)) (by decide +kernel)
theorem wd_490 : (Jvm.Cond.instanceMethod ({ cls := "SealHouse$Whole", name := "shiftDown", desc := "(LSealHouse$Whole;I)V" } : Jvm.MethodName)) ∈ BW := bw_3 (List.mem_of_getElem? (i := 10) (by decide +kernel)) (by decide +kernel)
theorem wd_491 : (Jvm.Cond.selects "SealHouse$Whole" ({ cls := "SealHouse$Whole", name := "shiftDown", desc := "(LSealHouse$Whole;I)V" } : Jvm.MethodName) ({ cls := "SealHouse$Whole", name := "shiftDown", desc := "(LSealHouse$Whole;I)V" } : Jvm.MethodName)) ∈ BW := bw_3 (List.mem_of_getElem? (i := 11) (by decide +kernel)) (by decide +kernel)
theorem wd_492 : (Jvm.Cond.code ({ cls := "SealHouse$Whole", name := "shiftDown", desc := "(LSealHouse$Whole;I)V" } : Jvm.MethodName) prog_7_method_23_code (9 : Nat) (Option.none : Option Jvm.ClassFile.FieldType)) ∈ BW := bw_3 (List.mem_of_getElem? (i := 12) rfl) rfl
theorem wd_493 : (Jvm.Cond.methodLink "SealHouse" (311 : Nat) ({ cls := "SealHouse$Whole", name := "set", desc := "(LSealHouse$Whole;)V" } : Jvm.MethodName)) ∈ BW := bw_3 (List.mem_of_getElem? (i := 13) (by decide +kernel)) (by decide +kernel)
theorem wd_494 : (Jvm.Cond.instanceMethod ({ cls := "SealHouse$Whole", name := "set", desc := "(LSealHouse$Whole;)V" } : Jvm.MethodName)) ∈ BW := bw_3 (List.mem_of_getElem? (i := 14) (by decide +kernel)) (by decide +kernel)
theorem wd_495 : (Jvm.Cond.selects "SealHouse$Whole" ({ cls := "SealHouse$Whole", name := "set", desc := "(LSealHouse$Whole;)V" } : Jvm.MethodName) ({ cls := "SealHouse$Whole", name := "set", desc := "(LSealHouse$Whole;)V" } : Jvm.MethodName)) ∈ BW := bw_3 (List.mem_of_getElem? (i := 15) (by decide +kernel)) (by decide +kernel)
theorem wd_496 : (Jvm.Cond.code ({ cls := "SealHouse$Whole", name := "set", desc := "(LSealHouse$Whole;)V" } : Jvm.MethodName) prog_7_method_13_code (4 : Nat) (Option.none : Option Jvm.ClassFile.FieldType)) ∈ BW := bw_3 (List.mem_of_getElem? (i := 16) rfl) rfl
theorem wd_497 : (Jvm.Cond.methodLink "SealHouse" (138 : Nat) ({ cls := "SealHouse", name := "reckonDeep", desc := "(I)I" } : Jvm.MethodName)) ∈ BW := bw_3 (List.mem_of_getElem? (i := 17) (by decide +kernel)) (by decide +kernel)
theorem wd_499 : (Jvm.Cond.instanceMethod ({ cls := "SealHouse", name := "reckonDeep", desc := "(I)I" } : Jvm.MethodName)) ∈ BW := bw_3 (List.mem_of_getElem? (i := 19) (by decide +kernel)) (by decide +kernel)
theorem wd_500 : (Jvm.Cond.code ({ cls := "SealHouse", name := "reckonDeep", desc := "(I)I" } : Jvm.MethodName) prog_1_method_34_code (2 : Nat) (Option.some Jvm.ClassFile.FieldType.int)) ∈ BW := bw_3 (List.mem_of_getElem? (i := 20) rfl) rfl
theorem wd_501 : (Jvm.Cond.methodLink "SealHouse" (315 : Nat) ({ cls := "SealHouse$Desk", name := "findDivisor", desc := "(LSealHouse$Whole;LSealHouse$Whole;LSealHouse$Whole;)V" } : Jvm.MethodName)) ∈ BW := bw_3 (List.mem_of_getElem? (i := 21) (by decide +kernel)) (by decide +kernel)
theorem wd_502 : (Jvm.Cond.instanceMethod ({ cls := "SealHouse$Desk", name := "findDivisor", desc := "(LSealHouse$Whole;LSealHouse$Whole;LSealHouse$Whole;)V" } : Jvm.MethodName)) ∈ BW := bw_3 (List.mem_of_getElem? (i := 22) (by decide +kernel)) (by decide +kernel)
theorem wd_503 : (Jvm.Cond.selects "SealHouse$Desk" ({ cls := "SealHouse$Desk", name := "findDivisor", desc := "(LSealHouse$Whole;LSealHouse$Whole;LSealHouse$Whole;)V" } : Jvm.MethodName) ({ cls := "SealHouse$Desk", name := "findDivisor", desc := "(LSealHouse$Whole;LSealHouse$Whole;LSealHouse$Whole;)V" } : Jvm.MethodName)) ∈ BW := bw_3 (List.mem_of_getElem? (i := 23) (by decide +kernel)) (by decide +kernel)
theorem wd_504 : (Jvm.Cond.code ({ cls := "SealHouse$Desk", name := "findDivisor", desc := "(LSealHouse$Whole;LSealHouse$Whole;LSealHouse$Whole;)V" } : Jvm.MethodName) prog_2_method_9_code (5 : Nat) (Option.none : Option Jvm.ClassFile.FieldType)) ∈ BW := bw_3 (List.mem_of_getElem? (i := 24) rfl) rfl
theorem wd_505 : (Jvm.Cond.methodLink "SealHouse$Desk" (121 : Nat) ({ cls := "SealHouse$Whole", name := "set", desc := "(LSealHouse$Whole;)V" } : Jvm.MethodName)) ∈ BW := bw_3 (List.mem_of_getElem? (i := 25) (by decide +kernel)) (by decide +kernel)
theorem wd_506 : (Jvm.Cond.methodLink "SealHouse$Desk" (124 : Nat) ({ cls := "SealHouse$Whole", name := "isZero", desc := "()Z" } : Jvm.MethodName)) ∈ BW := bw_3 (List.mem_of_getElem? (i := 26) (by decide +kernel)) (by decide +kernel)
theorem wd_507 : (Jvm.Cond.methodLink "SealHouse$Desk" (128 : Nat) ({ cls := "SealHouse$Desk", name := "divide", desc := "(LSealHouse$Whole;LSealHouse$Whole;LSealHouse$Whole;)V" } : Jvm.MethodName)) ∈ BW := bw_3 (List.mem_of_getElem? (i := 27) (by decide +kernel)) (by decide +kernel)
theorem wd_508 : (Jvm.Cond.methodLink "SealHouse" (318 : Nat) ({ cls := "SealHouse$Desk", name := "findMultiple", desc := "(LSealHouse$Whole;LSealHouse$Whole;LSealHouse$Whole;)Z" } : Jvm.MethodName)) ∈ BW := bw_3 (List.mem_of_getElem? (i := 28) (by decide +kernel)) (by decide +kernel)
theorem wd_509 : (Jvm.Cond.instanceMethod ({ cls := "SealHouse$Desk", name := "findMultiple", desc := "(LSealHouse$Whole;LSealHouse$Whole;LSealHouse$Whole;)Z" } : Jvm.MethodName)) ∈ BW := bw_3 (List.mem_of_getElem? (i := 29) (by decide +kernel)) (by decide +kernel)
theorem wd_510 : (Jvm.Cond.selects "SealHouse$Desk" ({ cls := "SealHouse$Desk", name := "findMultiple", desc := "(LSealHouse$Whole;LSealHouse$Whole;LSealHouse$Whole;)Z" } : Jvm.MethodName) ({ cls := "SealHouse$Desk", name := "findMultiple", desc := "(LSealHouse$Whole;LSealHouse$Whole;LSealHouse$Whole;)Z" } : Jvm.MethodName)) ∈ BW := bw_3 (List.mem_of_getElem? (i := 30) (by decide +kernel)) (by decide +kernel)
theorem wd_511 : (Jvm.Cond.code ({ cls := "SealHouse$Desk", name := "findMultiple", desc := "(LSealHouse$Whole;LSealHouse$Whole;LSealHouse$Whole;)Z" } : Jvm.MethodName) prog_2_method_10_code (4 : Nat) (Option.some Jvm.ClassFile.FieldType.boolean)) ∈ BW := bw_3 (List.mem_of_getElem? (i := 31) rfl) rfl
theorem wd_512 : (Jvm.Cond.methodLink "SealHouse$Desk" (132 : Nat) ({ cls := "SealHouse$Whole", name := "setSmall", desc := "(J)V" } : Jvm.MethodName)) ∈ BW := bw_3 (List.mem_of_getElem? (i := 32) (by decide +kernel)) (by decide +kernel)
theorem wd_513 : (Jvm.Cond.instanceMethod ({ cls := "SealHouse$Whole", name := "setSmall", desc := "(J)V" } : Jvm.MethodName)) ∈ BW := bw_3 (List.mem_of_getElem? (i := 33) (by decide +kernel)) (by decide +kernel)
theorem wd_514 : (Jvm.Cond.selects "SealHouse$Whole" ({ cls := "SealHouse$Whole", name := "setSmall", desc := "(J)V" } : Jvm.MethodName) ({ cls := "SealHouse$Whole", name := "setSmall", desc := "(J)V" } : Jvm.MethodName)) ∈ BW := bw_3 (List.mem_of_getElem? (i := 34) (by decide +kernel)) (by decide +kernel)
theorem wd_515 : (Jvm.Cond.code ({ cls := "SealHouse$Whole", name := "setSmall", desc := "(J)V" } : Jvm.MethodName) prog_7_method_12_code (3 : Nat) (Option.none : Option Jvm.ClassFile.FieldType)) ∈ BW := bw_3 (List.mem_of_getElem? (i := 35) rfl) rfl
theorem wd_516 : (Jvm.Cond.methodLink "SealHouse$Desk" (136 : Nat) ({ cls := "SealHouse$Desk", name := "findDivisor", desc := "(LSealHouse$Whole;LSealHouse$Whole;LSealHouse$Whole;)V" } : Jvm.MethodName)) ∈ BW := bw_3 (List.mem_of_getElem? (i := 36) (by decide +kernel)) (by decide +kernel)
theorem wd_517 : (Jvm.Cond.methodLink "SealHouse$Desk" (139 : Nat) ({ cls := "SealHouse$Desk", name := "multiply", desc := "(LSealHouse$Whole;LSealHouse$Whole;LSealHouse$Whole;)Z" } : Jvm.MethodName)) ∈ BW := bw_3 (List.mem_of_getElem? (i := 37) (by decide +kernel)) (by decide +kernel)
theorem wd_518 : (Jvm.Cond.methodLink "SealHouse" (321 : Nat) ({ cls := "SealHouse$Desk", name := "invert", desc := "(LSealHouse$Whole;LSealHouse$Whole;LSealHouse$Whole;)Z" } : Jvm.MethodName)) ∈ BW := bw_3 (List.mem_of_getElem? (i := 38) (by decide +kernel)) (by decide +kernel)
theorem wd_519 : (Jvm.Cond.instanceMethod ({ cls := "SealHouse$Desk", name := "invert", desc := "(LSealHouse$Whole;LSealHouse$Whole;LSealHouse$Whole;)Z" } : Jvm.MethodName)) ∈ BW := bw_3 (List.mem_of_getElem? (i := 39) (by decide +kernel)) (by decide +kernel)
theorem wd_520 : (Jvm.Cond.selects "SealHouse$Desk" ({ cls := "SealHouse$Desk", name := "invert", desc := "(LSealHouse$Whole;LSealHouse$Whole;LSealHouse$Whole;)Z" } : Jvm.MethodName) ({ cls := "SealHouse$Desk", name := "invert", desc := "(LSealHouse$Whole;LSealHouse$Whole;LSealHouse$Whole;)Z" } : Jvm.MethodName)) ∈ BW := bw_3 (List.mem_of_getElem? (i := 40) (by decide +kernel)) (by decide +kernel)
theorem wd_521 : (Jvm.Cond.code ({ cls := "SealHouse$Desk", name := "invert", desc := "(LSealHouse$Whole;LSealHouse$Whole;LSealHouse$Whole;)Z" } : Jvm.MethodName) prog_2_method_11_code (6 : Nat) (Option.some Jvm.ClassFile.FieldType.boolean)) ∈ BW := bw_3 (List.mem_of_getElem? (i := 41) rfl) rfl
theorem wd_522 : (Jvm.Cond.methodLink "SealHouse$Desk" (143 : Nat) ({ cls := "SealHouse$Whole", name := "setSum", desc := "(LSealHouse$Whole;LSealHouse$Whole;)V" } : Jvm.MethodName)) ∈ BW := bw_3 (List.mem_of_getElem? (i := 42) (by decide +kernel)) (by decide +kernel)
theorem wd_523 : (Jvm.Cond.methodLink "SealHouse$Desk" (146 : Nat) ({ cls := "SealHouse$Whole", name := "isSmall", desc := "(I)Z" } : Jvm.MethodName)) ∈ BW := bw_3 (List.mem_of_getElem? (i := 43) (by decide +kernel)) (by decide +kernel)
theorem wd_524 : (Jvm.Cond.instanceMethod ({ cls := "SealHouse$Whole", name := "isSmall", desc := "(I)Z" } : Jvm.MethodName)) ∈ BW := bw_3 (List.mem_of_getElem? (i := 44) (by decide +kernel)) (by decide +kernel)
theorem wd_525 : (Jvm.Cond.selects "SealHouse$Whole" ({ cls := "SealHouse$Whole", name := "isSmall", desc := "(I)Z" } : Jvm.MethodName) ({ cls := "SealHouse$Whole", name := "isSmall", desc := "(I)Z" } : Jvm.MethodName)) ∈ BW := bw_3 (List.mem_of_getElem? (i := 45) (by decide +kernel)) (by decide +kernel)
theorem wd_526 : (Jvm.Cond.code ({ cls := "SealHouse$Whole", name := "isSmall", desc := "(I)Z" } : Jvm.MethodName) prog_7_method_4_code (2 : Nat) (Option.some Jvm.ClassFile.FieldType.boolean)) ∈ BW := bw_3 (List.mem_of_getElem? (i := 46) rfl) rfl
theorem wd_527 : (Jvm.Cond.methodLink "SealHouse$Desk" (150 : Nat) ({ cls := "SealHouse$Whole", name := "setDifference", desc := "(LSealHouse$Whole;LSealHouse$Whole;)V" } : Jvm.MethodName)) ∈ BW := bw_3 (List.mem_of_getElem? (i := 47) (by decide +kernel)) (by decide +kernel)
theorem wd_528 : (Jvm.Cond.methodLink "SealHouse" (157 : Nat) ({ cls := "SealHouse$Whole", name := "byteLength", desc := "()I" } : Jvm.MethodName)) ∈ BW := bw_3 (List.mem_of_getElem? (i := 48) (by decide +kernel)) (by decide +kernel)
theorem wd_529 : (Jvm.Cond.instanceMethod ({ cls := "SealHouse$Whole", name := "byteLength", desc := "()I" } : Jvm.MethodName)) ∈ BW := bw_3 (List.mem_of_getElem? (i := 49) (by decide +kernel)) (by decide +kernel)
theorem wd_530 : (Jvm.Cond.selects "SealHouse$Whole" ({ cls := "SealHouse$Whole", name := "byteLength", desc := "()I" } : Jvm.MethodName) ({ cls := "SealHouse$Whole", name := "byteLength", desc := "()I" } : Jvm.MethodName)) ∈ BW := bw_3 (List.mem_of_getElem? (i := 50) (by decide +kernel)) (by decide +kernel)
theorem wd_531 : (Jvm.Cond.code ({ cls := "SealHouse$Whole", name := "byteLength", desc := "()I" } : Jvm.MethodName) prog_7_method_7_code (1 : Nat) (Option.some Jvm.ClassFile.FieldType.int)) ∈ BW := bw_3 (List.mem_of_getElem? (i := 51) rfl) rfl
theorem wd_532 : (Jvm.Cond.methodLink "SealHouse$Whole" (25 : Nat) ({ cls := "SealHouse$Whole", name := "bitLength", desc := "()I" } : Jvm.MethodName)) ∈ BW := bw_3 (List.mem_of_getElem? (i := 52) (by decide +kernel)) (by decide +kernel)
theorem wd_533 : (Jvm.Cond.methodLink "SealHouse" (324 : Nat) ({ cls := "SealHouse$Desk", name := "power", desc := "(LSealHouse$Whole;LSealHouse$Whole;LSealHouse$Whole;LSealHouse$Whole;)V" } : Jvm.MethodName)) ∈ BW := bw_3 (List.mem_of_getElem? (i := 53) (by decide +kernel)) (by decide +kernel)
theorem wd_534 : (Jvm.Cond.instanceMethod ({ cls := "SealHouse$Desk", name := "power", desc := "(LSealHouse$Whole;LSealHouse$Whole;LSealHouse$Whole;LSealHouse$Whole;)V" } : Jvm.MethodName)) ∈ BW := bw_3 (List.mem_of_getElem? (i := 54) (by decide +kernel)) (by decide +kernel)
theorem wd_535 : (Jvm.Cond.selects "SealHouse$Desk" ({ cls := "SealHouse$Desk", name := "power", desc := "(LSealHouse$Whole;LSealHouse$Whole;LSealHouse$Whole;LSealHouse$Whole;)V" } : Jvm.MethodName) ({ cls := "SealHouse$Desk", name := "power", desc := "(LSealHouse$Whole;LSealHouse$Whole;LSealHouse$Whole;LSealHouse$Whole;)V" } : Jvm.MethodName)) ∈ BW := bw_3 (List.mem_of_getElem? (i := 55) (by decide +kernel)) (by decide +kernel)
theorem wd_536 : (Jvm.Cond.code ({ cls := "SealHouse$Desk", name := "power", desc := "(LSealHouse$Whole;LSealHouse$Whole;LSealHouse$Whole;LSealHouse$Whole;)V" } : Jvm.MethodName) prog_2_method_12_code (9 : Nat) (Option.none : Option Jvm.ClassFile.FieldType)) ∈ BW := bw_3 (List.mem_of_getElem? (i := 56) rfl) rfl
theorem wd_537 : (Jvm.Cond.methodLink "SealHouse$Desk" (153 : Nat) ({ cls := "SealHouse$Whole", name := "setSquare", desc := "(LSealHouse$Whole;)V" } : Jvm.MethodName)) ∈ BW := bw_3 (List.mem_of_getElem? (i := 57) (by decide +kernel)) (by decide +kernel)
theorem wd_538 : (Jvm.Cond.instanceMethod ({ cls := "SealHouse$Whole", name := "setSquare", desc := "(LSealHouse$Whole;)V" } : Jvm.MethodName)) ∈ BW := bw_3 (List.mem_of_getElem? (i := 58) (by decide +kernel)) (by decide +kernel)
theorem wd_539 : (Jvm.Cond.selects "SealHouse$Whole" ({ cls := "SealHouse$Whole", name := "setSquare", desc := "(LSealHouse$Whole;)V" } : Jvm.MethodName) ({ cls := "SealHouse$Whole", name := "setSquare", desc := "(LSealHouse$Whole;)V" } : Jvm.MethodName)) ∈ BW := bw_3 (List.mem_of_getElem? (i := 59) (by decide +kernel)) (by decide +kernel)
theorem wd_540 : (Jvm.Cond.code ({ cls := "SealHouse$Whole", name := "setSquare", desc := "(LSealHouse$Whole;)V" } : Jvm.MethodName) prog_7_method_21_code (11 : Nat) (Option.none : Option Jvm.ClassFile.FieldType)) ∈ BW := bw_3 (List.mem_of_getElem? (i := 60) rfl) rfl
theorem wd_541 : (Jvm.Cond.methodLink "SealHouse$Desk" (156 : Nat) ({ cls := "SealHouse$Whole", name := "hasBit", desc := "(I)Z" } : Jvm.MethodName)) ∈ BW := bw_3 (List.mem_of_getElem? (i := 61) (by decide +kernel)) (by decide +kernel)
theorem wd_542 : (Jvm.Cond.instanceMethod ({ cls := "SealHouse$Whole", name := "hasBit", desc := "(I)Z" } : Jvm.MethodName)) ∈ BW := bw_3 (List.mem_of_getElem? (i := 62) (by decide +kernel)) (by decide +kernel)
theorem wd_543 : (Jvm.Cond.selects "SealHouse$Whole" ({ cls := "SealHouse$Whole", name := "hasBit", desc := "(I)Z" } : Jvm.MethodName) ({ cls := "SealHouse$Whole", name := "hasBit", desc := "(I)Z" } : Jvm.MethodName)) ∈ BW := bw_3 (List.mem_of_getElem? (i := 63) (by decide +kernel)) (by decide +kernel)
theorem wd_544 : (Jvm.Cond.code ({ cls := "SealHouse$Whole", name := "hasBit", desc := "(I)Z" } : Jvm.MethodName) prog_7_method_8_code (2 : Nat) (Option.some Jvm.ClassFile.FieldType.boolean)) ∈ BW := bw_3 (List.mem_of_getElem? (i := 64) rfl) rfl
theorem wd_545 : (Jvm.Cond.methodLink "SealHouse" (141 : Nat) ({ cls := "SealHouse", name := "putFewest", desc := "(LSealHouse$Whole;LSealHouse$Row;)I" } : Jvm.MethodName)) ∈ BW := bw_3 (List.mem_of_getElem? (i := 65) (by decide +kernel)) (by decide +kernel)
theorem wd_547 : (Jvm.Cond.instanceMethod ({ cls := "SealHouse", name := "putFewest", desc := "(LSealHouse$Whole;LSealHouse$Row;)I" } : Jvm.MethodName)) ∈ BW := bw_3 (List.mem_of_getElem? (i := 67) (by decide +kernel)) (by decide +kernel)
theorem wd_548 : (Jvm.Cond.code ({ cls := "SealHouse", name := "putFewest", desc := "(LSealHouse$Whole;LSealHouse$Row;)I" } : Jvm.MethodName) prog_1_method_32_code (4 : Nat) (Option.some Jvm.ClassFile.FieldType.int)) ∈ BW := bw_3 (List.mem_of_getElem? (i := 68) rfl) rfl
theorem wd_549 : (Jvm.Cond.methodLink "SealHouse" (286 : Nat) ({ cls := "SealHouse$Whole", name := "write", desc := "(LSealHouse$Row;I)V" } : Jvm.MethodName)) ∈ BW := bw_3 (List.mem_of_getElem? (i := 69) (by decide +kernel)) (by decide +kernel)
theorem wd_550 : (Jvm.Cond.instanceMethod ({ cls := "SealHouse$Whole", name := "write", desc := "(LSealHouse$Row;I)V" } : Jvm.MethodName)) ∈ BW := bw_3 (List.mem_of_getElem? (i := 70) (by decide +kernel)) (by decide +kernel)
theorem wd_551 : (Jvm.Cond.selects "SealHouse$Whole" ({ cls := "SealHouse$Whole", name := "write", desc := "(LSealHouse$Row;I)V" } : Jvm.MethodName) ({ cls := "SealHouse$Whole", name := "write", desc := "(LSealHouse$Row;I)V" } : Jvm.MethodName)) ∈ BW := bw_3 (List.mem_of_getElem? (i := 71) (by decide +kernel)) (by decide +kernel)
theorem wd_552 : (Jvm.Cond.code ({ cls := "SealHouse$Whole", name := "write", desc := "(LSealHouse$Row;I)V" } : Jvm.MethodName) prog_7_method_15_code (8 : Nat) (Option.none : Option Jvm.ClassFile.FieldType)) ∈ BW := bw_3 (List.mem_of_getElem? (i := 72) rfl) rfl
theorem wd_553 : (Jvm.Cond.constantLong "SealHouse$Whole" (44 : Nat) (255 : Int64)) ∈ BW := bw_3 (List.mem_of_getElem? (i := 73) (by decide +kernel)) (by decide +kernel)
theorem wd_554 : (Jvm.Cond.methodLink "SealHouse$Whole" (46 : Nat) ({ cls := "SealHouse$Row", name := "add", desc := "(I)V" } : Jvm.MethodName)) ∈ BW := bw_3 (List.mem_of_getElem? (i := 74) (by decide +kernel)) (by decide +kernel)
theorem wd_555 : (Jvm.Cond.methodLink "SealHouseLaw" (137 : Nat) ({ cls := "SealHouseLaw", name := "compare", desc := "(LSealHouse;II[J)I" } : Jvm.MethodName)) ∈ BW := bw_3 (List.mem_of_getElem? (i := 75) (by decide +kernel)) (by decide +kernel)
theorem wd_556 : (Jvm.Cond.static ({ cls := "SealHouseLaw", name := "compare", desc := "(LSealHouse;II[J)I" } : Jvm.MethodName)) ∈ BW := bw_3 (List.mem_of_getElem? (i := 76) (by decide +kernel)) (by decide +kernel)
theorem wd_557 : (Jvm.Cond.codeWith ({ cls := "SealHouseLaw", name := "compare", desc := "(LSealHouse;II[J)I" } : Jvm.MethodName) method_10_code (5 : Nat) (Option.some Jvm.ClassFile.FieldType.int) [((0 : Nat), (10 : Nat), (13 : Nat), (13 : Nat))]) ∈ BW := bw_3 (List.mem_of_getElem? (i := 77) rfl) rfl
theorem wd_558 : (Jvm.Cond.methodLink "SealHouseLaw" (40 : Nat) ({ cls := "SealHouse", name := "compare", desc := "(II)I" } : Jvm.MethodName)) ∈ BW := bw_3 (List.mem_of_getElem? (i := 78) (by decide +kernel)) (by decide +kernel)
theorem wd_559 : (Jvm.Cond.instanceMethod ({ cls := "SealHouse", name := "compare", desc := "(II)I" } : Jvm.MethodName)) ∈ BW := bw_3 (List.mem_of_getElem? (i := 79) (by decide +kernel)) (by decide +kernel)
theorem wd_560 : (Jvm.Cond.selects "SealHouse" ({ cls := "SealHouse", name := "compare", desc := "(II)I" } : Jvm.MethodName) ({ cls := "SealHouse", name := "compare", desc := "(II)I" } : Jvm.MethodName)) ∈ BW := bw_3 (List.mem_of_getElem? (i := 80) (by decide +kernel)) (by decide +kernel)
theorem wd_561 : (Jvm.Cond.code ({ cls := "SealHouse", name := "compare", desc := "(II)I" } : Jvm.MethodName) prog_1_method_10_code (5 : Nat) (Option.some Jvm.ClassFile.FieldType.int)) ∈ BW := bw_3 (List.mem_of_getElem? (i := 81) rfl) rfl
theorem wd_562 : (Jvm.Cond.methodLink "SealHouseLaw" (140 : Nat) ({ cls := "SealHouseLaw", name := "bits", desc := "(LSealHouse;I[J)I" } : Jvm.MethodName)) ∈ BW := bw_3 (List.mem_of_getElem? (i := 82) (by decide +kernel)) (by decide +kernel)
theorem wd_563 : (Jvm.Cond.static ({ cls := "SealHouseLaw", name := "bits", desc := "(LSealHouse;I[J)I" } : Jvm.MethodName)) ∈ BW := bw_3 (List.mem_of_getElem? (i := 83) (by decide +kernel)) (by decide +kernel)
theorem wd_564 : (Jvm.Cond.codeWith ({ cls := "SealHouseLaw", name := "bits", desc := "(LSealHouse;I[J)I" } : Jvm.MethodName) method_11_code (4 : Nat) (Option.some Jvm.ClassFile.FieldType.int) [((0 : Nat), (9 : Nat), (12 : Nat), (13 : Nat))]) ∈ BW := bw_3 (List.mem_of_getElem? (i := 84) rfl) rfl
theorem wd_565 : (Jvm.Cond.methodLink "SealHouseLaw" (43 : Nat) ({ cls := "SealHouse", name := "bits", desc := "(I)I" } : Jvm.MethodName)) ∈ BW := bw_3 (List.mem_of_getElem? (i := 85) (by decide +kernel)) (by decide +kernel)
theorem wd_566 : (Jvm.Cond.instanceMethod ({ cls := "SealHouse", name := "bits", desc := "(I)I" } : Jvm.MethodName)) ∈ BW := bw_3 (List.mem_of_getElem? (i := 86) (by decide +kernel)) (by decide +kernel)
theorem wd_567 : (Jvm.Cond.selects "SealHouse" ({ cls := "SealHouse", name := "bits", desc := "(I)I" } : Jvm.MethodName) ({ cls := "SealHouse", name := "bits", desc := "(I)I" } : Jvm.MethodName)) ∈ BW := bw_3 (List.mem_of_getElem? (i := 87) (by decide +kernel)) (by decide +kernel)
theorem wd_568 : (Jvm.Cond.code ({ cls := "SealHouse", name := "bits", desc := "(I)I" } : Jvm.MethodName) prog_1_method_11_code (2 : Nat) (Option.some Jvm.ClassFile.FieldType.int)) ∈ BW := bw_3 (List.mem_of_getElem? (i := 88) rfl) rfl
theorem wd_569 : (Jvm.Cond.methodLink "SealHouse" (149 : Nat) ({ cls := "SealHouse$Whole", name := "bitLength", desc := "()I" } : Jvm.MethodName)) ∈ BW := bw_3 (List.mem_of_getElem? (i := 89) (by decide +kernel)) (by decide +kernel)
theorem wd_570 : (Jvm.Cond.methodLink "SealHouseLaw" (143 : Nat) ({ cls := "SealHouseLaw", name := "probable", desc := "(LSealHouse;I[J)I" } : Jvm.MethodName)) ∈ BW := bw_3 (List.mem_of_getElem? (i := 90) (by decide +kernel)) (by decide +kernel)
theorem wd_571 : (Jvm.Cond.static ({ cls := "SealHouseLaw", name := "probable", desc := "(LSealHouse;I[J)I" } : Jvm.MethodName)) ∈ BW := bw_3 (List.mem_of_getElem? (i := 91) (by decide +kernel)) (by decide +kernel)
theorem wd_572 : (Jvm.Cond.codeWith ({ cls := "SealHouseLaw", name := "probable", desc := "(LSealHouse;I[J)I" } : Jvm.MethodName) method_12_code (4 : Nat) (Option.some Jvm.ClassFile.FieldType.int) [((0 : Nat), (16 : Nat), (19 : Nat), (13 : Nat))]) ∈ BW := bw_3 (List.mem_of_getElem? (i := 92) rfl) rfl
theorem wd_573 : (Jvm.Cond.methodLink "SealHouseLaw" (46 : Nat) ({ cls := "SealHouse", name := "probable", desc := "(I)Z" } : Jvm.MethodName)) ∈ BW := bw_3 (List.mem_of_getElem? (i := 93) (by decide +kernel)) (by decide +kernel)
theorem wd_574 : (Jvm.Cond.instanceMethod ({ cls := "SealHouse", name := "probable", desc := "(I)Z" } : Jvm.MethodName)) ∈ BW := bw_3 (List.mem_of_getElem? (i := 94) (by decide +kernel)) (by decide +kernel)
theorem wd_575 : (Jvm.Cond.selects "SealHouse" ({ cls := "SealHouse", name := "probable", desc := "(I)Z" } : Jvm.MethodName) ({ cls := "SealHouse", name := "probable", desc := "(I)Z" } : Jvm.MethodName)) ∈ BW := bw_3 (List.mem_of_getElem? (i := 95) (by decide +kernel)) (by decide +kernel)
theorem wd_576 : (Jvm.Cond.code ({ cls := "SealHouse", name := "probable", desc := "(I)Z" } : Jvm.MethodName) prog_1_method_12_code (2 : Nat) (Option.some Jvm.ClassFile.FieldType.boolean)) ∈ BW := bw_3 (List.mem_of_getElem? (i := 96) rfl) rfl
theorem wd_577 : (Jvm.Cond.methodLink "SealHouse" (153 : Nat) ({ cls := "SealHouse$Desk", name := "isProbable", desc := "(LSealHouse$Whole;)Z" } : Jvm.MethodName)) ∈ BW := bw_3 (List.mem_of_getElem? (i := 97) (by decide +kernel)) (by decide +kernel)
theorem wd_578 : (Jvm.Cond.instanceMethod ({ cls := "SealHouse$Desk", name := "isProbable", desc := "(LSealHouse$Whole;)Z" } : Jvm.MethodName)) ∈ BW := bw_3 (List.mem_of_getElem? (i := 98) (by decide +kernel)) (by decide +kernel)
theorem wd_579 : (Jvm.Cond.selects "SealHouse$Desk" ({ cls := "SealHouse$Desk", name := "isProbable", desc := "(LSealHouse$Whole;)Z" } : Jvm.MethodName) ({ cls := "SealHouse$Desk", name := "isProbable", desc := "(LSealHouse$Whole;)Z" } : Jvm.MethodName)) ∈ BW := bw_3 (List.mem_of_getElem? (i := 99) (by decide +kernel)) (by decide +kernel)
theorem wd_580 : (Jvm.Cond.code ({ cls := "SealHouse$Desk", name := "isProbable", desc := "(LSealHouse$Whole;)Z" } : Jvm.MethodName) prog_2_method_13_code (4 : Nat) (Option.some Jvm.ClassFile.FieldType.boolean)) ∈ BW := bw_3 (List.mem_of_getElem? (i := 100) rfl) rfl
theorem wd_581 : (Jvm.Cond.constantLong "SealHouse$Desk" (159 : Nat) (37 : Int64)) ∈ BW := bw_3 (List.mem_of_getElem? (i := 101) (by decide +kernel)) (by decide +kernel)
theorem wd_582 : (Jvm.Cond.methodLink "SealHouse$Desk" (161 : Nat) ({ cls := "SealHouse$Desk", name := "isBase", desc := "(J)Z" } : Jvm.MethodName)) ∈ BW := bw_3 (List.mem_of_getElem? (i := 102) (by decide +kernel)) (by decide +kernel)
theorem wd_583 : (Jvm.Cond.static ({ cls := "SealHouse$Desk", name := "isBase", desc := "(J)Z" } : Jvm.MethodName)) ∈ BW := bw_3 (List.mem_of_getElem? (i := 103) (by decide +kernel)) (by decide +kernel)
theorem wd_584 : (Jvm.Cond.code ({ cls := "SealHouse$Desk", name := "isBase", desc := "(J)Z" } : Jvm.MethodName) prog_2_method_14_code (3 : Nat) (Option.some Jvm.ClassFile.FieldType.boolean)) ∈ BW := bw_3 (List.mem_of_getElem? (i := 104) rfl) rfl
theorem wd_585 : (Jvm.Cond.fieldLink "SealHouse$Desk" (178 : Nat) "SealHouse$Desk" "BASES" "[I") ∈ BW := bw_3 (List.mem_of_getElem? (i := 105) (by decide +kernel)) (by decide +kernel)
theorem wd_587 : (Jvm.Cond.methodLink "SealHouse$Desk" (165 : Nat) ({ cls := "SealHouse$Whole", name := "byteLength", desc := "()I" } : Jvm.MethodName)) ∈ BW := bw_3 (List.mem_of_getElem? (i := 107) (by decide +kernel)) (by decide +kernel)
theorem wd_588 : (Jvm.Cond.methodLink "SealHouse$Desk" (168 : Nat) ({ cls := "SealHouse$Desk", name := "hasBaseAsDivisor", desc := "(LSealHouse$Whole;)Z" } : Jvm.MethodName)) ∈ BW := bw_3 (List.mem_of_getElem? (i := 108) (by decide +kernel)) (by decide +kernel)
theorem wd_589 : (Jvm.Cond.static ({ cls := "SealHouse$Desk", name := "hasBaseAsDivisor", desc := "(LSealHouse$Whole;)Z" } : Jvm.MethodName)) ∈ BW := bw_3 (List.mem_of_getElem? (i := 109) (by decide +kernel)) (by decide +kernel)
theorem wd_590 : (Jvm.Cond.code ({ cls := "SealHouse$Desk", name := "hasBaseAsDivisor", desc := "(LSealHouse$Whole;)Z" } : Jvm.MethodName) prog_2_method_15_code (2 : Nat) (Option.some Jvm.ClassFile.FieldType.boolean)) ∈ BW := bw_3 (List.mem_of_getElem? (i := 110) rfl) rfl
theorem wd_591 : (Jvm.Cond.methodLink "SealHouse$Desk" (186 : Nat) ({ cls := "SealHouse$Whole", name := "restBySmall", desc := "(I)J" } : Jvm.MethodName)) ∈ BW := bw_3 (List.mem_of_getElem? (i := 111) (by decide +kernel)) (by decide +kernel)
theorem wd_592 : (Jvm.Cond.instanceMethod ({ cls := "SealHouse$Whole", name := "restBySmall", desc := "(I)J" } : Jvm.MethodName)) ∈ BW := bw_3 (List.mem_of_getElem? (i := 112) (by decide +kernel)) (by decide +kernel)
theorem wd_593 : (Jvm.Cond.selects "SealHouse$Whole" ({ cls := "SealHouse$Whole", name := "restBySmall", desc := "(I)J" } : Jvm.MethodName) ({ cls := "SealHouse$Whole", name := "restBySmall", desc := "(I)J" } : Jvm.MethodName)) ∈ BW := bw_3 (List.mem_of_getElem? (i := 113) (by decide +kernel)) (by decide +kernel)
theorem wd_594 : (Jvm.Cond.code ({ cls := "SealHouse$Whole", name := "restBySmall", desc := "(I)J" } : Jvm.MethodName) prog_7_method_24_code (5 : Nat) (Option.some Jvm.ClassFile.FieldType.long)) ∈ BW := bw_3 (List.mem_of_getElem? (i := 114) rfl) rfl
theorem wd_595 : (Jvm.Cond.methodLink "SealHouse$Desk" (172 : Nat) ({ cls := "SealHouse$Whole", name := "setLess", desc := "(LSealHouse$Whole;)V" } : Jvm.MethodName)) ∈ BW := bw_3 (List.mem_of_getElem? (i := 115) (by decide +kernel)) (by decide +kernel)
theorem wd_596 : (Jvm.Cond.instanceMethod ({ cls := "SealHouse$Whole", name := "setLess", desc := "(LSealHouse$Whole;)V" } : Jvm.MethodName)) ∈ BW := bw_3 (List.mem_of_getElem? (i := 116) (by decide +kernel)) (by decide +kernel)
theorem wd_597 : (Jvm.Cond.selects "SealHouse$Whole" ({ cls := "SealHouse$Whole", name := "setLess", desc := "(LSealHouse$Whole;)V" } : Jvm.MethodName) ({ cls := "SealHouse$Whole", name := "setLess", desc := "(LSealHouse$Whole;)V" } : Jvm.MethodName)) ∈ BW := bw_3 (List.mem_of_getElem? (i := 117) (by decide +kernel)) (by decide +kernel)
theorem wd_598 : (Jvm.Cond.code ({ cls := "SealHouse$Whole", name := "setLess", desc := "(LSealHouse$Whole;)V" } : Jvm.MethodName) prog_7_method_19_code (8 : Nat) (Option.none : Option Jvm.ClassFile.FieldType)) ∈ BW := bw_3 (List.mem_of_getElem? (i := 118) rfl) rfl
theorem wd_599 : (Jvm.Cond.constantLong "SealHouse$Whole" (49 : Nat) (-1 : Int64)) ∈ BW := bw_3 (List.mem_of_getElem? (i := 119) (by decide +kernel)) (by decide +kernel)
theorem wd_600 : (Jvm.Cond.methodLink "SealHouse$Desk" (175 : Nat) ({ cls := "SealHouse$Whole", name := "zeroBits", desc := "()I" } : Jvm.MethodName)) ∈ BW := bw_3 (List.mem_of_getElem? (i := 120) (by decide +kernel)) (by decide +kernel)
theorem wd_601 : (Jvm.Cond.instanceMethod ({ cls := "SealHouse$Whole", name := "zeroBits", desc := "()I" } : Jvm.MethodName)) ∈ BW := bw_3 (List.mem_of_getElem? (i := 121) (by decide +kernel)) (by decide +kernel)
theorem wd_602 : (Jvm.Cond.selects "SealHouse$Whole" ({ cls := "SealHouse$Whole", name := "zeroBits", desc := "()I" } : Jvm.MethodName) ({ cls := "SealHouse$Whole", name := "zeroBits", desc := "()I" } : Jvm.MethodName)) ∈ BW := bw_3 (List.mem_of_getElem? (i := 122) (by decide +kernel)) (by decide +kernel)
theorem wd_603 : (Jvm.Cond.code ({ cls := "SealHouse$Whole", name := "zeroBits", desc := "()I" } : Jvm.MethodName) prog_7_method_25_code (3 : Nat) (Option.some Jvm.ClassFile.FieldType.int)) ∈ BW := bw_3 (List.mem_of_getElem? (i := 123) rfl) rfl
theorem wd_604 : (Jvm.Cond.methodLink "SealHouse$Whole" (51 : Nat) ({ cls := "SealHouse$Whole", name := "hasBit", desc := "(I)Z" } : Jvm.MethodName)) ∈ BW := bw_3 (List.mem_of_getElem? (i := 124) (by decide +kernel)) (by decide +kernel)
theorem wd_605 : (Jvm.Cond.methodLink "SealHouse$Desk" (182 : Nat) ({ cls := "SealHouse$Desk", name := "isWitnessed", desc := "(LSealHouse$Whole;I)Z" } : Jvm.MethodName)) ∈ BW := bw_3 (List.mem_of_getElem? (i := 125) (by decide +kernel)) (by decide +kernel)
theorem wd_607 : (Jvm.Cond.instanceMethod ({ cls := "SealHouse$Desk", name := "isWitnessed", desc := "(LSealHouse$Whole;I)Z" } : Jvm.MethodName)) ∈ BW := bw_3 (List.mem_of_getElem? (i := 127) (by decide +kernel)) (by decide +kernel)
theorem wd_608 : (Jvm.Cond.code ({ cls := "SealHouse$Desk", name := "isWitnessed", desc := "(LSealHouse$Whole;I)Z" } : Jvm.MethodName) prog_2_method_16_code (4 : Nat) (Option.some Jvm.ClassFile.FieldType.boolean)) ∈ BW := bw_3 (List.mem_of_getElem? (i := 128) rfl) rfl
theorem wd_609 : (Jvm.Cond.methodLink "SealHouse$Desk" (189 : Nat) ({ cls := "SealHouse$Desk", name := "power", desc := "(LSealHouse$Whole;LSealHouse$Whole;LSealHouse$Whole;LSealHouse$Whole;)V" } : Jvm.MethodName)) ∈ BW := bw_3 (List.mem_of_getElem? (i := 129) (by decide +kernel)) (by decide +kernel)
theorem wd_610 : (Jvm.Cond.methodLink "SealHouse$Desk" (193 : Nat) ({ cls := "SealHouse$Whole", name := "order", desc := "(LSealHouse$Whole;)I" } : Jvm.MethodName)) ∈ BW := bw_3 (List.mem_of_getElem? (i := 130) (by decide +kernel)) (by decide +kernel)
theorem wd_611 : (Jvm.Cond.methodLink "SealHouseLaw" (146 : Nat) ({ cls := "SealHouseLaw", name := "next", desc := "(LSealHouse;II[J)I" } : Jvm.MethodName)) ∈ BW := bw_3 (List.mem_of_getElem? (i := 131) (by decide +kernel)) (by decide +kernel)
theorem wd_612 : (Jvm.Cond.static ({ cls := "SealHouseLaw", name := "next", desc := "(LSealHouse;II[J)I" } : Jvm.MethodName)) ∈ BW := bw_3 (List.mem_of_getElem? (i := 132) (by decide +kernel)) (by decide +kernel)
theorem wd_613 : (Jvm.Cond.codeWith ({ cls := "SealHouseLaw", name := "next", desc := "(LSealHouse;II[J)I" } : Jvm.MethodName) method_13_code (5 : Nat) (Option.some Jvm.ClassFile.FieldType.int) [((0 : Nat), (10 : Nat), (13 : Nat), (13 : Nat))]) ∈ BW := bw_3 (List.mem_of_getElem? (i := 133) rfl) rfl
theorem wd_614 : (Jvm.Cond.methodLink "SealHouseLaw" (50 : Nat) ({ cls := "SealHouse", name := "next", desc := "(II)I" } : Jvm.MethodName)) ∈ BW := bw_3 (List.mem_of_getElem? (i := 134) (by decide +kernel)) (by decide +kernel)
theorem wd_615 : (Jvm.Cond.instanceMethod ({ cls := "SealHouse", name := "next", desc := "(II)I" } : Jvm.MethodName)) ∈ BW := bw_3 (List.mem_of_getElem? (i := 135) (by decide +kernel)) (by decide +kernel)
theorem wd_616 : (Jvm.Cond.selects "SealHouse" ({ cls := "SealHouse", name := "next", desc := "(II)I" } : Jvm.MethodName) ({ cls := "SealHouse", name := "next", desc := "(II)I" } : Jvm.MethodName)) ∈ BW := bw_3 (List.mem_of_getElem? (i := 136) (by decide +kernel)) (by decide +kernel)
theorem wd_617 : (Jvm.Cond.code ({ cls := "SealHouse", name := "next", desc := "(II)I" } : Jvm.MethodName) prog_1_method_13_code (6 : Nat) (Option.some Jvm.ClassFile.FieldType.int)) ∈ BW := bw_3 (List.mem_of_getElem? (i := 137) rfl) rfl
theorem wd_618 : (Jvm.Cond.methodLink "SealHouse" (160 : Nat) ({ cls := "SealHouse$Whole", name := "addSmall", desc := "(I)V" } : Jvm.MethodName)) ∈ BW := bw_3 (List.mem_of_getElem? (i := 138) (by decide +kernel)) (by decide +kernel)
theorem wd_619 : (Jvm.Cond.instanceMethod ({ cls := "SealHouse$Whole", name := "addSmall", desc := "(I)V" } : Jvm.MethodName)) ∈ BW := bw_3 (List.mem_of_getElem? (i := 139) (by decide +kernel)) (by decide +kernel)
theorem wd_620 : (Jvm.Cond.selects "SealHouse$Whole" ({ cls := "SealHouse$Whole", name := "addSmall", desc := "(I)V" } : Jvm.MethodName) ({ cls := "SealHouse$Whole", name := "addSmall", desc := "(I)V" } : Jvm.MethodName)) ∈ BW := bw_3 (List.mem_of_getElem? (i := 140) (by decide +kernel)) (by decide +kernel)
theorem wd_621 : (Jvm.Cond.code ({ cls := "SealHouse$Whole", name := "addSmall", desc := "(I)V" } : Jvm.MethodName) prog_7_method_16_code (8 : Nat) (Option.none : Option Jvm.ClassFile.FieldType)) ∈ BW := bw_3 (List.mem_of_getElem? (i := 141) rfl) rfl
theorem wd_622 : (Jvm.Cond.methodLink "SealHouseLaw" (149 : Nat) ({ cls := "SealHouseLaw", name := "digest", desc := "(LSealHouse;III[J)I" } : Jvm.MethodName)) ∈ BW := bw_3 (List.mem_of_getElem? (i := 142) (by decide +kernel)) (by decide +kernel)
theorem wd_623 : (Jvm.Cond.static ({ cls := "SealHouseLaw", name := "digest", desc := "(LSealHouse;III[J)I" } : Jvm.MethodName)) ∈ BW := bw_3 (List.mem_of_getElem? (i := 143) (by decide +kernel)) (by decide +kernel)
theorem wd_624 : (Jvm.Cond.codeWith ({ cls := "SealHouseLaw", name := "digest", desc := "(LSealHouse;III[J)I" } : Jvm.MethodName) method_14_code (6 : Nat) (Option.some Jvm.ClassFile.FieldType.int) [((0 : Nat), (12 : Nat), (15 : Nat), (13 : Nat)), ((0 : Nat), (12 : Nat), (19 : Nat), (15 : Nat))]) ∈ BW := bw_3 (List.mem_of_getElem? (i := 144) rfl) rfl
theorem wd_625 : (Jvm.Cond.methodLink "SealHouseLaw" (53 : Nat) ({ cls := "SealHouse", name := "digest", desc := "(III)I" } : Jvm.MethodName)) ∈ BW := bw_3 (List.mem_of_getElem? (i := 145) (by decide +kernel)) (by decide +kernel)
theorem wd_626 : (Jvm.Cond.instanceMethod ({ cls := "SealHouse", name := "digest", desc := "(III)I" } : Jvm.MethodName)) ∈ BW := bw_3 (List.mem_of_getElem? (i := 146) (by decide +kernel)) (by decide +kernel)
theorem wd_627 : (Jvm.Cond.selects "SealHouse" ({ cls := "SealHouse", name := "digest", desc := "(III)I" } : Jvm.MethodName) ({ cls := "SealHouse", name := "digest", desc := "(III)I" } : Jvm.MethodName)) ∈ BW := bw_3 (List.mem_of_getElem? (i := 147) (by decide +kernel)) (by decide +kernel)
theorem wd_628 : (Jvm.Cond.code ({ cls := "SealHouse", name := "digest", desc := "(III)I" } : Jvm.MethodName) prog_1_method_14_code (6 : Nat) (Option.some Jvm.ClassFile.FieldType.int)) ∈ BW := bw_3 (List.mem_of_getElem? (i := 148) rfl) rfl
theorem wd_629 : (Jvm.Cond.methodLink "SealHouse" (163 : Nat) ({ cls := "SealHouse", name := "checkHash", desc := "(I)V" } : Jvm.MethodName)) ∈ BW := bw_3 (List.mem_of_getElem? (i := 149) (by decide +kernel)) (by decide +kernel)
theorem wd_631 : (Jvm.Cond.instanceMethod ({ cls := "SealHouse", name := "checkHash", desc := "(I)V" } : Jvm.MethodName)) ∈ BW := bw_3 (List.mem_of_getElem? (i := 151) (by decide +kernel)) (by decide +kernel)
theorem wd_632 : (Jvm.Cond.code ({ cls := "SealHouse", name := "checkHash", desc := "(I)V" } : Jvm.MethodName) prog_1_method_31_code (2 : Nat) (Option.none : Option Jvm.ClassFile.FieldType)) ∈ BW := bw_3 (List.mem_of_getElem? (i := 152) rfl) rfl
theorem wd_634 : (Jvm.Cond.methodLink "SealHouse" (166 : Nat) ({ cls := "SealHouse$Digester", name := "addDigest", desc := "(ILSealHouse$Row;LSealHouse$Row;)V" } : Jvm.MethodName)) ∈ BW := bw_3 (List.mem_of_getElem? (i := 154) (by decide +kernel)) (by decide +kernel)
theorem wd_635 : (Jvm.Cond.instanceMethod ({ cls := "SealHouse$Digester", name := "addDigest", desc := "(ILSealHouse$Row;LSealHouse$Row;)V" } : Jvm.MethodName)) ∈ BW := bw_3 (List.mem_of_getElem? (i := 155) (by decide +kernel)) (by decide +kernel)
theorem wd_636 : (Jvm.Cond.selects "SealHouse$Digester" ({ cls := "SealHouse$Digester", name := "addDigest", desc := "(ILSealHouse$Row;LSealHouse$Row;)V" } : Jvm.MethodName) ({ cls := "SealHouse$Digester", name := "addDigest", desc := "(ILSealHouse$Row;LSealHouse$Row;)V" } : Jvm.MethodName)) ∈ BW := bw_3 (List.mem_of_getElem? (i := 156) (by decide +kernel)) (by decide +kernel)
theorem wd_637 : (Jvm.Cond.code ({ cls := "SealHouse$Digester", name := "addDigest", desc := "(ILSealHouse$Row;LSealHouse$Row;)V" } : Jvm.MethodName) prog_3_method_3_code (6 : Nat) (Option.none : Option Jvm.ClassFile.FieldType)) ∈ BW := bw_3 (List.mem_of_getElem? (i := 157) rfl) rfl
theorem wd_638 : (Jvm.Cond.fieldLink "SealHouse$Digester" (37 : Nat) "SealHouse$Digester" "START_256" "[I") ∈ BW := bw_3 (List.mem_of_getElem? (i := 158) (by decide +kernel)) (by decide +kernel)
theorem wd_640 : (Jvm.Cond.fieldLink "SealHouse$Digester" (40 : Nat) "SealHouse$Digester" "START_224" "[I") ∈ BW := bw_3 (List.mem_of_getElem? (i := 160) (by decide +kernel)) (by decide +kernel)
theorem wd_642 : (Jvm.Cond.methodLink "SealHouse$Digester" (43 : Nat) ({ cls := "SealHouse$Digester", name := "spreadBlock", desc := "(LSealHouse$Row;IZ)V" } : Jvm.MethodName)) ∈ BW := bw_3 (List.mem_of_getElem? (i := 162) (by decide +kernel)) (by decide +kernel)
theorem wd_644 : (Jvm.Cond.instanceMethod ({ cls := "SealHouse$Digester", name := "spreadBlock", desc := "(LSealHouse$Row;IZ)V" } : Jvm.MethodName)) ∈ BW := bw_3 (List.mem_of_getElem? (i := 164) (by decide +kernel)) (by decide +kernel)
theorem wd_645 : (Jvm.Cond.code ({ cls := "SealHouse$Digester", name := "spreadBlock", desc := "(LSealHouse$Row;IZ)V" } : Jvm.MethodName) prog_3_method_5_code (9 : Nat) (Option.none : Option Jvm.ClassFile.FieldType)) ∈ BW := bw_3 (List.mem_of_getElem? (i := 165) rfl) rfl
theorem wd_646 : (Jvm.Cond.methodLink "SealHouse$Digester" (72 : Nat) ({ cls := "SealHouse$Digester", name := "padded", desc := "(LSealHouse$Row;I)I" } : Jvm.MethodName)) ∈ BW := bw_3 (List.mem_of_getElem? (i := 166) (by decide +kernel)) (by decide +kernel)
theorem wd_647 : (Jvm.Cond.static ({ cls := "SealHouse$Digester", name := "padded", desc := "(LSealHouse$Row;I)I" } : Jvm.MethodName)) ∈ BW := bw_3 (List.mem_of_getElem? (i := 167) (by decide +kernel)) (by decide +kernel)
theorem wd_648 : (Jvm.Cond.code ({ cls := "SealHouse$Digester", name := "padded", desc := "(LSealHouse$Row;I)I" } : Jvm.MethodName) prog_3_method_6_code (2 : Nat) (Option.some Jvm.ClassFile.FieldType.int)) ∈ BW := bw_3 (List.mem_of_getElem? (i := 168) rfl) rfl
theorem wd_649 : (Jvm.Cond.methodLink "SealHouse$Digester" (80 : Nat) ({ cls := "SealHouse$Row", name := "at", desc := "(I)I" } : Jvm.MethodName)) ∈ BW := bw_3 (List.mem_of_getElem? (i := 169) (by decide +kernel)) (by decide +kernel)
theorem wd_650 : (Jvm.Cond.methodLink "SealHouse$Digester" (76 : Nat) ({ cls := "SealHouse$Digester", name := "turned", desc := "(II)I" } : Jvm.MethodName)) ∈ BW := bw_3 (List.mem_of_getElem? (i := 170) (by decide +kernel)) (by decide +kernel)
theorem wd_651 : (Jvm.Cond.static ({ cls := "SealHouse$Digester", name := "turned", desc := "(II)I" } : Jvm.MethodName)) ∈ BW := bw_3 (List.mem_of_getElem? (i := 171) (by decide +kernel)) (by decide +kernel)
theorem wd_652 : (Jvm.Cond.code ({ cls := "SealHouse$Digester", name := "turned", desc := "(II)I" } : Jvm.MethodName) prog_3_method_7_code (2 : Nat) (Option.some Jvm.ClassFile.FieldType.int)) ∈ BW := bw_3 (List.mem_of_getElem? (i := 172) rfl) rfl
theorem wd_653 : (Jvm.Cond.methodLink "SealHouse$Digester" (47 : Nat) ({ cls := "SealHouse$Digester", name := "mixBlock", desc := "()V" } : Jvm.MethodName)) ∈ BW := bw_3 (List.mem_of_getElem? (i := 173) (by decide +kernel)) (by decide +kernel)
theorem wd_655 : (Jvm.Cond.instanceMethod ({ cls := "SealHouse$Digester", name := "mixBlock", desc := "()V" } : Jvm.MethodName)) ∈ BW := bw_3 (List.mem_of_getElem? (i := 175) (by decide +kernel)) (by decide +kernel)
theorem wd_656 : (Jvm.Cond.code ({ cls := "SealHouse$Digester", name := "mixBlock", desc := "()V" } : Jvm.MethodName) prog_3_method_8_code (2 : Nat) (Option.none : Option Jvm.ClassFile.FieldType)) ∈ BW := bw_3 (List.mem_of_getElem? (i := 176) rfl) rfl
theorem wd_657 : (Jvm.Cond.fieldLink "SealHouse$Digester" (83 : Nat) "SealHouse$Digester" "ROUNDS" "[I") ∈ BW := bw_3 (List.mem_of_getElem? (i := 177) (by decide +kernel)) (by decide +kernel)
theorem wd_659 : (Jvm.Cond.methodLink "SealHouse$Digester" (86 : Nat) ({ cls := "SealHouse$Digester", name := "mixWord", desc := "(I)V" } : Jvm.MethodName)) ∈ BW := bw_3 (List.mem_of_getElem? (i := 179) (by decide +kernel)) (by decide +kernel)
theorem wd_661 : (Jvm.Cond.instanceMethod ({ cls := "SealHouse$Digester", name := "mixWord", desc := "(I)V" } : Jvm.MethodName)) ∈ BW := bw_3 (List.mem_of_getElem? (i := 181) (by decide +kernel)) (by decide +kernel)
theorem wd_662 : (Jvm.Cond.code ({ cls := "SealHouse$Digester", name := "mixWord", desc := "(I)V" } : Jvm.MethodName) prog_3_method_9_code (9 : Nat) (Option.none : Option Jvm.ClassFile.FieldType)) ∈ BW := bw_3 (List.mem_of_getElem? (i := 182) rfl) rfl
theorem wd_663 : (Jvm.Cond.methodLink "SealHouse$Digester" (50 : Nat) ({ cls := "SealHouse$Digester", name := "lengthOf", desc := "(I)I" } : Jvm.MethodName)) ∈ BW := bw_3 (List.mem_of_getElem? (i := 183) (by decide +kernel)) (by decide +kernel)
theorem wd_664 : (Jvm.Cond.static ({ cls := "SealHouse$Digester", name := "lengthOf", desc := "(I)I" } : Jvm.MethodName)) ∈ BW := bw_3 (List.mem_of_getElem? (i := 184) (by decide +kernel)) (by decide +kernel)
theorem wd_665 : (Jvm.Cond.code ({ cls := "SealHouse$Digester", name := "lengthOf", desc := "(I)I" } : Jvm.MethodName) prog_3_method_2_code (1 : Nat) (Option.some Jvm.ClassFile.FieldType.int)) ∈ BW := bw_3 (List.mem_of_getElem? (i := 185) rfl) rfl
theorem wd_666 : (Jvm.Cond.methodLink "SealHouse$Digester" (54 : Nat) ({ cls := "SealHouse$Row", name := "add", desc := "(I)V" } : Jvm.MethodName)) ∈ BW := bw_3 (List.mem_of_getElem? (i := 186) (by decide +kernel)) (by decide +kernel)
theorem wd_667 : (Jvm.Cond.methodLink "SealHouseLaw" (152 : Nat) ({ cls := "SealHouseLaw", name := "mask", desc := "(LSealHouse;IIII[J)I" } : Jvm.MethodName)) ∈ BW := bw_3 (List.mem_of_getElem? (i := 187) (by decide +kernel)) (by decide +kernel)
theorem wd_668 : (Jvm.Cond.static ({ cls := "SealHouseLaw", name := "mask", desc := "(LSealHouse;IIII[J)I" } : Jvm.MethodName)) ∈ BW := bw_3 (List.mem_of_getElem? (i := 188) (by decide +kernel)) (by decide +kernel)
theorem wd_669 : (Jvm.Cond.codeWith ({ cls := "SealHouseLaw", name := "mask", desc := "(LSealHouse;IIII[J)I" } : Jvm.MethodName) method_15_code (7 : Nat) (Option.some Jvm.ClassFile.FieldType.int) [((0 : Nat), (14 : Nat), (17 : Nat), (13 : Nat)), ((0 : Nat), (14 : Nat), (21 : Nat), (15 : Nat))]) ∈ BW := bw_3 (List.mem_of_getElem? (i := 189) rfl) rfl
theorem wd_670 : (Jvm.Cond.methodLink "SealHouseLaw" (56 : Nat) ({ cls := "SealHouse", name := "mask", desc := "(IIII)I" } : Jvm.MethodName)) ∈ BW := bw_3 (List.mem_of_getElem? (i := 190) (by decide +kernel)) (by decide +kernel)
theorem wd_671 : (Jvm.Cond.instanceMethod ({ cls := "SealHouse", name := "mask", desc := "(IIII)I" } : Jvm.MethodName)) ∈ BW := bw_3 (List.mem_of_getElem? (i := 191) (by decide +kernel)) (by decide +kernel)
theorem wd_672 : (Jvm.Cond.selects "SealHouse" ({ cls := "SealHouse", name := "mask", desc := "(IIII)I" } : Jvm.MethodName) ({ cls := "SealHouse", name := "mask", desc := "(IIII)I" } : Jvm.MethodName)) ∈ BW := bw_3 (List.mem_of_getElem? (i := 192) (by decide +kernel)) (by decide +kernel)
theorem wd_673 : (Jvm.Cond.code ({ cls := "SealHouse", name := "mask", desc := "(IIII)I" } : Jvm.MethodName) prog_1_method_15_code (7 : Nat) (Option.some Jvm.ClassFile.FieldType.int)) ∈ BW := bw_3 (List.mem_of_getElem? (i := 193) rfl) rfl
theorem wd_675 : (Jvm.Cond.methodLink "SealHouse" (172 : Nat) ({ cls := "SealHouse$Digester", name := "setMask", desc := "(ILSealHouse$Row;ILSealHouse$Row;)V" } : Jvm.MethodName)) ∈ BW := bw_3 (List.mem_of_getElem? (i := 195) (by decide +kernel)) (by decide +kernel)
theorem wd_676 : (Jvm.Cond.instanceMethod ({ cls := "SealHouse$Digester", name := "setMask", desc := "(ILSealHouse$Row;ILSealHouse$Row;)V" } : Jvm.MethodName)) ∈ BW := bw_3 (List.mem_of_getElem? (i := 196) (by decide +kernel)) (by decide +kernel)
theorem wd_677 : (Jvm.Cond.selects "SealHouse$Digester" ({ cls := "SealHouse$Digester", name := "setMask", desc := "(ILSealHouse$Row;ILSealHouse$Row;)V" } : Jvm.MethodName) ({ cls := "SealHouse$Digester", name := "setMask", desc := "(ILSealHouse$Row;ILSealHouse$Row;)V" } : Jvm.MethodName)) ∈ BW := bw_3 (List.mem_of_getElem? (i := 197) (by decide +kernel)) (by decide +kernel)
theorem wd_678 : (Jvm.Cond.code ({ cls := "SealHouse$Digester", name := "setMask", desc := "(ILSealHouse$Row;ILSealHouse$Row;)V" } : Jvm.MethodName) prog_3_method_4_code (8 : Nat) (Option.none : Option Jvm.ClassFile.FieldType)) ∈ BW := bw_3 (List.mem_of_getElem? (i := 198) rfl) rfl
theorem wd_679 : (Jvm.Cond.methodLink "SealHouse$Digester" (57 : Nat) ({ cls := "SealHouse$Row", name := "take", desc := "(LSealHouse$Row;)V" } : Jvm.MethodName)) ∈ BW := bw_3 (List.mem_of_getElem? (i := 199) (by decide +kernel)) (by decide +kernel)
theorem wd_680 : (Jvm.Cond.methodLink "SealHouse$Digester" (61 : Nat) ({ cls := "SealHouse$Row", name := "addWord", desc := "(I)V" } : Jvm.MethodName)) ∈ BW := bw_3 (List.mem_of_getElem? (i := 200) (by decide +kernel)) (by decide +kernel)
theorem wd_681 : (Jvm.Cond.methodLink "SealHouse$Digester" (64 : Nat) ({ cls := "SealHouse$Digester", name := "addDigest", desc := "(ILSealHouse$Row;LSealHouse$Row;)V" } : Jvm.MethodName)) ∈ BW := bw_3 (List.mem_of_getElem? (i := 201) (by decide +kernel)) (by decide +kernel)
theorem wd_682 : (Jvm.Cond.methodLink "SealHouse$Digester" (68 : Nat) ({ cls := "SealHouse$Row", name := "addPart", desc := "(LSealHouse$Row;II)V" } : Jvm.MethodName)) ∈ BW := bw_3 (List.mem_of_getElem? (i := 202) (by decide +kernel)) (by decide +kernel)
theorem wd_683 : (Jvm.Cond.methodLink "SealHouseLaw" (155 : Nat) ({ cls := "SealHouseLaw", name := "key", desc := "(LSealHouse;III[J)I" } : Jvm.MethodName)) ∈ BW := bw_3 (List.mem_of_getElem? (i := 203) (by decide +kernel)) (by decide +kernel)
theorem wd_684 : (Jvm.Cond.static ({ cls := "SealHouseLaw", name := "key", desc := "(LSealHouse;III[J)I" } : Jvm.MethodName)) ∈ BW := bw_3 (List.mem_of_getElem? (i := 204) (by decide +kernel)) (by decide +kernel)
theorem wd_685 : (Jvm.Cond.codeWith ({ cls := "SealHouseLaw", name := "key", desc := "(LSealHouse;III[J)I" } : Jvm.MethodName) method_16_code (6 : Nat) (Option.some Jvm.ClassFile.FieldType.int) [((0 : Nat), (12 : Nat), (15 : Nat), (13 : Nat))]) ∈ BW := bw_3 (List.mem_of_getElem? (i := 205) rfl) rfl
theorem wd_686 : (Jvm.Cond.methodLink "SealHouseLaw" (59 : Nat) ({ cls := "SealHouse", name := "key", desc := "(III)I" } : Jvm.MethodName)) ∈ BW := bw_3 (List.mem_of_getElem? (i := 206) (by decide +kernel)) (by decide +kernel)
theorem wd_687 : (Jvm.Cond.instanceMethod ({ cls := "SealHouse", name := "key", desc := "(III)I" } : Jvm.MethodName)) ∈ BW := bw_3 (List.mem_of_getElem? (i := 207) (by decide +kernel)) (by decide +kernel)
theorem wd_688 : (Jvm.Cond.selects "SealHouse" ({ cls := "SealHouse", name := "key", desc := "(III)I" } : Jvm.MethodName) ({ cls := "SealHouse", name := "key", desc := "(III)I" } : Jvm.MethodName)) ∈ BW := bw_3 (List.mem_of_getElem? (i := 208) (by decide +kernel)) (by decide +kernel)
theorem wd_689 : (Jvm.Cond.code ({ cls := "SealHouse", name := "key", desc := "(III)I" } : Jvm.MethodName) prog_1_method_16_code (8 : Nat) (Option.some Jvm.ClassFile.FieldType.int)) ∈ BW := bw_3 (List.mem_of_getElem? (i := 209) rfl) rfl
theorem wd_690 : (Jvm.Cond.methodLink "SealHouse" (176 : Nat) ({ cls := "SealHouse", name := "refusalOfPrimes", desc := "()I" } : Jvm.MethodName)) ∈ BW := bw_3 (List.mem_of_getElem? (i := 210) (by decide +kernel)) (by decide +kernel)
theorem wd_692 : (Jvm.Cond.instanceMethod ({ cls := "SealHouse", name := "refusalOfPrimes", desc := "()I" } : Jvm.MethodName)) ∈ BW := bw_3 (List.mem_of_getElem? (i := 212) (by decide +kernel)) (by decide +kernel)
theorem wd_693 : (Jvm.Cond.code ({ cls := "SealHouse", name := "refusalOfPrimes", desc := "()I" } : Jvm.MethodName) prog_1_method_38_code (1 : Nat) (Option.some Jvm.ClassFile.FieldType.int)) ∈ BW := bw_3 (List.mem_of_getElem? (i := 213) rfl) rfl
theorem wd_694 : (Jvm.Cond.methodLink "SealHouse" (190 : Nat) ({ cls := "SealHouse", name := "isModulusLength", desc := "(I)Z" } : Jvm.MethodName)) ∈ BW := bw_3 (List.mem_of_getElem? (i := 214) (by decide +kernel)) (by decide +kernel)
theorem wd_695 : (Jvm.Cond.static ({ cls := "SealHouse", name := "isModulusLength", desc := "(I)Z" } : Jvm.MethodName)) ∈ BW := bw_3 (List.mem_of_getElem? (i := 215) (by decide +kernel)) (by decide +kernel)
theorem wd_696 : (Jvm.Cond.code ({ cls := "SealHouse", name := "isModulusLength", desc := "(I)Z" } : Jvm.MethodName) prog_1_method_35_code (1 : Nat) (Option.some Jvm.ClassFile.FieldType.boolean)) ∈ BW := bw_3 (List.mem_of_getElem? (i := 216) rfl) rfl
theorem wd_697 : (Jvm.Cond.methodLink "SealHouse" (328 : Nat) ({ cls := "SealHouse$Whole", name := "isSmall", desc := "(I)Z" } : Jvm.MethodName)) ∈ BW := bw_3 (List.mem_of_getElem? (i := 217) (by decide +kernel)) (by decide +kernel)
theorem wd_698 : (Jvm.Cond.methodLink "SealHouse" (331 : Nat) ({ cls := "SealHouse", name := "haveCommonDivisor", desc := "(LSealHouse$Whole;LSealHouse$Whole;)Z" } : Jvm.MethodName)) ∈ BW := bw_3 (List.mem_of_getElem? (i := 218) (by decide +kernel)) (by decide +kernel)
theorem wd_700 : (Jvm.Cond.instanceMethod ({ cls := "SealHouse", name := "haveCommonDivisor", desc := "(LSealHouse$Whole;LSealHouse$Whole;)Z" } : Jvm.MethodName)) ∈ BW := bw_3 (List.mem_of_getElem? (i := 220) (by decide +kernel)) (by decide +kernel)
theorem wd_701 : (Jvm.Cond.code ({ cls := "SealHouse", name := "haveCommonDivisor", desc := "(LSealHouse$Whole;LSealHouse$Whole;)Z" } : Jvm.MethodName) prog_1_method_37_code (3 : Nat) (Option.some Jvm.ClassFile.FieldType.boolean)) ∈ BW := bw_3 (List.mem_of_getElem? (i := 221) rfl) rfl
theorem wd_702 : (Jvm.Cond.methodLink "SealHouse" (179 : Nat) ({ cls := "SealHouse", name := "refusalOfExponent", desc := "()I" } : Jvm.MethodName)) ∈ BW := bw_3 (List.mem_of_getElem? (i := 222) (by decide +kernel)) (by decide +kernel)
theorem wd_704 : (Jvm.Cond.instanceMethod ({ cls := "SealHouse", name := "refusalOfExponent", desc := "()I" } : Jvm.MethodName)) ∈ BW := bw_3 (List.mem_of_getElem? (i := 224) (by decide +kernel)) (by decide +kernel)
theorem wd_705 : (Jvm.Cond.code ({ cls := "SealHouse", name := "refusalOfExponent", desc := "()I" } : Jvm.MethodName) prog_1_method_39_code (1 : Nat) (Option.some Jvm.ClassFile.FieldType.int)) ∈ BW := bw_3 (List.mem_of_getElem? (i := 225) rfl) rfl
theorem wd_706 : (Jvm.Cond.methodLink "SealHouse" (193 : Nat) ({ cls := "SealHouse", name := "isExponent", desc := "(LSealHouse$Whole;LSealHouse$Whole;)Z" } : Jvm.MethodName)) ∈ BW := bw_3 (List.mem_of_getElem? (i := 226) (by decide +kernel)) (by decide +kernel)
theorem wd_707 : (Jvm.Cond.static ({ cls := "SealHouse", name := "isExponent", desc := "(LSealHouse$Whole;LSealHouse$Whole;)Z" } : Jvm.MethodName)) ∈ BW := bw_3 (List.mem_of_getElem? (i := 227) (by decide +kernel)) (by decide +kernel)
theorem wd_708 : (Jvm.Cond.code ({ cls := "SealHouse", name := "isExponent", desc := "(LSealHouse$Whole;LSealHouse$Whole;)Z" } : Jvm.MethodName) prog_1_method_36_code (2 : Nat) (Option.some Jvm.ClassFile.FieldType.boolean)) ∈ BW := bw_3 (List.mem_of_getElem? (i := 228) rfl) rfl
theorem wd_709 : (Jvm.Cond.methodLink "SealHouse" (197 : Nat) ({ cls := "SealHouse$Whole", name := "isOdd", desc := "()Z" } : Jvm.MethodName)) ∈ BW := bw_3 (List.mem_of_getElem? (i := 229) (by decide +kernel)) (by decide +kernel)
theorem wd_710 : (Jvm.Cond.instanceMethod ({ cls := "SealHouse$Whole", name := "isOdd", desc := "()Z" } : Jvm.MethodName)) ∈ BW := bw_3 (List.mem_of_getElem? (i := 230) (by decide +kernel)) (by decide +kernel)
theorem wd_711 : (Jvm.Cond.selects "SealHouse$Whole" ({ cls := "SealHouse$Whole", name := "isOdd", desc := "()Z" } : Jvm.MethodName) ({ cls := "SealHouse$Whole", name := "isOdd", desc := "()Z" } : Jvm.MethodName)) ∈ BW := bw_3 (List.mem_of_getElem? (i := 231) (by decide +kernel)) (by decide +kernel)
theorem wd_712 : (Jvm.Cond.code ({ cls := "SealHouse$Whole", name := "isOdd", desc := "()Z" } : Jvm.MethodName) prog_7_method_3_code (1 : Nat) (Option.some Jvm.ClassFile.FieldType.boolean)) ∈ BW := bw_3 (List.mem_of_getElem? (i := 232) rfl) rfl
theorem wd_713 : (Jvm.Cond.methodLink "SealHouse" (334 : Nat) ({ cls := "SealHouse$Whole", name := "setLess", desc := "(LSealHouse$Whole;)V" } : Jvm.MethodName)) ∈ BW := bw_3 (List.mem_of_getElem? (i := 233) (by decide +kernel)) (by decide +kernel)
theorem wd_714 : (Jvm.Cond.methodLink "SealHouse" (182 : Nat) ({ cls := "SealHouse", name := "wholeKey", desc := "()LSealHouse$Key;" } : Jvm.MethodName)) ∈ BW := bw_3 (List.mem_of_getElem? (i := 234) (by decide +kernel)) (by decide +kernel)
theorem wd_716 : (Jvm.Cond.instanceMethod ({ cls := "SealHouse", name := "wholeKey", desc := "()LSealHouse$Key;" } : Jvm.MethodName)) ∈ BW := bw_3 (List.mem_of_getElem? (i := 236) (by decide +kernel)) (by decide +kernel)
theorem wd_717 : (Jvm.Cond.code ({ cls := "SealHouse", name := "wholeKey", desc := "()LSealHouse$Key;" } : Jvm.MethodName) prog_1_method_40_code (2 : Nat) (Option.some (Jvm.ClassFile.FieldType.object "SealHouse$Key"))) ∈ BW := bw_3 (List.mem_of_getElem? (i := 237) rfl) rfl
theorem wd_718 : (Jvm.Cond.instantiable "SealHouse$Key" (2 : Nat)) ∈ BW := bw_3 (List.mem_of_getElem? (i := 238) (by decide +kernel)) (by decide +kernel)
theorem wd_719 : (Jvm.Cond.methodLink "SealHouse" (201 : Nat) ({ cls := "SealHouse$Key", name := "<init>", desc := "(ILSealHouse$Whole;LSealHouse$Whole;)V" } : Jvm.MethodName)) ∈ BW := bw_3 (List.mem_of_getElem? (i := 239) (by decide +kernel)) (by decide +kernel)
theorem wd_720 : (Jvm.Cond.instanceMethod ({ cls := "SealHouse$Key", name := "<init>", desc := "(ILSealHouse$Whole;LSealHouse$Whole;)V" } : Jvm.MethodName)) ∈ BW := bw_4 (List.mem_of_getElem? (i := 0) (by decide +kernel)) (by decide +kernel)
theorem wd_721 : (Jvm.Cond.code ({ cls := "SealHouse$Key", name := "<init>", desc := "(ILSealHouse$Whole;LSealHouse$Whole;)V" } : Jvm.MethodName) prog_4_method_1_code (5 : Nat) (Option.none : Option Jvm.ClassFile.FieldType)) ∈ BW := bw_4 (List.mem_of_getElem? (i := 1) rfl) rfl
theorem wd_722 : (Jvm.Cond.methodLink "SealHouse$Key" (1 : Nat) ({ cls := "java/lang/Object", name := "<init>", desc := "()V" } : Jvm.MethodName)) ∈ BW := bw_4 (List.mem_of_getElem? (i := 2) (by decide +kernel)) (by decide +kernel)
theorem wd_723 : (Jvm.Cond.classLink "SealHouse$Key" (9 : Nat) "SealHouse$Whole") ∈ BW := bw_4 (List.mem_of_getElem? (i := 3) (by decide +kernel)) (by decide +kernel)
theorem wd_725 : (Jvm.Cond.methodLink "SealHouse$Key" (15 : Nat) ({ cls := "SealHouse$Whole", name := "<init>", desc := "()V" } : Jvm.MethodName)) ∈ BW := bw_4 (List.mem_of_getElem? (i := 5) (by decide +kernel)) (by decide +kernel)
theorem wd_726 : (Jvm.Cond.methodLink "SealHouse$Key" (16 : Nat) ({ cls := "SealHouse$Whole", name := "set", desc := "(LSealHouse$Whole;)V" } : Jvm.MethodName)) ∈ BW := bw_4 (List.mem_of_getElem? (i := 6) (by decide +kernel)) (by decide +kernel)
theorem wd_727 : (Jvm.Cond.methodLink "SealHouse$Key" (20 : Nat) ({ cls := "SealHouse$Whole", name := "byteLength", desc := "()I" } : Jvm.MethodName)) ∈ BW := bw_4 (List.mem_of_getElem? (i := 7) (by decide +kernel)) (by decide +kernel)
theorem wd_728 : (Jvm.Cond.fieldLink "SealHouse$Key" (11 : Nat) "SealHouse$Key" "parts" "[LSealHouse$Whole;") ∈ BW := bw_4 (List.mem_of_getElem? (i := 8) (by decide +kernel)) (by decide +kernel)
theorem wd_729 : (Jvm.Cond.fieldLink "SealHouse$Key" (24 : Nat) "SealHouse$Key" "length" "I") ∈ BW := bw_4 (List.mem_of_getElem? (i := 9) (by decide +kernel)) (by decide +kernel)
theorem wd_730 : (Jvm.Cond.fieldLink "SealHouse" (223 : Nat) "SealHouse$Key" "length" "I") ∈ BW := bw_4 (List.mem_of_getElem? (i := 10) (by decide +kernel)) (by decide +kernel)
theorem wd_731 : (Jvm.Cond.laysFinal "SealHouse$Key" "SealHouse$Key" "parts" "[LSealHouse$Whole;") ∈ BW := bw_4 (List.mem_of_getElem? (i := 11) (by decide +kernel)) (by decide +kernel)
theorem wd_733 : (Jvm.Cond.laysFinal "SealHouse$Key" "SealHouse$Key" "length" "I") ∈ BW := bw_4 (List.mem_of_getElem? (i := 13) (by decide +kernel)) (by decide +kernel)
theorem wd_735 : (Jvm.Cond.superclass "SealHouse$Key" "java/lang/Object") ∈ BW := bw_4 (List.mem_of_getElem? (i := 15) (by decide +kernel)) (by decide +kernel)
theorem wd_736 : (Jvm.Cond.methodLink "SealHouse" (211 : Nat) ({ cls := "SealHouse$Key", name := "at", desc := "(I)LSealHouse$Whole;" } : Jvm.MethodName)) ∈ BW := bw_4 (List.mem_of_getElem? (i := 16) (by decide +kernel)) (by decide +kernel)
theorem wd_737 : (Jvm.Cond.instanceMethod ({ cls := "SealHouse$Key", name := "at", desc := "(I)LSealHouse$Whole;" } : Jvm.MethodName)) ∈ BW := bw_4 (List.mem_of_getElem? (i := 17) (by decide +kernel)) (by decide +kernel)
theorem wd_738 : (Jvm.Cond.selects "SealHouse$Key" ({ cls := "SealHouse$Key", name := "at", desc := "(I)LSealHouse$Whole;" } : Jvm.MethodName) ({ cls := "SealHouse$Key", name := "at", desc := "(I)LSealHouse$Whole;" } : Jvm.MethodName)) ∈ BW := bw_4 (List.mem_of_getElem? (i := 18) (by decide +kernel)) (by decide +kernel)
theorem wd_739 : (Jvm.Cond.code ({ cls := "SealHouse$Key", name := "at", desc := "(I)LSealHouse$Whole;" } : Jvm.MethodName) prog_4_method_4_code (2 : Nat) (Option.some (Jvm.ClassFile.FieldType.object "SealHouse$Whole"))) ∈ BW := bw_4 (List.mem_of_getElem? (i := 19) rfl) rfl
theorem wd_740 : (Jvm.Cond.methodLink "SealHouse$Key" (28 : Nat) ({ cls := "SealHouse$Key", name := "has", desc := "(I)Z" } : Jvm.MethodName)) ∈ BW := bw_4 (List.mem_of_getElem? (i := 20) (by decide +kernel)) (by decide +kernel)
theorem wd_741 : (Jvm.Cond.instanceMethod ({ cls := "SealHouse$Key", name := "has", desc := "(I)Z" } : Jvm.MethodName)) ∈ BW := bw_4 (List.mem_of_getElem? (i := 21) (by decide +kernel)) (by decide +kernel)
theorem wd_742 : (Jvm.Cond.selects "SealHouse$Key" ({ cls := "SealHouse$Key", name := "has", desc := "(I)Z" } : Jvm.MethodName) ({ cls := "SealHouse$Key", name := "has", desc := "(I)Z" } : Jvm.MethodName)) ∈ BW := bw_4 (List.mem_of_getElem? (i := 22) (by decide +kernel)) (by decide +kernel)
theorem wd_743 : (Jvm.Cond.code ({ cls := "SealHouse$Key", name := "has", desc := "(I)Z" } : Jvm.MethodName) prog_4_method_3_code (2 : Nat) (Option.some Jvm.ClassFile.FieldType.boolean)) ∈ BW := bw_4 (List.mem_of_getElem? (i := 23) rfl) rfl
theorem wd_744 : (Jvm.Cond.methodLink "SealHouse" (186 : Nat) ({ cls := "SealHouse", name := "keep", desc := "(LSealHouse$Key;)I" } : Jvm.MethodName)) ∈ BW := bw_4 (List.mem_of_getElem? (i := 24) (by decide +kernel)) (by decide +kernel)
theorem wd_746 : (Jvm.Cond.instanceMethod ({ cls := "SealHouse", name := "keep", desc := "(LSealHouse$Key;)I" } : Jvm.MethodName)) ∈ BW := bw_4 (List.mem_of_getElem? (i := 26) (by decide +kernel)) (by decide +kernel)
theorem wd_747 : (Jvm.Cond.code ({ cls := "SealHouse", name := "keep", desc := "(LSealHouse$Key;)I" } : Jvm.MethodName) prog_1_method_41_code (2 : Nat) (Option.some Jvm.ClassFile.FieldType.int)) ∈ BW := bw_4 (List.mem_of_getElem? (i := 27) rfl) rfl
theorem wd_748 : (Jvm.Cond.methodLink "SealHouseLaw" (158 : Nat) ({ cls := "SealHouseLaw", name := "open", desc := "(LSealHouse;II[J)I" } : Jvm.MethodName)) ∈ BW := bw_4 (List.mem_of_getElem? (i := 28) (by decide +kernel)) (by decide +kernel)
theorem wd_749 : (Jvm.Cond.static ({ cls := "SealHouseLaw", name := "open", desc := "(LSealHouse;II[J)I" } : Jvm.MethodName)) ∈ BW := bw_4 (List.mem_of_getElem? (i := 29) (by decide +kernel)) (by decide +kernel)
theorem wd_750 : (Jvm.Cond.codeWith ({ cls := "SealHouseLaw", name := "open", desc := "(LSealHouse;II[J)I" } : Jvm.MethodName) method_17_code (5 : Nat) (Option.some Jvm.ClassFile.FieldType.int) [((0 : Nat), (10 : Nat), (13 : Nat), (13 : Nat))]) ∈ BW := bw_4 (List.mem_of_getElem? (i := 30) rfl) rfl
theorem wd_751 : (Jvm.Cond.methodLink "SealHouseLaw" (62 : Nat) ({ cls := "SealHouse", name := "open", desc := "(II)I" } : Jvm.MethodName)) ∈ BW := bw_4 (List.mem_of_getElem? (i := 31) (by decide +kernel)) (by decide +kernel)
theorem wd_752 : (Jvm.Cond.instanceMethod ({ cls := "SealHouse", name := "open", desc := "(II)I" } : Jvm.MethodName)) ∈ BW := bw_4 (List.mem_of_getElem? (i := 32) (by decide +kernel)) (by decide +kernel)
theorem wd_753 : (Jvm.Cond.selects "SealHouse" ({ cls := "SealHouse", name := "open", desc := "(II)I" } : Jvm.MethodName) ({ cls := "SealHouse", name := "open", desc := "(II)I" } : Jvm.MethodName)) ∈ BW := bw_4 (List.mem_of_getElem? (i := 33) (by decide +kernel)) (by decide +kernel)
theorem wd_754 : (Jvm.Cond.code ({ cls := "SealHouse", name := "open", desc := "(II)I" } : Jvm.MethodName) prog_1_method_17_code (5 : Nat) (Option.some Jvm.ClassFile.FieldType.int)) ∈ BW := bw_4 (List.mem_of_getElem? (i := 34) rfl) rfl
theorem wd_755 : (Jvm.Cond.methodLink "SealHouseLaw" (161 : Nat) ({ cls := "SealHouseLaw", name := "part", desc := "(LSealHouse;III[J)I" } : Jvm.MethodName)) ∈ BW := bw_4 (List.mem_of_getElem? (i := 35) (by decide +kernel)) (by decide +kernel)
theorem wd_756 : (Jvm.Cond.static ({ cls := "SealHouseLaw", name := "part", desc := "(LSealHouse;III[J)I" } : Jvm.MethodName)) ∈ BW := bw_4 (List.mem_of_getElem? (i := 36) (by decide +kernel)) (by decide +kernel)
theorem wd_757 : (Jvm.Cond.codeWith ({ cls := "SealHouseLaw", name := "part", desc := "(LSealHouse;III[J)I" } : Jvm.MethodName) method_18_code (6 : Nat) (Option.some Jvm.ClassFile.FieldType.int) [((0 : Nat), (12 : Nat), (15 : Nat), (13 : Nat)), ((0 : Nat), (12 : Nat), (19 : Nat), (15 : Nat))]) ∈ BW := bw_4 (List.mem_of_getElem? (i := 37) rfl) rfl
theorem wd_758 : (Jvm.Cond.methodLink "SealHouseLaw" (65 : Nat) ({ cls := "SealHouse", name := "part", desc := "(III)I" } : Jvm.MethodName)) ∈ BW := bw_4 (List.mem_of_getElem? (i := 38) (by decide +kernel)) (by decide +kernel)
theorem wd_759 : (Jvm.Cond.instanceMethod ({ cls := "SealHouse", name := "part", desc := "(III)I" } : Jvm.MethodName)) ∈ BW := bw_4 (List.mem_of_getElem? (i := 39) (by decide +kernel)) (by decide +kernel)
theorem wd_760 : (Jvm.Cond.selects "SealHouse" ({ cls := "SealHouse", name := "part", desc := "(III)I" } : Jvm.MethodName) ({ cls := "SealHouse", name := "part", desc := "(III)I" } : Jvm.MethodName)) ∈ BW := bw_4 (List.mem_of_getElem? (i := 40) (by decide +kernel)) (by decide +kernel)
theorem wd_761 : (Jvm.Cond.code ({ cls := "SealHouse", name := "part", desc := "(III)I" } : Jvm.MethodName) prog_1_method_18_code (6 : Nat) (Option.some Jvm.ClassFile.FieldType.int)) ∈ BW := bw_4 (List.mem_of_getElem? (i := 41) rfl) rfl
theorem wd_762 : (Jvm.Cond.methodLink "SealHouse" (204 : Nat) ({ cls := "SealHouse", name := "keyAt", desc := "(I)LSealHouse$Key;" } : Jvm.MethodName)) ∈ BW := bw_4 (List.mem_of_getElem? (i := 42) (by decide +kernel)) (by decide +kernel)
theorem wd_764 : (Jvm.Cond.instanceMethod ({ cls := "SealHouse", name := "keyAt", desc := "(I)LSealHouse$Key;" } : Jvm.MethodName)) ∈ BW := bw_4 (List.mem_of_getElem? (i := 44) (by decide +kernel)) (by decide +kernel)
theorem wd_765 : (Jvm.Cond.code ({ cls := "SealHouse", name := "keyAt", desc := "(I)LSealHouse$Key;" } : Jvm.MethodName) prog_1_method_30_code (2 : Nat) (Option.some (Jvm.ClassFile.FieldType.object "SealHouse$Key"))) ∈ BW := bw_4 (List.mem_of_getElem? (i := 45) rfl) rfl
theorem wd_768 : (Jvm.Cond.methodLink "SealHouse" (210 : Nat) ({ cls := "SealHouse$Key", name := "has", desc := "(I)Z" } : Jvm.MethodName)) ∈ BW := bw_4 (List.mem_of_getElem? (i := 48) (by decide +kernel)) (by decide +kernel)
theorem wd_769 : (Jvm.Cond.methodLink "SealHouseLaw" (164 : Nat) ({ cls := "SealHouseLaw", name := "turn", desc := "(LSealHouse;IIII[J)I" } : Jvm.MethodName)) ∈ BW := bw_4 (List.mem_of_getElem? (i := 49) (by decide +kernel)) (by decide +kernel)
theorem wd_770 : (Jvm.Cond.static ({ cls := "SealHouseLaw", name := "turn", desc := "(LSealHouse;IIII[J)I" } : Jvm.MethodName)) ∈ BW := bw_4 (List.mem_of_getElem? (i := 50) (by decide +kernel)) (by decide +kernel)
theorem wd_771 : (Jvm.Cond.codeWith ({ cls := "SealHouseLaw", name := "turn", desc := "(LSealHouse;IIII[J)I" } : Jvm.MethodName) method_19_code (7 : Nat) (Option.some Jvm.ClassFile.FieldType.int) [((0 : Nat), (14 : Nat), (17 : Nat), (13 : Nat)), ((0 : Nat), (14 : Nat), (21 : Nat), (15 : Nat))]) ∈ BW := bw_4 (List.mem_of_getElem? (i := 51) rfl) rfl
theorem wd_772 : (Jvm.Cond.methodLink "SealHouseLaw" (68 : Nat) ({ cls := "SealHouse", name := "turn", desc := "(IIII)I" } : Jvm.MethodName)) ∈ BW := bw_4 (List.mem_of_getElem? (i := 52) (by decide +kernel)) (by decide +kernel)
theorem wd_773 : (Jvm.Cond.instanceMethod ({ cls := "SealHouse", name := "turn", desc := "(IIII)I" } : Jvm.MethodName)) ∈ BW := bw_4 (List.mem_of_getElem? (i := 53) (by decide +kernel)) (by decide +kernel)
theorem wd_774 : (Jvm.Cond.selects "SealHouse" ({ cls := "SealHouse", name := "turn", desc := "(IIII)I" } : Jvm.MethodName) ({ cls := "SealHouse", name := "turn", desc := "(IIII)I" } : Jvm.MethodName)) ∈ BW := bw_4 (List.mem_of_getElem? (i := 54) (by decide +kernel)) (by decide +kernel)
theorem wd_775 : (Jvm.Cond.code ({ cls := "SealHouse", name := "turn", desc := "(IIII)I" } : Jvm.MethodName) prog_1_method_19_code (8 : Nat) (Option.some Jvm.ClassFile.FieldType.int)) ∈ BW := bw_4 (List.mem_of_getElem? (i := 55) rfl) rfl
theorem wd_777 : (Jvm.Cond.methodLink "SealHouse" (216 : Nat) ({ cls := "SealHouse$Key", name := "isOpen", desc := "()Z" } : Jvm.MethodName)) ∈ BW := bw_4 (List.mem_of_getElem? (i := 57) (by decide +kernel)) (by decide +kernel)
theorem wd_778 : (Jvm.Cond.instanceMethod ({ cls := "SealHouse$Key", name := "isOpen", desc := "()Z" } : Jvm.MethodName)) ∈ BW := bw_4 (List.mem_of_getElem? (i := 58) (by decide +kernel)) (by decide +kernel)
theorem wd_779 : (Jvm.Cond.selects "SealHouse$Key" ({ cls := "SealHouse$Key", name := "isOpen", desc := "()Z" } : Jvm.MethodName) ({ cls := "SealHouse$Key", name := "isOpen", desc := "()Z" } : Jvm.MethodName)) ∈ BW := bw_4 (List.mem_of_getElem? (i := 59) (by decide +kernel)) (by decide +kernel)
theorem wd_780 : (Jvm.Cond.code ({ cls := "SealHouse$Key", name := "isOpen", desc := "()Z" } : Jvm.MethodName) prog_4_method_2_code (1 : Nat) (Option.some Jvm.ClassFile.FieldType.boolean)) ∈ BW := bw_4 (List.mem_of_getElem? (i := 60) rfl) rfl
theorem wd_781 : (Jvm.Cond.methodLink "SealHouse" (219 : Nat) ({ cls := "SealHouse", name := "turnRow", desc := "(LSealHouse$Key;ILSealHouse$Row;)Z" } : Jvm.MethodName)) ∈ BW := bw_4 (List.mem_of_getElem? (i := 61) (by decide +kernel)) (by decide +kernel)
theorem wd_783 : (Jvm.Cond.instanceMethod ({ cls := "SealHouse", name := "turnRow", desc := "(LSealHouse$Key;ILSealHouse$Row;)Z" } : Jvm.MethodName)) ∈ BW := bw_4 (List.mem_of_getElem? (i := 63) (by decide +kernel)) (by decide +kernel)
theorem wd_784 : (Jvm.Cond.code ({ cls := "SealHouse", name := "turnRow", desc := "(LSealHouse$Key;ILSealHouse$Row;)Z" } : Jvm.MethodName) prog_1_method_42_code (4 : Nat) (Option.some Jvm.ClassFile.FieldType.boolean)) ∈ BW := bw_4 (List.mem_of_getElem? (i := 64) rfl) rfl
theorem wd_785 : (Jvm.Cond.methodLink "SealHouseLaw" (167 : Nat) ({ cls := "SealHouseLaw", name := "hide", desc := "(LSealHouse;IIIIII[J)I" } : Jvm.MethodName)) ∈ BW := bw_4 (List.mem_of_getElem? (i := 65) (by decide +kernel)) (by decide +kernel)
theorem wd_786 : (Jvm.Cond.static ({ cls := "SealHouseLaw", name := "hide", desc := "(LSealHouse;IIIIII[J)I" } : Jvm.MethodName)) ∈ BW := bw_4 (List.mem_of_getElem? (i := 66) (by decide +kernel)) (by decide +kernel)
theorem wd_787 : (Jvm.Cond.codeWith ({ cls := "SealHouseLaw", name := "hide", desc := "(LSealHouse;IIIIII[J)I" } : Jvm.MethodName) method_20_code (9 : Nat) (Option.some Jvm.ClassFile.FieldType.int) [((0 : Nat), (18 : Nat), (21 : Nat), (13 : Nat)), ((0 : Nat), (18 : Nat), (25 : Nat), (15 : Nat))]) ∈ BW := bw_4 (List.mem_of_getElem? (i := 67) rfl) rfl
theorem wd_788 : (Jvm.Cond.methodLink "SealHouseLaw" (71 : Nat) ({ cls := "SealHouse", name := "hide", desc := "(IIIIII)I" } : Jvm.MethodName)) ∈ BW := bw_4 (List.mem_of_getElem? (i := 68) (by decide +kernel)) (by decide +kernel)
theorem wd_789 : (Jvm.Cond.instanceMethod ({ cls := "SealHouse", name := "hide", desc := "(IIIIII)I" } : Jvm.MethodName)) ∈ BW := bw_4 (List.mem_of_getElem? (i := 69) (by decide +kernel)) (by decide +kernel)
theorem wd_790 : (Jvm.Cond.selects "SealHouse" ({ cls := "SealHouse", name := "hide", desc := "(IIIIII)I" } : Jvm.MethodName) ({ cls := "SealHouse", name := "hide", desc := "(IIIIII)I" } : Jvm.MethodName)) ∈ BW := bw_4 (List.mem_of_getElem? (i := 70) (by decide +kernel)) (by decide +kernel)
theorem wd_791 : (Jvm.Cond.code ({ cls := "SealHouse", name := "hide", desc := "(IIIIII)I" } : Jvm.MethodName) prog_1_method_20_code (13 : Nat) (Option.some Jvm.ClassFile.FieldType.int)) ∈ BW := bw_4 (List.mem_of_getElem? (i := 71) rfl) rfl
theorem wd_792 : (Jvm.Cond.methodLink "SealHouse" (224 : Nat) ({ cls := "SealHouse$Digester", name := "lengthOf", desc := "(I)I" } : Jvm.MethodName)) ∈ BW := bw_4 (List.mem_of_getElem? (i := 72) (by decide +kernel)) (by decide +kernel)
theorem wd_793 : (Jvm.Cond.methodLink "SealHouse" (227 : Nat) ({ cls := "SealHouse$Padder", name := "hideIn", desc := "(LSealHouse$Row;IILSealHouse$Row;LSealHouse$Row;LSealHouse$Row;)V" } : Jvm.MethodName)) ∈ BW := bw_4 (List.mem_of_getElem? (i := 73) (by decide +kernel)) (by decide +kernel)
theorem wd_794 : (Jvm.Cond.instanceMethod ({ cls := "SealHouse$Padder", name := "hideIn", desc := "(LSealHouse$Row;IILSealHouse$Row;LSealHouse$Row;LSealHouse$Row;)V" } : Jvm.MethodName)) ∈ BW := bw_4 (List.mem_of_getElem? (i := 74) (by decide +kernel)) (by decide +kernel)
theorem wd_795 : (Jvm.Cond.selects "SealHouse$Padder" ({ cls := "SealHouse$Padder", name := "hideIn", desc := "(LSealHouse$Row;IILSealHouse$Row;LSealHouse$Row;LSealHouse$Row;)V" } : Jvm.MethodName) ({ cls := "SealHouse$Padder", name := "hideIn", desc := "(LSealHouse$Row;IILSealHouse$Row;LSealHouse$Row;LSealHouse$Row;)V" } : Jvm.MethodName)) ∈ BW := bw_4 (List.mem_of_getElem? (i := 75) (by decide +kernel)) (by decide +kernel)
theorem wd_796 : (Jvm.Cond.code ({ cls := "SealHouse$Padder", name := "hideIn", desc := "(LSealHouse$Row;IILSealHouse$Row;LSealHouse$Row;LSealHouse$Row;)V" } : Jvm.MethodName) prog_5_method_4_code (8 : Nat) (Option.none : Option Jvm.ClassFile.FieldType)) ∈ BW := bw_4 (List.mem_of_getElem? (i := 76) rfl) rfl
theorem wd_797 : (Jvm.Cond.methodLink "SealHouse$Padder" (36 : Nat) ({ cls := "SealHouse$Digester", name := "lengthOf", desc := "(I)I" } : Jvm.MethodName)) ∈ BW := bw_4 (List.mem_of_getElem? (i := 77) (by decide +kernel)) (by decide +kernel)
theorem wd_798 : (Jvm.Cond.methodLink "SealHouse$Padder" (46 : Nat) ({ cls := "SealHouse$Digester", name := "addDigest", desc := "(ILSealHouse$Row;LSealHouse$Row;)V" } : Jvm.MethodName)) ∈ BW := bw_4 (List.mem_of_getElem? (i := 78) (by decide +kernel)) (by decide +kernel)
theorem wd_799 : (Jvm.Cond.methodLink "SealHouse$Padder" (50 : Nat) ({ cls := "SealHouse$Row", name := "addTimes", desc := "(II)V" } : Jvm.MethodName)) ∈ BW := bw_4 (List.mem_of_getElem? (i := 79) (by decide +kernel)) (by decide +kernel)
theorem wd_800 : (Jvm.Cond.instanceMethod ({ cls := "SealHouse$Row", name := "addTimes", desc := "(II)V" } : Jvm.MethodName)) ∈ BW := bw_4 (List.mem_of_getElem? (i := 80) (by decide +kernel)) (by decide +kernel)
theorem wd_801 : (Jvm.Cond.selects "SealHouse$Row" ({ cls := "SealHouse$Row", name := "addTimes", desc := "(II)V" } : Jvm.MethodName) ({ cls := "SealHouse$Row", name := "addTimes", desc := "(II)V" } : Jvm.MethodName)) ∈ BW := bw_4 (List.mem_of_getElem? (i := 81) (by decide +kernel)) (by decide +kernel)
theorem wd_802 : (Jvm.Cond.code ({ cls := "SealHouse$Row", name := "addTimes", desc := "(II)V" } : Jvm.MethodName) prog_6_method_7_code (4 : Nat) (Option.none : Option Jvm.ClassFile.FieldType)) ∈ BW := bw_4 (List.mem_of_getElem? (i := 82) rfl) rfl
theorem wd_803 : (Jvm.Cond.methodLink "SealHouse$Padder" (54 : Nat) ({ cls := "SealHouse$Row", name := "add", desc := "(I)V" } : Jvm.MethodName)) ∈ BW := bw_4 (List.mem_of_getElem? (i := 83) (by decide +kernel)) (by decide +kernel)
theorem wd_804 : (Jvm.Cond.methodLink "SealHouse$Padder" (57 : Nat) ({ cls := "SealHouse$Row", name := "addRow", desc := "(LSealHouse$Row;)V" } : Jvm.MethodName)) ∈ BW := bw_4 (List.mem_of_getElem? (i := 84) (by decide +kernel)) (by decide +kernel)
theorem wd_805 : (Jvm.Cond.methodLink "SealHouse$Padder" (61 : Nat) ({ cls := "SealHouse$Digester", name := "setMask", desc := "(ILSealHouse$Row;ILSealHouse$Row;)V" } : Jvm.MethodName)) ∈ BW := bw_4 (List.mem_of_getElem? (i := 85) (by decide +kernel)) (by decide +kernel)
theorem wd_806 : (Jvm.Cond.methodLink "SealHouse$Padder" (65 : Nat) ({ cls := "SealHouse$Row", name := "mixWith", desc := "(LSealHouse$Row;)V" } : Jvm.MethodName)) ∈ BW := bw_4 (List.mem_of_getElem? (i := 86) (by decide +kernel)) (by decide +kernel)
theorem wd_807 : (Jvm.Cond.instanceMethod ({ cls := "SealHouse$Row", name := "mixWith", desc := "(LSealHouse$Row;)V" } : Jvm.MethodName)) ∈ BW := bw_4 (List.mem_of_getElem? (i := 87) (by decide +kernel)) (by decide +kernel)
theorem wd_808 : (Jvm.Cond.selects "SealHouse$Row" ({ cls := "SealHouse$Row", name := "mixWith", desc := "(LSealHouse$Row;)V" } : Jvm.MethodName) ({ cls := "SealHouse$Row", name := "mixWith", desc := "(LSealHouse$Row;)V" } : Jvm.MethodName)) ∈ BW := bw_4 (List.mem_of_getElem? (i := 88) (by decide +kernel)) (by decide +kernel)
theorem wd_809 : (Jvm.Cond.code ({ cls := "SealHouse$Row", name := "mixWith", desc := "(LSealHouse$Row;)V" } : Jvm.MethodName) prog_6_method_12_code (3 : Nat) (Option.none : Option Jvm.ClassFile.FieldType)) ∈ BW := bw_4 (List.mem_of_getElem? (i := 89) rfl) rfl
theorem wd_810 : (Jvm.Cond.methodLink "SealHouse$Row" (32 : Nat) ({ cls := "SealHouse$Row", name := "put", desc := "(II)V" } : Jvm.MethodName)) ∈ BW := bw_4 (List.mem_of_getElem? (i := 90) (by decide +kernel)) (by decide +kernel)
theorem wd_811 : (Jvm.Cond.methodLink "SealHouse" (231 : Nat) ({ cls := "SealHouse", name := "putTurned", desc := "(LSealHouse$Key;ILSealHouse$Row;)I" } : Jvm.MethodName)) ∈ BW := bw_4 (List.mem_of_getElem? (i := 91) (by decide +kernel)) (by decide +kernel)
theorem wd_813 : (Jvm.Cond.instanceMethod ({ cls := "SealHouse", name := "putTurned", desc := "(LSealHouse$Key;ILSealHouse$Row;)I" } : Jvm.MethodName)) ∈ BW := bw_4 (List.mem_of_getElem? (i := 93) (by decide +kernel)) (by decide +kernel)
theorem wd_814 : (Jvm.Cond.code ({ cls := "SealHouse", name := "putTurned", desc := "(LSealHouse$Key;ILSealHouse$Row;)I" } : Jvm.MethodName) prog_1_method_44_code (4 : Nat) (Option.some Jvm.ClassFile.FieldType.int)) ∈ BW := bw_4 (List.mem_of_getElem? (i := 94) rfl) rfl
theorem wd_815 : (Jvm.Cond.methodLink "SealHouseLaw" (171 : Nat) ({ cls := "SealHouseLaw", name := "show", desc := "(LSealHouse;IIIII[J)I" } : Jvm.MethodName)) ∈ BW := bw_4 (List.mem_of_getElem? (i := 95) (by decide +kernel)) (by decide +kernel)
theorem wd_816 : (Jvm.Cond.static ({ cls := "SealHouseLaw", name := "show", desc := "(LSealHouse;IIIII[J)I" } : Jvm.MethodName)) ∈ BW := bw_4 (List.mem_of_getElem? (i := 96) (by decide +kernel)) (by decide +kernel)
theorem wd_817 : (Jvm.Cond.codeWith ({ cls := "SealHouseLaw", name := "show", desc := "(LSealHouse;IIIII[J)I" } : Jvm.MethodName) method_21_code (8 : Nat) (Option.some Jvm.ClassFile.FieldType.int) [((0 : Nat), (16 : Nat), (19 : Nat), (13 : Nat)), ((0 : Nat), (16 : Nat), (23 : Nat), (15 : Nat))]) ∈ BW := bw_4 (List.mem_of_getElem? (i := 97) rfl) rfl
theorem wd_818 : (Jvm.Cond.methodLink "SealHouseLaw" (75 : Nat) ({ cls := "SealHouse", name := "show", desc := "(IIIII)I" } : Jvm.MethodName)) ∈ BW := bw_4 (List.mem_of_getElem? (i := 98) (by decide +kernel)) (by decide +kernel)
theorem wd_819 : (Jvm.Cond.instanceMethod ({ cls := "SealHouse", name := "show", desc := "(IIIII)I" } : Jvm.MethodName)) ∈ BW := bw_4 (List.mem_of_getElem? (i := 99) (by decide +kernel)) (by decide +kernel)
theorem wd_820 : (Jvm.Cond.selects "SealHouse" ({ cls := "SealHouse", name := "show", desc := "(IIIII)I" } : Jvm.MethodName) ({ cls := "SealHouse", name := "show", desc := "(IIIII)I" } : Jvm.MethodName)) ∈ BW := bw_4 (List.mem_of_getElem? (i := 100) (by decide +kernel)) (by decide +kernel)
theorem wd_821 : (Jvm.Cond.code ({ cls := "SealHouse", name := "show", desc := "(IIIII)I" } : Jvm.MethodName) prog_1_method_21_code (10 : Nat) (Option.some Jvm.ClassFile.FieldType.int)) ∈ BW := bw_4 (List.mem_of_getElem? (i := 101) rfl) rfl
theorem wd_822 : (Jvm.Cond.methodLink "SealHouse" (235 : Nat) ({ cls := "SealHouse", name := "turnWholeRow", desc := "(LSealHouse$Key;ILSealHouse$Row;)Z" } : Jvm.MethodName)) ∈ BW := bw_4 (List.mem_of_getElem? (i := 102) (by decide +kernel)) (by decide +kernel)
theorem wd_824 : (Jvm.Cond.instanceMethod ({ cls := "SealHouse", name := "turnWholeRow", desc := "(LSealHouse$Key;ILSealHouse$Row;)Z" } : Jvm.MethodName)) ∈ BW := bw_4 (List.mem_of_getElem? (i := 104) (by decide +kernel)) (by decide +kernel)
theorem wd_825 : (Jvm.Cond.code ({ cls := "SealHouse", name := "turnWholeRow", desc := "(LSealHouse$Key;ILSealHouse$Row;)Z" } : Jvm.MethodName) prog_1_method_43_code (4 : Nat) (Option.some Jvm.ClassFile.FieldType.boolean)) ∈ BW := bw_4 (List.mem_of_getElem? (i := 105) rfl) rfl
theorem wd_826 : (Jvm.Cond.methodLink "SealHouse" (238 : Nat) ({ cls := "SealHouse$Padder", name := "showFrom", desc := "(LSealHouse$Row;ILSealHouse$Row;LSealHouse$Row;)Z" } : Jvm.MethodName)) ∈ BW := bw_4 (List.mem_of_getElem? (i := 106) (by decide +kernel)) (by decide +kernel)
theorem wd_827 : (Jvm.Cond.instanceMethod ({ cls := "SealHouse$Padder", name := "showFrom", desc := "(LSealHouse$Row;ILSealHouse$Row;LSealHouse$Row;)Z" } : Jvm.MethodName)) ∈ BW := bw_4 (List.mem_of_getElem? (i := 107) (by decide +kernel)) (by decide +kernel)
theorem wd_828 : (Jvm.Cond.selects "SealHouse$Padder" ({ cls := "SealHouse$Padder", name := "showFrom", desc := "(LSealHouse$Row;ILSealHouse$Row;LSealHouse$Row;)Z" } : Jvm.MethodName) ({ cls := "SealHouse$Padder", name := "showFrom", desc := "(LSealHouse$Row;ILSealHouse$Row;LSealHouse$Row;)Z" } : Jvm.MethodName)) ∈ BW := bw_4 (List.mem_of_getElem? (i := 108) (by decide +kernel)) (by decide +kernel)
theorem wd_829 : (Jvm.Cond.code ({ cls := "SealHouse$Padder", name := "showFrom", desc := "(LSealHouse$Row;ILSealHouse$Row;LSealHouse$Row;)Z" } : Jvm.MethodName) prog_5_method_5_code (7 : Nat) (Option.some Jvm.ClassFile.FieldType.boolean)) ∈ BW := bw_4 (List.mem_of_getElem? (i := 109) rfl) rfl
theorem wd_830 : (Jvm.Cond.methodLink "SealHouse$Padder" (68 : Nat) ({ cls := "SealHouse$Row", name := "takePart", desc := "(LSealHouse$Row;II)V" } : Jvm.MethodName)) ∈ BW := bw_4 (List.mem_of_getElem? (i := 110) (by decide +kernel)) (by decide +kernel)
theorem wd_831 : (Jvm.Cond.methodLink "SealHouse$Padder" (72 : Nat) ({ cls := "SealHouse$Row", name := "zerosFrom", desc := "(I)I" } : Jvm.MethodName)) ∈ BW := bw_4 (List.mem_of_getElem? (i := 111) (by decide +kernel)) (by decide +kernel)
theorem wd_832 : (Jvm.Cond.instanceMethod ({ cls := "SealHouse$Row", name := "zerosFrom", desc := "(I)I" } : Jvm.MethodName)) ∈ BW := bw_4 (List.mem_of_getElem? (i := 112) (by decide +kernel)) (by decide +kernel)
theorem wd_833 : (Jvm.Cond.selects "SealHouse$Row" ({ cls := "SealHouse$Row", name := "zerosFrom", desc := "(I)I" } : Jvm.MethodName) ({ cls := "SealHouse$Row", name := "zerosFrom", desc := "(I)I" } : Jvm.MethodName)) ∈ BW := bw_4 (List.mem_of_getElem? (i := 113) (by decide +kernel)) (by decide +kernel)
theorem wd_834 : (Jvm.Cond.code ({ cls := "SealHouse$Row", name := "zerosFrom", desc := "(I)I" } : Jvm.MethodName) prog_6_method_15_code (3 : Nat) (Option.some Jvm.ClassFile.FieldType.int)) ∈ BW := bw_4 (List.mem_of_getElem? (i := 114) rfl) rfl
theorem wd_835 : (Jvm.Cond.methodLink "SealHouse$Padder" (75 : Nat) ({ cls := "SealHouse$Row", name := "at", desc := "(I)I" } : Jvm.MethodName)) ∈ BW := bw_4 (List.mem_of_getElem? (i := 115) (by decide +kernel)) (by decide +kernel)
theorem wd_836 : (Jvm.Cond.methodLink "SealHouse$Padder" (78 : Nat) ({ cls := "SealHouse$Row", name := "holds", desc := "(LSealHouse$Row;I)Z" } : Jvm.MethodName)) ∈ BW := bw_4 (List.mem_of_getElem? (i := 116) (by decide +kernel)) (by decide +kernel)
theorem wd_837 : (Jvm.Cond.instanceMethod ({ cls := "SealHouse$Row", name := "holds", desc := "(LSealHouse$Row;I)Z" } : Jvm.MethodName)) ∈ BW := bw_4 (List.mem_of_getElem? (i := 117) (by decide +kernel)) (by decide +kernel)
theorem wd_838 : (Jvm.Cond.selects "SealHouse$Row" ({ cls := "SealHouse$Row", name := "holds", desc := "(LSealHouse$Row;I)Z" } : Jvm.MethodName) ({ cls := "SealHouse$Row", name := "holds", desc := "(LSealHouse$Row;I)Z" } : Jvm.MethodName)) ∈ BW := bw_4 (List.mem_of_getElem? (i := 118) (by decide +kernel)) (by decide +kernel)
theorem wd_839 : (Jvm.Cond.code ({ cls := "SealHouse$Row", name := "holds", desc := "(LSealHouse$Row;I)Z" } : Jvm.MethodName) prog_6_method_13_code (4 : Nat) (Option.some Jvm.ClassFile.FieldType.boolean)) ∈ BW := bw_4 (List.mem_of_getElem? (i := 119) rfl) rfl
theorem wd_840 : (Jvm.Cond.methodLink "SealHouseLaw" (174 : Nat) ({ cls := "SealHouseLaw", name := "fill", desc := "(LSealHouse;IIII[J)I" } : Jvm.MethodName)) ∈ BW := bw_4 (List.mem_of_getElem? (i := 120) (by decide +kernel)) (by decide +kernel)
theorem wd_841 : (Jvm.Cond.static ({ cls := "SealHouseLaw", name := "fill", desc := "(LSealHouse;IIII[J)I" } : Jvm.MethodName)) ∈ BW := bw_4 (List.mem_of_getElem? (i := 121) (by decide +kernel)) (by decide +kernel)
theorem wd_842 : (Jvm.Cond.codeWith ({ cls := "SealHouseLaw", name := "fill", desc := "(LSealHouse;IIII[J)I" } : Jvm.MethodName) method_22_code (7 : Nat) (Option.some Jvm.ClassFile.FieldType.int) [((0 : Nat), (14 : Nat), (17 : Nat), (13 : Nat))]) ∈ BW := bw_4 (List.mem_of_getElem? (i := 122) rfl) rfl
theorem wd_843 : (Jvm.Cond.methodLink "SealHouseLaw" (78 : Nat) ({ cls := "SealHouse", name := "fill", desc := "(IIII)I" } : Jvm.MethodName)) ∈ BW := bw_4 (List.mem_of_getElem? (i := 123) (by decide +kernel)) (by decide +kernel)
theorem wd_844 : (Jvm.Cond.instanceMethod ({ cls := "SealHouse", name := "fill", desc := "(IIII)I" } : Jvm.MethodName)) ∈ BW := bw_4 (List.mem_of_getElem? (i := 124) (by decide +kernel)) (by decide +kernel)
theorem wd_845 : (Jvm.Cond.selects "SealHouse" ({ cls := "SealHouse", name := "fill", desc := "(IIII)I" } : Jvm.MethodName) ({ cls := "SealHouse", name := "fill", desc := "(IIII)I" } : Jvm.MethodName)) ∈ BW := bw_4 (List.mem_of_getElem? (i := 125) (by decide +kernel)) (by decide +kernel)
theorem wd_846 : (Jvm.Cond.code ({ cls := "SealHouse", name := "fill", desc := "(IIII)I" } : Jvm.MethodName) prog_1_method_22_code (9 : Nat) (Option.some Jvm.ClassFile.FieldType.int)) ∈ BW := bw_4 (List.mem_of_getElem? (i := 126) rfl) rfl
theorem wd_847 : (Jvm.Cond.methodLink "SealHouse" (242 : Nat) ({ cls := "SealHouse$Row", name := "othersFrom", desc := "(I)I" } : Jvm.MethodName)) ∈ BW := bw_4 (List.mem_of_getElem? (i := 127) (by decide +kernel)) (by decide +kernel)
theorem wd_848 : (Jvm.Cond.instanceMethod ({ cls := "SealHouse$Row", name := "othersFrom", desc := "(I)I" } : Jvm.MethodName)) ∈ BW := bw_4 (List.mem_of_getElem? (i := 128) (by decide +kernel)) (by decide +kernel)
theorem wd_849 : (Jvm.Cond.selects "SealHouse$Row" ({ cls := "SealHouse$Row", name := "othersFrom", desc := "(I)I" } : Jvm.MethodName) ({ cls := "SealHouse$Row", name := "othersFrom", desc := "(I)I" } : Jvm.MethodName)) ∈ BW := bw_4 (List.mem_of_getElem? (i := 129) (by decide +kernel)) (by decide +kernel)
theorem wd_850 : (Jvm.Cond.code ({ cls := "SealHouse$Row", name := "othersFrom", desc := "(I)I" } : Jvm.MethodName) prog_6_method_14_code (3 : Nat) (Option.some Jvm.ClassFile.FieldType.int)) ∈ BW := bw_4 (List.mem_of_getElem? (i := 130) rfl) rfl
theorem wd_851 : (Jvm.Cond.methodLink "SealHouse" (245 : Nat) ({ cls := "SealHouse$Padder", name := "fillIn", desc := "(LSealHouse$Row;LSealHouse$Row;LSealHouse$Row;)V" } : Jvm.MethodName)) ∈ BW := bw_4 (List.mem_of_getElem? (i := 131) (by decide +kernel)) (by decide +kernel)
theorem wd_852 : (Jvm.Cond.instanceMethod ({ cls := "SealHouse$Padder", name := "fillIn", desc := "(LSealHouse$Row;LSealHouse$Row;LSealHouse$Row;)V" } : Jvm.MethodName)) ∈ BW := bw_4 (List.mem_of_getElem? (i := 132) (by decide +kernel)) (by decide +kernel)
theorem wd_853 : (Jvm.Cond.selects "SealHouse$Padder" ({ cls := "SealHouse$Padder", name := "fillIn", desc := "(LSealHouse$Row;LSealHouse$Row;LSealHouse$Row;)V" } : Jvm.MethodName) ({ cls := "SealHouse$Padder", name := "fillIn", desc := "(LSealHouse$Row;LSealHouse$Row;LSealHouse$Row;)V" } : Jvm.MethodName)) ∈ BW := bw_4 (List.mem_of_getElem? (i := 133) (by decide +kernel)) (by decide +kernel)
theorem wd_854 : (Jvm.Cond.code ({ cls := "SealHouse$Padder", name := "fillIn", desc := "(LSealHouse$Row;LSealHouse$Row;LSealHouse$Row;)V" } : Jvm.MethodName) prog_5_method_6_code (4 : Nat) (Option.none : Option Jvm.ClassFile.FieldType)) ∈ BW := bw_4 (List.mem_of_getElem? (i := 134) rfl) rfl
theorem wd_855 : (Jvm.Cond.methodLink "SealHouseLaw" (177 : Nat) ({ cls := "SealHouseLaw", name := "empty", desc := "(LSealHouse;III[J)I" } : Jvm.MethodName)) ∈ BW := bw_4 (List.mem_of_getElem? (i := 135) (by decide +kernel)) (by decide +kernel)
theorem wd_856 : (Jvm.Cond.static ({ cls := "SealHouseLaw", name := "empty", desc := "(LSealHouse;III[J)I" } : Jvm.MethodName)) ∈ BW := bw_4 (List.mem_of_getElem? (i := 136) (by decide +kernel)) (by decide +kernel)
theorem wd_857 : (Jvm.Cond.codeWith ({ cls := "SealHouseLaw", name := "empty", desc := "(LSealHouse;III[J)I" } : Jvm.MethodName) method_23_code (6 : Nat) (Option.some Jvm.ClassFile.FieldType.int) [((0 : Nat), (12 : Nat), (15 : Nat), (13 : Nat))]) ∈ BW := bw_4 (List.mem_of_getElem? (i := 137) rfl) rfl
theorem wd_858 : (Jvm.Cond.methodLink "SealHouseLaw" (81 : Nat) ({ cls := "SealHouse", name := "empty", desc := "(III)I" } : Jvm.MethodName)) ∈ BW := bw_4 (List.mem_of_getElem? (i := 138) (by decide +kernel)) (by decide +kernel)
theorem wd_859 : (Jvm.Cond.instanceMethod ({ cls := "SealHouse", name := "empty", desc := "(III)I" } : Jvm.MethodName)) ∈ BW := bw_4 (List.mem_of_getElem? (i := 139) (by decide +kernel)) (by decide +kernel)
theorem wd_860 : (Jvm.Cond.selects "SealHouse" ({ cls := "SealHouse", name := "empty", desc := "(III)I" } : Jvm.MethodName) ({ cls := "SealHouse", name := "empty", desc := "(III)I" } : Jvm.MethodName)) ∈ BW := bw_4 (List.mem_of_getElem? (i := 140) (by decide +kernel)) (by decide +kernel)
theorem wd_861 : (Jvm.Cond.code ({ cls := "SealHouse", name := "empty", desc := "(III)I" } : Jvm.MethodName) prog_1_method_23_code (7 : Nat) (Option.some Jvm.ClassFile.FieldType.int)) ∈ BW := bw_4 (List.mem_of_getElem? (i := 141) rfl) rfl
theorem wd_862 : (Jvm.Cond.methodLink "SealHouse" (249 : Nat) ({ cls := "SealHouse$Padder", name := "emptyFrom", desc := "(LSealHouse$Row;LSealHouse$Row;)Z" } : Jvm.MethodName)) ∈ BW := bw_4 (List.mem_of_getElem? (i := 142) (by decide +kernel)) (by decide +kernel)
theorem wd_863 : (Jvm.Cond.instanceMethod ({ cls := "SealHouse$Padder", name := "emptyFrom", desc := "(LSealHouse$Row;LSealHouse$Row;)Z" } : Jvm.MethodName)) ∈ BW := bw_4 (List.mem_of_getElem? (i := 143) (by decide +kernel)) (by decide +kernel)
theorem wd_864 : (Jvm.Cond.selects "SealHouse$Padder" ({ cls := "SealHouse$Padder", name := "emptyFrom", desc := "(LSealHouse$Row;LSealHouse$Row;)Z" } : Jvm.MethodName) ({ cls := "SealHouse$Padder", name := "emptyFrom", desc := "(LSealHouse$Row;LSealHouse$Row;)Z" } : Jvm.MethodName)) ∈ BW := bw_4 (List.mem_of_getElem? (i := 144) (by decide +kernel)) (by decide +kernel)
theorem wd_865 : (Jvm.Cond.code ({ cls := "SealHouse$Padder", name := "emptyFrom", desc := "(LSealHouse$Row;LSealHouse$Row;)Z" } : Jvm.MethodName) prog_5_method_7_code (5 : Nat) (Option.some Jvm.ClassFile.FieldType.boolean)) ∈ BW := bw_4 (List.mem_of_getElem? (i := 145) rfl) rfl
theorem wd_866 : (Jvm.Cond.methodLink "SealHouse$Padder" (82 : Nat) ({ cls := "SealHouse$Row", name := "othersFrom", desc := "(I)I" } : Jvm.MethodName)) ∈ BW := bw_4 (List.mem_of_getElem? (i := 146) (by decide +kernel)) (by decide +kernel)
theorem wd_867 : (Jvm.Cond.methodLink "SealHouse$Padder" (85 : Nat) ({ cls := "SealHouse$Row", name := "has", desc := "(I)Z" } : Jvm.MethodName)) ∈ BW := bw_4 (List.mem_of_getElem? (i := 147) (by decide +kernel)) (by decide +kernel)
theorem wd_868 : (Jvm.Cond.methodLink "SealHouseLaw" (180 : Nat) ({ cls := "SealHouseLaw", name := "sign", desc := "(LSealHouse;IIII[J)I" } : Jvm.MethodName)) ∈ BW := bw_4 (List.mem_of_getElem? (i := 148) (by decide +kernel)) (by decide +kernel)
theorem wd_869 : (Jvm.Cond.static ({ cls := "SealHouseLaw", name := "sign", desc := "(LSealHouse;IIII[J)I" } : Jvm.MethodName)) ∈ BW := bw_4 (List.mem_of_getElem? (i := 149) (by decide +kernel)) (by decide +kernel)
theorem wd_870 : (Jvm.Cond.codeWith ({ cls := "SealHouseLaw", name := "sign", desc := "(LSealHouse;IIII[J)I" } : Jvm.MethodName) method_24_code (7 : Nat) (Option.some Jvm.ClassFile.FieldType.int) [((0 : Nat), (14 : Nat), (17 : Nat), (13 : Nat)), ((0 : Nat), (14 : Nat), (21 : Nat), (15 : Nat))]) ∈ BW := bw_4 (List.mem_of_getElem? (i := 150) rfl) rfl
theorem wd_871 : (Jvm.Cond.methodLink "SealHouseLaw" (84 : Nat) ({ cls := "SealHouse", name := "sign", desc := "(IIII)I" } : Jvm.MethodName)) ∈ BW := bw_4 (List.mem_of_getElem? (i := 151) (by decide +kernel)) (by decide +kernel)
theorem wd_872 : (Jvm.Cond.instanceMethod ({ cls := "SealHouse", name := "sign", desc := "(IIII)I" } : Jvm.MethodName)) ∈ BW := bw_4 (List.mem_of_getElem? (i := 152) (by decide +kernel)) (by decide +kernel)
theorem wd_873 : (Jvm.Cond.selects "SealHouse" ({ cls := "SealHouse", name := "sign", desc := "(IIII)I" } : Jvm.MethodName) ({ cls := "SealHouse", name := "sign", desc := "(IIII)I" } : Jvm.MethodName)) ∈ BW := bw_4 (List.mem_of_getElem? (i := 153) (by decide +kernel)) (by decide +kernel)
theorem wd_874 : (Jvm.Cond.code ({ cls := "SealHouse", name := "sign", desc := "(IIII)I" } : Jvm.MethodName) prog_1_method_24_code (8 : Nat) (Option.some Jvm.ClassFile.FieldType.int)) ∈ BW := bw_4 (List.mem_of_getElem? (i := 154) rfl) rfl
theorem wd_875 : (Jvm.Cond.methodLink "SealHouse" (253 : Nat) ({ cls := "SealHouse$Padder", name := "leastSigned", desc := "(I)I" } : Jvm.MethodName)) ∈ BW := bw_4 (List.mem_of_getElem? (i := 155) (by decide +kernel)) (by decide +kernel)
theorem wd_876 : (Jvm.Cond.static ({ cls := "SealHouse$Padder", name := "leastSigned", desc := "(I)I" } : Jvm.MethodName)) ∈ BW := bw_4 (List.mem_of_getElem? (i := 156) (by decide +kernel)) (by decide +kernel)
theorem wd_877 : (Jvm.Cond.code ({ cls := "SealHouse$Padder", name := "leastSigned", desc := "(I)I" } : Jvm.MethodName) prog_5_method_2_code (1 : Nat) (Option.some Jvm.ClassFile.FieldType.int)) ∈ BW := bw_4 (List.mem_of_getElem? (i := 157) rfl) rfl
theorem wd_878 : (Jvm.Cond.methodLink "SealHouse" (256 : Nat) ({ cls := "SealHouse$Padder", name := "signIn", desc := "(LSealHouse$Row;IILSealHouse$Row;)V" } : Jvm.MethodName)) ∈ BW := bw_4 (List.mem_of_getElem? (i := 158) (by decide +kernel)) (by decide +kernel)
theorem wd_879 : (Jvm.Cond.instanceMethod ({ cls := "SealHouse$Padder", name := "signIn", desc := "(LSealHouse$Row;IILSealHouse$Row;)V" } : Jvm.MethodName)) ∈ BW := bw_4 (List.mem_of_getElem? (i := 159) (by decide +kernel)) (by decide +kernel)
theorem wd_880 : (Jvm.Cond.selects "SealHouse$Padder" ({ cls := "SealHouse$Padder", name := "signIn", desc := "(LSealHouse$Row;IILSealHouse$Row;)V" } : Jvm.MethodName) ({ cls := "SealHouse$Padder", name := "signIn", desc := "(LSealHouse$Row;IILSealHouse$Row;)V" } : Jvm.MethodName)) ∈ BW := bw_4 (List.mem_of_getElem? (i := 160) (by decide +kernel)) (by decide +kernel)
theorem wd_881 : (Jvm.Cond.code ({ cls := "SealHouse$Padder", name := "signIn", desc := "(LSealHouse$Row;IILSealHouse$Row;)V" } : Jvm.MethodName) prog_5_method_8_code (6 : Nat) (Option.none : Option Jvm.ClassFile.FieldType)) ∈ BW := bw_4 (List.mem_of_getElem? (i := 161) rfl) rfl
theorem wd_882 : (Jvm.Cond.fieldLink "SealHouse$Padder" (89 : Nat) "SealHouse$Padder" "NAME_256" "[I") ∈ BW := bw_4 (List.mem_of_getElem? (i := 162) (by decide +kernel)) (by decide +kernel)
theorem wd_884 : (Jvm.Cond.fieldLink "SealHouse$Padder" (93 : Nat) "SealHouse$Padder" "NAME_224" "[I") ∈ BW := bw_4 (List.mem_of_getElem? (i := 164) (by decide +kernel)) (by decide +kernel)
theorem wd_886 : (Jvm.Cond.methodLink "SealHouseLaw" (183 : Nat) ({ cls := "SealHouseLaw", name := "prove", desc := "(LSealHouse;IIII[J)I" } : Jvm.MethodName)) ∈ BW := bw_4 (List.mem_of_getElem? (i := 166) (by decide +kernel)) (by decide +kernel)
theorem wd_887 : (Jvm.Cond.static ({ cls := "SealHouseLaw", name := "prove", desc := "(LSealHouse;IIII[J)I" } : Jvm.MethodName)) ∈ BW := bw_4 (List.mem_of_getElem? (i := 167) (by decide +kernel)) (by decide +kernel)
theorem wd_888 : (Jvm.Cond.codeWith ({ cls := "SealHouseLaw", name := "prove", desc := "(LSealHouse;IIII[J)I" } : Jvm.MethodName) method_25_code (7 : Nat) (Option.some Jvm.ClassFile.FieldType.int) [((0 : Nat), (14 : Nat), (17 : Nat), (13 : Nat)), ((0 : Nat), (14 : Nat), (21 : Nat), (15 : Nat))]) ∈ BW := bw_4 (List.mem_of_getElem? (i := 168) rfl) rfl
theorem wd_889 : (Jvm.Cond.methodLink "SealHouseLaw" (87 : Nat) ({ cls := "SealHouse", name := "prove", desc := "(IIII)I" } : Jvm.MethodName)) ∈ BW := bw_4 (List.mem_of_getElem? (i := 169) (by decide +kernel)) (by decide +kernel)
theorem wd_890 : (Jvm.Cond.instanceMethod ({ cls := "SealHouse", name := "prove", desc := "(IIII)I" } : Jvm.MethodName)) ∈ BW := bw_4 (List.mem_of_getElem? (i := 170) (by decide +kernel)) (by decide +kernel)
theorem wd_891 : (Jvm.Cond.selects "SealHouse" ({ cls := "SealHouse", name := "prove", desc := "(IIII)I" } : Jvm.MethodName) ({ cls := "SealHouse", name := "prove", desc := "(IIII)I" } : Jvm.MethodName)) ∈ BW := bw_4 (List.mem_of_getElem? (i := 171) (by decide +kernel)) (by decide +kernel)
theorem wd_892 : (Jvm.Cond.code ({ cls := "SealHouse", name := "prove", desc := "(IIII)I" } : Jvm.MethodName) prog_1_method_25_code (8 : Nat) (Option.some Jvm.ClassFile.FieldType.int)) ∈ BW := bw_4 (List.mem_of_getElem? (i := 172) rfl) rfl
theorem wd_893 : (Jvm.Cond.methodLink "SealHouse" (260 : Nat) ({ cls := "SealHouse$Row", name := "holds", desc := "(LSealHouse$Row;I)Z" } : Jvm.MethodName)) ∈ BW := bw_4 (List.mem_of_getElem? (i := 173) (by decide +kernel)) (by decide +kernel)
theorem wd_894 : (Jvm.Cond.methodLink "SealHouseLaw" (186 : Nat) ({ cls := "SealHouseLaw", name := "salt", desc := "(LSealHouse;IIIII[J)I" } : Jvm.MethodName)) ∈ BW := bw_4 (List.mem_of_getElem? (i := 174) (by decide +kernel)) (by decide +kernel)
theorem wd_895 : (Jvm.Cond.static ({ cls := "SealHouseLaw", name := "salt", desc := "(LSealHouse;IIIII[J)I" } : Jvm.MethodName)) ∈ BW := bw_4 (List.mem_of_getElem? (i := 175) (by decide +kernel)) (by decide +kernel)
theorem wd_896 : (Jvm.Cond.codeWith ({ cls := "SealHouseLaw", name := "salt", desc := "(LSealHouse;IIIII[J)I" } : Jvm.MethodName) method_26_code (8 : Nat) (Option.some Jvm.ClassFile.FieldType.int) [((0 : Nat), (16 : Nat), (19 : Nat), (13 : Nat)), ((0 : Nat), (16 : Nat), (23 : Nat), (15 : Nat))]) ∈ BW := bw_4 (List.mem_of_getElem? (i := 176) rfl) rfl
theorem wd_897 : (Jvm.Cond.methodLink "SealHouseLaw" (90 : Nat) ({ cls := "SealHouse", name := "salt", desc := "(IIIII)I" } : Jvm.MethodName)) ∈ BW := bw_4 (List.mem_of_getElem? (i := 177) (by decide +kernel)) (by decide +kernel)
theorem wd_898 : (Jvm.Cond.instanceMethod ({ cls := "SealHouse", name := "salt", desc := "(IIIII)I" } : Jvm.MethodName)) ∈ BW := bw_4 (List.mem_of_getElem? (i := 178) (by decide +kernel)) (by decide +kernel)
theorem wd_899 : (Jvm.Cond.selects "SealHouse" ({ cls := "SealHouse", name := "salt", desc := "(IIIII)I" } : Jvm.MethodName) ({ cls := "SealHouse", name := "salt", desc := "(IIIII)I" } : Jvm.MethodName)) ∈ BW := bw_4 (List.mem_of_getElem? (i := 179) (by decide +kernel)) (by decide +kernel)
theorem wd_900 : (Jvm.Cond.code ({ cls := "SealHouse", name := "salt", desc := "(IIIII)I" } : Jvm.MethodName) prog_1_method_26_code (11 : Nat) (Option.some Jvm.ClassFile.FieldType.int)) ∈ BW := bw_4 (List.mem_of_getElem? (i := 180) rfl) rfl
theorem wd_901 : (Jvm.Cond.methodLink "SealHouse" (264 : Nat) ({ cls := "SealHouse$Padder", name := "bytesOf", desc := "(I)I" } : Jvm.MethodName)) ∈ BW := bw_4 (List.mem_of_getElem? (i := 181) (by decide +kernel)) (by decide +kernel)
theorem wd_902 : (Jvm.Cond.static ({ cls := "SealHouse$Padder", name := "bytesOf", desc := "(I)I" } : Jvm.MethodName)) ∈ BW := bw_4 (List.mem_of_getElem? (i := 182) (by decide +kernel)) (by decide +kernel)
theorem wd_903 : (Jvm.Cond.code ({ cls := "SealHouse$Padder", name := "bytesOf", desc := "(I)I" } : Jvm.MethodName) prog_5_method_3_code (1 : Nat) (Option.some Jvm.ClassFile.FieldType.int)) ∈ BW := bw_4 (List.mem_of_getElem? (i := 183) rfl) rfl
theorem wd_904 : (Jvm.Cond.methodLink "SealHouse" (267 : Nat) ({ cls := "SealHouse$Padder", name := "saltIn", desc := "(LSealHouse$Row;IILSealHouse$Row;LSealHouse$Row;)V" } : Jvm.MethodName)) ∈ BW := bw_4 (List.mem_of_getElem? (i := 184) (by decide +kernel)) (by decide +kernel)
theorem wd_905 : (Jvm.Cond.instanceMethod ({ cls := "SealHouse$Padder", name := "saltIn", desc := "(LSealHouse$Row;IILSealHouse$Row;LSealHouse$Row;)V" } : Jvm.MethodName)) ∈ BW := bw_4 (List.mem_of_getElem? (i := 185) (by decide +kernel)) (by decide +kernel)
theorem wd_906 : (Jvm.Cond.selects "SealHouse$Padder" ({ cls := "SealHouse$Padder", name := "saltIn", desc := "(LSealHouse$Row;IILSealHouse$Row;LSealHouse$Row;)V" } : Jvm.MethodName) ({ cls := "SealHouse$Padder", name := "saltIn", desc := "(LSealHouse$Row;IILSealHouse$Row;LSealHouse$Row;)V" } : Jvm.MethodName)) ∈ BW := bw_4 (List.mem_of_getElem? (i := 186) (by decide +kernel)) (by decide +kernel)
theorem wd_907 : (Jvm.Cond.code ({ cls := "SealHouse$Padder", name := "saltIn", desc := "(LSealHouse$Row;IILSealHouse$Row;LSealHouse$Row;)V" } : Jvm.MethodName) prog_5_method_9_code (7 : Nat) (Option.none : Option Jvm.ClassFile.FieldType)) ∈ BW := bw_4 (List.mem_of_getElem? (i := 187) rfl) rfl
theorem wd_908 : (Jvm.Cond.methodLink "SealHouse$Padder" (96 : Nat) ({ cls := "SealHouse$Padder", name := "bytesOf", desc := "(I)I" } : Jvm.MethodName)) ∈ BW := bw_4 (List.mem_of_getElem? (i := 188) (by decide +kernel)) (by decide +kernel)
theorem wd_909 : (Jvm.Cond.methodLink "SealHouse$Padder" (99 : Nat) ({ cls := "SealHouse$Padder", name := "setProof", desc := "(ILSealHouse$Row;LSealHouse$Row;)V" } : Jvm.MethodName)) ∈ BW := bw_4 (List.mem_of_getElem? (i := 189) (by decide +kernel)) (by decide +kernel)
theorem wd_911 : (Jvm.Cond.instanceMethod ({ cls := "SealHouse$Padder", name := "setProof", desc := "(ILSealHouse$Row;LSealHouse$Row;)V" } : Jvm.MethodName)) ∈ BW := bw_4 (List.mem_of_getElem? (i := 191) (by decide +kernel)) (by decide +kernel)
theorem wd_912 : (Jvm.Cond.code ({ cls := "SealHouse$Padder", name := "setProof", desc := "(ILSealHouse$Row;LSealHouse$Row;)V" } : Jvm.MethodName) prog_5_method_12_code (4 : Nat) (Option.none : Option Jvm.ClassFile.FieldType)) ∈ BW := bw_4 (List.mem_of_getElem? (i := 192) rfl) rfl
theorem wd_913 : (Jvm.Cond.methodLink "SealHouse$Padder" (102 : Nat) ({ cls := "SealHouse$Padder", name := "highestKept", desc := "(I)I" } : Jvm.MethodName)) ∈ BW := bw_4 (List.mem_of_getElem? (i := 193) (by decide +kernel)) (by decide +kernel)
theorem wd_914 : (Jvm.Cond.static ({ cls := "SealHouse$Padder", name := "highestKept", desc := "(I)I" } : Jvm.MethodName)) ∈ BW := bw_4 (List.mem_of_getElem? (i := 194) (by decide +kernel)) (by decide +kernel)
theorem wd_915 : (Jvm.Cond.code ({ cls := "SealHouse$Padder", name := "highestKept", desc := "(I)I" } : Jvm.MethodName) prog_5_method_11_code (1 : Nat) (Option.some Jvm.ClassFile.FieldType.int)) ∈ BW := bw_4 (List.mem_of_getElem? (i := 195) rfl) rfl
theorem wd_916 : (Jvm.Cond.methodLink "SealHouse$Padder" (105 : Nat) ({ cls := "SealHouse$Row", name := "put", desc := "(II)V" } : Jvm.MethodName)) ∈ BW := bw_4 (List.mem_of_getElem? (i := 196) (by decide +kernel)) (by decide +kernel)
theorem wd_917 : (Jvm.Cond.methodLink "SealHouseLaw" (189 : Nat) ({ cls := "SealHouseLaw", name := "taste", desc := "(LSealHouse;IIIII[J)I" } : Jvm.MethodName)) ∈ BW := bw_4 (List.mem_of_getElem? (i := 197) (by decide +kernel)) (by decide +kernel)
theorem wd_918 : (Jvm.Cond.static ({ cls := "SealHouseLaw", name := "taste", desc := "(LSealHouse;IIIII[J)I" } : Jvm.MethodName)) ∈ BW := bw_4 (List.mem_of_getElem? (i := 198) (by decide +kernel)) (by decide +kernel)
theorem wd_919 : (Jvm.Cond.codeWith ({ cls := "SealHouseLaw", name := "taste", desc := "(LSealHouse;IIIII[J)I" } : Jvm.MethodName) method_27_code (8 : Nat) (Option.some Jvm.ClassFile.FieldType.int) [((0 : Nat), (16 : Nat), (19 : Nat), (13 : Nat)), ((0 : Nat), (16 : Nat), (23 : Nat), (15 : Nat))]) ∈ BW := bw_4 (List.mem_of_getElem? (i := 199) rfl) rfl
theorem wd_920 : (Jvm.Cond.methodLink "SealHouseLaw" (93 : Nat) ({ cls := "SealHouse", name := "taste", desc := "(IIIII)I" } : Jvm.MethodName)) ∈ BW := bw_4 (List.mem_of_getElem? (i := 200) (by decide +kernel)) (by decide +kernel)
theorem wd_921 : (Jvm.Cond.instanceMethod ({ cls := "SealHouse", name := "taste", desc := "(IIIII)I" } : Jvm.MethodName)) ∈ BW := bw_4 (List.mem_of_getElem? (i := 201) (by decide +kernel)) (by decide +kernel)
theorem wd_922 : (Jvm.Cond.selects "SealHouse" ({ cls := "SealHouse", name := "taste", desc := "(IIIII)I" } : Jvm.MethodName) ({ cls := "SealHouse", name := "taste", desc := "(IIIII)I" } : Jvm.MethodName)) ∈ BW := bw_4 (List.mem_of_getElem? (i := 202) (by decide +kernel)) (by decide +kernel)
theorem wd_923 : (Jvm.Cond.code ({ cls := "SealHouse", name := "taste", desc := "(IIIII)I" } : Jvm.MethodName) prog_1_method_27_code (10 : Nat) (Option.some Jvm.ClassFile.FieldType.int)) ∈ BW := bw_4 (List.mem_of_getElem? (i := 203) rfl) rfl
theorem wd_925 : (Jvm.Cond.methodLink "SealHouse" (273 : Nat) ({ cls := "SealHouse$Padder", name := "tasteFrom", desc := "(LSealHouse$Row;IILSealHouse$Row;I)Z" } : Jvm.MethodName)) ∈ BW := bw_4 (List.mem_of_getElem? (i := 205) (by decide +kernel)) (by decide +kernel)
theorem wd_926 : (Jvm.Cond.instanceMethod ({ cls := "SealHouse$Padder", name := "tasteFrom", desc := "(LSealHouse$Row;IILSealHouse$Row;I)Z" } : Jvm.MethodName)) ∈ BW := bw_4 (List.mem_of_getElem? (i := 206) (by decide +kernel)) (by decide +kernel)
theorem wd_927 : (Jvm.Cond.selects "SealHouse$Padder" ({ cls := "SealHouse$Padder", name := "tasteFrom", desc := "(LSealHouse$Row;IILSealHouse$Row;I)Z" } : Jvm.MethodName) ({ cls := "SealHouse$Padder", name := "tasteFrom", desc := "(LSealHouse$Row;IILSealHouse$Row;I)Z" } : Jvm.MethodName)) ∈ BW := bw_4 (List.mem_of_getElem? (i := 207) (by decide +kernel)) (by decide +kernel)
theorem wd_928 : (Jvm.Cond.code ({ cls := "SealHouse$Padder", name := "tasteFrom", desc := "(LSealHouse$Row;IILSealHouse$Row;I)Z" } : Jvm.MethodName) prog_5_method_10_code (10 : Nat) (Option.some Jvm.ClassFile.FieldType.boolean)) ∈ BW := bw_4 (List.mem_of_getElem? (i := 208) rfl) rfl
theorem wd_929 : (Jvm.Cond.classLink "SealHouseLaw" (97 : Nat) "SealHouseModel") ∈ BW := bw_4 (List.mem_of_getElem? (i := 209) (by decide +kernel)) (by decide +kernel)
theorem wd_930 : (Jvm.Cond.instantiable "SealHouseModel" (53 : Nat)) ∈ BW := bw_4 (List.mem_of_getElem? (i := 210) (by decide +kernel)) (by decide +kernel)
theorem wd_931 : (Jvm.Cond.methodLink "SealHouseLaw" (99 : Nat) ({ cls := "SealHouseModel", name := "<init>", desc := "()V" } : Jvm.MethodName)) ∈ BW := bw_4 (List.mem_of_getElem? (i := 211) (by decide +kernel)) (by decide +kernel)
theorem wd_932 : (Jvm.Cond.instanceMethod ({ cls := "SealHouseModel", name := "<init>", desc := "()V" } : Jvm.MethodName)) ∈ BW := bw_4 (List.mem_of_getElem? (i := 212) (by decide +kernel)) (by decide +kernel)
theorem wd_933 : (Jvm.Cond.code ({ cls := "SealHouseModel", name := "<init>", desc := "()V" } : Jvm.MethodName) prog_9_method_1_code (1 : Nat) (Option.none : Option Jvm.ClassFile.FieldType)) ∈ BW := bw_4 (List.mem_of_getElem? (i := 213) rfl) rfl
theorem wd_934 : (Jvm.Cond.methodLink "SealHouseModel" (1 : Nat) ({ cls := "java/lang/Object", name := "<init>", desc := "()V" } : Jvm.MethodName)) ∈ BW := bw_4 (List.mem_of_getElem? (i := 214) (by decide +kernel)) (by decide +kernel)
theorem wd_935 : (Jvm.Cond.classLink "SealHouseModel" (7 : Nat) "SealHouseModel$Num") ∈ BW := bw_4 (List.mem_of_getElem? (i := 215) (by decide +kernel)) (by decide +kernel)
theorem wd_936 : (Jvm.Cond.instantiable "SealHouseModel$Num" (2 : Nat)) ∈ BW := bw_4 (List.mem_of_getElem? (i := 216) (by decide +kernel)) (by decide +kernel)
theorem wd_938 : (Jvm.Cond.instanceMethod ({ cls := "SealHouseModel$Num", name := "<init>", desc := "()V" } : Jvm.MethodName)) ∈ BW := bw_4 (List.mem_of_getElem? (i := 218) (by decide +kernel)) (by decide +kernel)
theorem wd_939 : (Jvm.Cond.code ({ cls := "SealHouseModel$Num", name := "<init>", desc := "()V" } : Jvm.MethodName) prog_10_method_1_code (1 : Nat) (Option.none : Option Jvm.ClassFile.FieldType)) ∈ BW := bw_4 (List.mem_of_getElem? (i := 219) rfl) rfl
theorem wd_940 : (Jvm.Cond.methodLink "SealHouseModel$Num" (1 : Nat) ({ cls := "java/lang/Object", name := "<init>", desc := "()V" } : Jvm.MethodName)) ∈ BW := bw_4 (List.mem_of_getElem? (i := 220) (by decide +kernel)) (by decide +kernel)
theorem wd_941 : (Jvm.Cond.fieldLink "SealHouseModel$Num" (7 : Nat) "SealHouseModel$Num" "d" "[I") ∈ BW := bw_4 (List.mem_of_getElem? (i := 221) (by decide +kernel)) (by decide +kernel)
theorem wd_943 : (Jvm.Cond.fieldLink "SealHouseModel$Num" (13 : Nat) "SealHouseModel$Num" "n" "I") ∈ BW := bw_4 (List.mem_of_getElem? (i := 223) (by decide +kernel)) (by decide +kernel)
theorem wd_945 : (Jvm.Cond.laysFinal "SealHouseModel$Num" "SealHouseModel$Num" "d" "[I") ∈ BW := bw_4 (List.mem_of_getElem? (i := 225) (by decide +kernel)) (by decide +kernel)
theorem wd_947 : (Jvm.Cond.lays "SealHouseModel$Num" "SealHouseModel$Num" "n" "I") ∈ BW := bw_4 (List.mem_of_getElem? (i := 227) (by decide +kernel)) (by decide +kernel)
theorem wd_949 : (Jvm.Cond.superclass "SealHouseModel$Num" "java/lang/Object") ∈ BW := bw_4 (List.mem_of_getElem? (i := 229) (by decide +kernel)) (by decide +kernel)
theorem wd_950 : (Jvm.Cond.fieldLink "SealHouseModel" (156 : Nat) "SealHouseModel" "thrown" "I") ∈ BW := bw_4 (List.mem_of_getElem? (i := 230) (by decide +kernel)) (by decide +kernel)
theorem wd_951 : (Jvm.Cond.fieldLink "SealHouseModel" (10 : Nat) "SealHouseModel" "t0" "LSealHouseModel$Num;") ∈ BW := bw_4 (List.mem_of_getElem? (i := 231) (by decide +kernel)) (by decide +kernel)
theorem wd_952 : (Jvm.Cond.fieldLink "SealHouseModel" (16 : Nat) "SealHouseModel" "t1" "LSealHouseModel$Num;") ∈ BW := bw_4 (List.mem_of_getElem? (i := 232) (by decide +kernel)) (by decide +kernel)
theorem wd_953 : (Jvm.Cond.fieldLink "SealHouseModel" (19 : Nat) "SealHouseModel" "quotient" "LSealHouseModel$Num;") ∈ BW := bw_4 (List.mem_of_getElem? (i := 233) (by decide +kernel)) (by decide +kernel)
theorem wd_954 : (Jvm.Cond.fieldLink "SealHouseModel" (22 : Nat) "SealHouseModel" "wide" "LSealHouseModel$Num;") ∈ BW := bw_4 (List.mem_of_getElem? (i := 234) (by decide +kernel)) (by decide +kernel)
theorem wd_955 : (Jvm.Cond.fieldLink "SealHouseModel" (25 : Nat) "SealHouseModel" "base" "LSealHouseModel$Num;") ∈ BW := bw_4 (List.mem_of_getElem? (i := 235) (by decide +kernel)) (by decide +kernel)
theorem wd_956 : (Jvm.Cond.fieldLink "SealHouseModel" (28 : Nat) "SealHouseModel" "power" "LSealHouseModel$Num;") ∈ BW := bw_4 (List.mem_of_getElem? (i := 236) (by decide +kernel)) (by decide +kernel)
theorem wd_957 : (Jvm.Cond.fieldLink "SealHouseModel" (31 : Nat) "SealHouseModel" "ga" "LSealHouseModel$Num;") ∈ BW := bw_4 (List.mem_of_getElem? (i := 237) (by decide +kernel)) (by decide +kernel)
theorem wd_958 : (Jvm.Cond.fieldLink "SealHouseModel" (34 : Nat) "SealHouseModel" "gb" "LSealHouseModel$Num;") ∈ BW := bw_4 (List.mem_of_getElem? (i := 238) (by decide +kernel)) (by decide +kernel)
theorem wd_959 : (Jvm.Cond.fieldLink "SealHouseModel" (37 : Nat) "SealHouseModel" "ra" "LSealHouseModel$Num;") ∈ BW := bw_4 (List.mem_of_getElem? (i := 239) (by decide +kernel)) (by decide +kernel)
theorem wd_960 : (Jvm.Cond.fieldLink "SealHouseModel" (40 : Nat) "SealHouseModel" "rb" "LSealHouseModel$Num;") ∈ BW := bw_5 (List.mem_of_getElem? (i := 0) (by decide +kernel)) (by decide +kernel)
theorem wd_961 : (Jvm.Cond.fieldLink "SealHouseModel" (43 : Nat) "SealHouseModel" "ta" "LSealHouseModel$Num;") ∈ BW := bw_5 (List.mem_of_getElem? (i := 1) (by decide +kernel)) (by decide +kernel)
theorem wd_962 : (Jvm.Cond.fieldLink "SealHouseModel" (46 : Nat) "SealHouseModel" "tb" "LSealHouseModel$Num;") ∈ BW := bw_5 (List.mem_of_getElem? (i := 2) (by decide +kernel)) (by decide +kernel)
theorem wd_963 : (Jvm.Cond.fieldLink "SealHouseModel" (49 : Nat) "SealHouseModel" "step" "LSealHouseModel$Num;") ∈ BW := bw_5 (List.mem_of_getElem? (i := 3) (by decide +kernel)) (by decide +kernel)
theorem wd_964 : (Jvm.Cond.fieldLink "SealHouseModel" (52 : Nat) "SealHouseModel" "one" "LSealHouseModel$Num;") ∈ BW := bw_5 (List.mem_of_getElem? (i := 4) (by decide +kernel)) (by decide +kernel)
theorem wd_965 : (Jvm.Cond.fieldLink "SealHouseModel" (55 : Nat) "SealHouseModel" "minus" "LSealHouseModel$Num;") ∈ BW := bw_5 (List.mem_of_getElem? (i := 5) (by decide +kernel)) (by decide +kernel)
theorem wd_966 : (Jvm.Cond.fieldLink "SealHouseModel" (58 : Nat) "SealHouseModel" "odd" "LSealHouseModel$Num;") ∈ BW := bw_5 (List.mem_of_getElem? (i := 6) (by decide +kernel)) (by decide +kernel)
theorem wd_967 : (Jvm.Cond.fieldLink "SealHouseModel" (61 : Nat) "SealHouseModel" "witness" "LSealHouseModel$Num;") ∈ BW := bw_5 (List.mem_of_getElem? (i := 7) (by decide +kernel)) (by decide +kernel)
theorem wd_968 : (Jvm.Cond.fieldLink "SealHouseModel" (64 : Nat) "SealHouseModel" "rest" "LSealHouseModel$Num;") ∈ BW := bw_5 (List.mem_of_getElem? (i := 8) (by decide +kernel)) (by decide +kernel)
theorem wd_969 : (Jvm.Cond.fieldLink "SealHouseModel" (67 : Nat) "SealHouseModel" "slot" "[I") ∈ BW := bw_5 (List.mem_of_getElem? (i := 9) (by decide +kernel)) (by decide +kernel)
theorem wd_970 : (Jvm.Cond.fieldLink "SealHouseModel" (71 : Nat) "SealHouseModel" "sizes" "[I") ∈ BW := bw_5 (List.mem_of_getElem? (i := 10) (by decide +kernel)) (by decide +kernel)
theorem wd_971 : (Jvm.Cond.fieldLink "SealHouseModel" (74 : Nat) "SealHouseModel" "tape" "[I") ∈ BW := bw_5 (List.mem_of_getElem? (i := 11) (by decide +kernel)) (by decide +kernel)
theorem wd_972 : (Jvm.Cond.fieldLink "SealHouseModel" (234 : Nat) "SealHouseModel" "taped" "I") ∈ BW := bw_5 (List.mem_of_getElem? (i := 12) (by decide +kernel)) (by decide +kernel)
theorem wd_973 : (Jvm.Cond.fieldLink "SealHouseModel" (77 : Nat) "SealHouseModel" "row" "[I") ∈ BW := bw_5 (List.mem_of_getElem? (i := 13) (by decide +kernel)) (by decide +kernel)
theorem wd_974 : (Jvm.Cond.fieldLink "SealHouseModel" (248 : Nat) "SealHouseModel" "rowMany" "I") ∈ BW := bw_5 (List.mem_of_getElem? (i := 14) (by decide +kernel)) (by decide +kernel)
theorem wd_975 : (Jvm.Cond.fieldLink "SealHouseModel" (80 : Nat) "SealHouseModel" "na" "LSealHouseModel$Num;") ∈ BW := bw_5 (List.mem_of_getElem? (i := 15) (by decide +kernel)) (by decide +kernel)
theorem wd_976 : (Jvm.Cond.fieldLink "SealHouseModel" (83 : Nat) "SealHouseModel" "nb" "LSealHouseModel$Num;") ∈ BW := bw_5 (List.mem_of_getElem? (i := 16) (by decide +kernel)) (by decide +kernel)
theorem wd_977 : (Jvm.Cond.fieldLink "SealHouseModel" (86 : Nat) "SealHouseModel" "nc" "LSealHouseModel$Num;") ∈ BW := bw_5 (List.mem_of_getElem? (i := 17) (by decide +kernel)) (by decide +kernel)
theorem wd_978 : (Jvm.Cond.fieldLink "SealHouseModel" (89 : Nat) "SealHouseModel" "nr" "LSealHouseModel$Num;") ∈ BW := bw_5 (List.mem_of_getElem? (i := 18) (by decide +kernel)) (by decide +kernel)
theorem wd_979 : (Jvm.Cond.fieldLink "SealHouseModel" (92 : Nat) "SealHouseModel" "lcm" "LSealHouseModel$Num;") ∈ BW := bw_5 (List.mem_of_getElem? (i := 19) (by decide +kernel)) (by decide +kernel)
theorem wd_980 : (Jvm.Cond.fieldLink "SealHouseModel" (95 : Nat) "SealHouseModel" "dm" "[I") ∈ BW := bw_5 (List.mem_of_getElem? (i := 20) (by decide +kernel)) (by decide +kernel)
theorem wd_981 : (Jvm.Cond.fieldLink "SealHouseModel" (98 : Nat) "SealHouseModel" "dh" "[I") ∈ BW := bw_5 (List.mem_of_getElem? (i := 21) (by decide +kernel)) (by decide +kernel)
theorem wd_982 : (Jvm.Cond.fieldLink "SealHouseModel" (101 : Nat) "SealHouseModel" "dw" "[I") ∈ BW := bw_5 (List.mem_of_getElem? (i := 22) (by decide +kernel)) (by decide +kernel)
theorem wd_983 : (Jvm.Cond.fieldLink "SealHouseModel" (104 : Nat) "SealHouseModel" "dk" "[I") ∈ BW := bw_5 (List.mem_of_getElem? (i := 23) (by decide +kernel)) (by decide +kernel)
theorem wd_984 : (Jvm.Cond.fieldLink "SealHouseModel" (107 : Nat) "SealHouseModel" "db" "[I") ∈ BW := bw_5 (List.mem_of_getElem? (i := 24) (by decide +kernel)) (by decide +kernel)
theorem wd_985 : (Jvm.Cond.fieldLink "SealHouseModel" (110 : Nat) "SealHouseModel" "ds" "[I") ∈ BW := bw_5 (List.mem_of_getElem? (i := 25) (by decide +kernel)) (by decide +kernel)
theorem wd_986 : (Jvm.Cond.fieldLink "SealHouseModel" (299 : Nat) "SealHouseModel" "dMany" "I") ∈ BW := bw_5 (List.mem_of_getElem? (i := 26) (by decide +kernel)) (by decide +kernel)
theorem wd_987 : (Jvm.Cond.fieldLink "SealHouseModel" (307 : Nat) "SealHouseModel" "hasConstants" "Z") ∈ BW := bw_5 (List.mem_of_getElem? (i := 27) (by decide +kernel)) (by decide +kernel)
theorem wd_988 : (Jvm.Cond.fieldLink "SealHouseModel" (113 : Nat) "SealHouseModel" "mask" "[I") ∈ BW := bw_5 (List.mem_of_getElem? (i := 28) (by decide +kernel)) (by decide +kernel)
theorem wd_989 : (Jvm.Cond.fieldLink "SealHouseModel" (116 : Nat) "SealHouseModel" "kb" "[I") ∈ BW := bw_5 (List.mem_of_getElem? (i := 29) (by decide +kernel)) (by decide +kernel)
theorem wd_990 : (Jvm.Cond.fieldLink "SealHouseModel" (119 : Nat) "SealHouseModel" "kMany" "[I") ∈ BW := bw_5 (List.mem_of_getElem? (i := 30) (by decide +kernel)) (by decide +kernel)
theorem wd_991 : (Jvm.Cond.fieldLink "SealHouseModel" (122 : Nat) "SealHouseModel" "isWhole" "[Z") ∈ BW := bw_5 (List.mem_of_getElem? (i := 31) (by decide +kernel)) (by decide +kernel)
theorem wd_992 : (Jvm.Cond.fieldLink "SealHouseModel" (358 : Nat) "SealHouseModel" "keys" "I") ∈ BW := bw_5 (List.mem_of_getElem? (i := 32) (by decide +kernel)) (by decide +kernel)
theorem wd_993 : (Jvm.Cond.fieldLink "SealHouseModel" (126 : Nat) "SealHouseModel" "kn" "LSealHouseModel$Num;") ∈ BW := bw_5 (List.mem_of_getElem? (i := 33) (by decide +kernel)) (by decide +kernel)
theorem wd_994 : (Jvm.Cond.fieldLink "SealHouseModel" (129 : Nat) "SealHouseModel" "ke" "LSealHouseModel$Num;") ∈ BW := bw_5 (List.mem_of_getElem? (i := 34) (by decide +kernel)) (by decide +kernel)
theorem wd_995 : (Jvm.Cond.fieldLink "SealHouseModel" (132 : Nat) "SealHouseModel" "kd" "LSealHouseModel$Num;") ∈ BW := bw_5 (List.mem_of_getElem? (i := 35) (by decide +kernel)) (by decide +kernel)
theorem wd_996 : (Jvm.Cond.fieldLink "SealHouseModel" (135 : Nat) "SealHouseModel" "kp" "LSealHouseModel$Num;") ∈ BW := bw_5 (List.mem_of_getElem? (i := 36) (by decide +kernel)) (by decide +kernel)
theorem wd_997 : (Jvm.Cond.fieldLink "SealHouseModel" (138 : Nat) "SealHouseModel" "kq" "LSealHouseModel$Num;") ∈ BW := bw_5 (List.mem_of_getElem? (i := 37) (by decide +kernel)) (by decide +kernel)
theorem wd_998 : (Jvm.Cond.fieldLink "SealHouseModel" (141 : Nat) "SealHouseModel" "ka" "LSealHouseModel$Num;") ∈ BW := bw_5 (List.mem_of_getElem? (i := 38) (by decide +kernel)) (by decide +kernel)
theorem wd_999 : (Jvm.Cond.fieldLink "SealHouseModel" (144 : Nat) "SealHouseModel" "kc" "LSealHouseModel$Num;") ∈ BW := bw_5 (List.mem_of_getElem? (i := 39) (by decide +kernel)) (by decide +kernel)
theorem wd_1000 : (Jvm.Cond.fieldLink "SealHouseModel" (147 : Nat) "SealHouseModel" "pad" "[I") ∈ BW := bw_5 (List.mem_of_getElem? (i := 40) (by decide +kernel)) (by decide +kernel)
theorem wd_1001 : (Jvm.Cond.fieldLink "SealHouseModel" (150 : Nat) "SealHouseModel" "digest" "[I") ∈ BW := bw_5 (List.mem_of_getElem? (i := 41) (by decide +kernel)) (by decide +kernel)
theorem wd_1002 : (Jvm.Cond.fieldLink "SealHouseModel" (153 : Nat) "SealHouseModel" "form" "[I") ∈ BW := bw_5 (List.mem_of_getElem? (i := 42) (by decide +kernel)) (by decide +kernel)
theorem wd_1003 : (Jvm.Cond.lays "SealHouseModel" "SealHouseModel" "thrown" "I") ∈ BW := bw_5 (List.mem_of_getElem? (i := 43) (by decide +kernel)) (by decide +kernel)
theorem wd_1005 : (Jvm.Cond.laysFinal "SealHouseModel" "SealHouseModel" "t0" "LSealHouseModel$Num;") ∈ BW := bw_5 (List.mem_of_getElem? (i := 45) (by decide +kernel)) (by decide +kernel)
theorem wd_1007 : (Jvm.Cond.laysFinal "SealHouseModel" "SealHouseModel" "t1" "LSealHouseModel$Num;") ∈ BW := bw_5 (List.mem_of_getElem? (i := 47) (by decide +kernel)) (by decide +kernel)
theorem wd_1009 : (Jvm.Cond.laysFinal "SealHouseModel" "SealHouseModel" "quotient" "LSealHouseModel$Num;") ∈ BW := bw_5 (List.mem_of_getElem? (i := 49) (by decide +kernel)) (by decide +kernel)
theorem wd_1011 : (Jvm.Cond.laysFinal "SealHouseModel" "SealHouseModel" "wide" "LSealHouseModel$Num;") ∈ BW := bw_5 (List.mem_of_getElem? (i := 51) (by decide +kernel)) (by decide +kernel)
theorem wd_1013 : (Jvm.Cond.laysFinal "SealHouseModel" "SealHouseModel" "base" "LSealHouseModel$Num;") ∈ BW := bw_5 (List.mem_of_getElem? (i := 53) (by decide +kernel)) (by decide +kernel)
theorem wd_1015 : (Jvm.Cond.laysFinal "SealHouseModel" "SealHouseModel" "power" "LSealHouseModel$Num;") ∈ BW := bw_5 (List.mem_of_getElem? (i := 55) (by decide +kernel)) (by decide +kernel)
theorem wd_1017 : (Jvm.Cond.laysFinal "SealHouseModel" "SealHouseModel" "ga" "LSealHouseModel$Num;") ∈ BW := bw_5 (List.mem_of_getElem? (i := 57) (by decide +kernel)) (by decide +kernel)
theorem wd_1019 : (Jvm.Cond.laysFinal "SealHouseModel" "SealHouseModel" "gb" "LSealHouseModel$Num;") ∈ BW := bw_5 (List.mem_of_getElem? (i := 59) (by decide +kernel)) (by decide +kernel)
theorem wd_1021 : (Jvm.Cond.laysFinal "SealHouseModel" "SealHouseModel" "ra" "LSealHouseModel$Num;") ∈ BW := bw_5 (List.mem_of_getElem? (i := 61) (by decide +kernel)) (by decide +kernel)
theorem wd_1023 : (Jvm.Cond.laysFinal "SealHouseModel" "SealHouseModel" "rb" "LSealHouseModel$Num;") ∈ BW := bw_5 (List.mem_of_getElem? (i := 63) (by decide +kernel)) (by decide +kernel)
theorem wd_1025 : (Jvm.Cond.laysFinal "SealHouseModel" "SealHouseModel" "ta" "LSealHouseModel$Num;") ∈ BW := bw_5 (List.mem_of_getElem? (i := 65) (by decide +kernel)) (by decide +kernel)
theorem wd_1027 : (Jvm.Cond.laysFinal "SealHouseModel" "SealHouseModel" "tb" "LSealHouseModel$Num;") ∈ BW := bw_5 (List.mem_of_getElem? (i := 67) (by decide +kernel)) (by decide +kernel)
theorem wd_1029 : (Jvm.Cond.laysFinal "SealHouseModel" "SealHouseModel" "step" "LSealHouseModel$Num;") ∈ BW := bw_5 (List.mem_of_getElem? (i := 69) (by decide +kernel)) (by decide +kernel)
theorem wd_1031 : (Jvm.Cond.laysFinal "SealHouseModel" "SealHouseModel" "one" "LSealHouseModel$Num;") ∈ BW := bw_5 (List.mem_of_getElem? (i := 71) (by decide +kernel)) (by decide +kernel)
theorem wd_1033 : (Jvm.Cond.laysFinal "SealHouseModel" "SealHouseModel" "minus" "LSealHouseModel$Num;") ∈ BW := bw_5 (List.mem_of_getElem? (i := 73) (by decide +kernel)) (by decide +kernel)
theorem wd_1035 : (Jvm.Cond.laysFinal "SealHouseModel" "SealHouseModel" "odd" "LSealHouseModel$Num;") ∈ BW := bw_5 (List.mem_of_getElem? (i := 75) (by decide +kernel)) (by decide +kernel)
theorem wd_1037 : (Jvm.Cond.laysFinal "SealHouseModel" "SealHouseModel" "witness" "LSealHouseModel$Num;") ∈ BW := bw_5 (List.mem_of_getElem? (i := 77) (by decide +kernel)) (by decide +kernel)
theorem wd_1039 : (Jvm.Cond.laysFinal "SealHouseModel" "SealHouseModel" "rest" "LSealHouseModel$Num;") ∈ BW := bw_5 (List.mem_of_getElem? (i := 79) (by decide +kernel)) (by decide +kernel)
theorem wd_1041 : (Jvm.Cond.laysFinal "SealHouseModel" "SealHouseModel" "slot" "[I") ∈ BW := bw_5 (List.mem_of_getElem? (i := 81) (by decide +kernel)) (by decide +kernel)
theorem wd_1043 : (Jvm.Cond.laysFinal "SealHouseModel" "SealHouseModel" "sizes" "[I") ∈ BW := bw_5 (List.mem_of_getElem? (i := 83) (by decide +kernel)) (by decide +kernel)
theorem wd_1045 : (Jvm.Cond.laysFinal "SealHouseModel" "SealHouseModel" "tape" "[I") ∈ BW := bw_5 (List.mem_of_getElem? (i := 85) (by decide +kernel)) (by decide +kernel)
theorem wd_1047 : (Jvm.Cond.lays "SealHouseModel" "SealHouseModel" "taped" "I") ∈ BW := bw_5 (List.mem_of_getElem? (i := 87) (by decide +kernel)) (by decide +kernel)
theorem wd_1049 : (Jvm.Cond.laysFinal "SealHouseModel" "SealHouseModel" "row" "[I") ∈ BW := bw_5 (List.mem_of_getElem? (i := 89) (by decide +kernel)) (by decide +kernel)
theorem wd_1051 : (Jvm.Cond.lays "SealHouseModel" "SealHouseModel" "rowMany" "I") ∈ BW := bw_5 (List.mem_of_getElem? (i := 91) (by decide +kernel)) (by decide +kernel)
theorem wd_1053 : (Jvm.Cond.laysFinal "SealHouseModel" "SealHouseModel" "na" "LSealHouseModel$Num;") ∈ BW := bw_5 (List.mem_of_getElem? (i := 93) (by decide +kernel)) (by decide +kernel)
theorem wd_1055 : (Jvm.Cond.laysFinal "SealHouseModel" "SealHouseModel" "nb" "LSealHouseModel$Num;") ∈ BW := bw_5 (List.mem_of_getElem? (i := 95) (by decide +kernel)) (by decide +kernel)
theorem wd_1057 : (Jvm.Cond.laysFinal "SealHouseModel" "SealHouseModel" "nc" "LSealHouseModel$Num;") ∈ BW := bw_5 (List.mem_of_getElem? (i := 97) (by decide +kernel)) (by decide +kernel)
theorem wd_1059 : (Jvm.Cond.laysFinal "SealHouseModel" "SealHouseModel" "nr" "LSealHouseModel$Num;") ∈ BW := bw_5 (List.mem_of_getElem? (i := 99) (by decide +kernel)) (by decide +kernel)
theorem wd_1061 : (Jvm.Cond.laysFinal "SealHouseModel" "SealHouseModel" "lcm" "LSealHouseModel$Num;") ∈ BW := bw_5 (List.mem_of_getElem? (i := 101) (by decide +kernel)) (by decide +kernel)
theorem wd_1063 : (Jvm.Cond.laysFinal "SealHouseModel" "SealHouseModel" "dm" "[I") ∈ BW := bw_5 (List.mem_of_getElem? (i := 103) (by decide +kernel)) (by decide +kernel)
theorem wd_1065 : (Jvm.Cond.laysFinal "SealHouseModel" "SealHouseModel" "dh" "[I") ∈ BW := bw_5 (List.mem_of_getElem? (i := 105) (by decide +kernel)) (by decide +kernel)
theorem wd_1067 : (Jvm.Cond.laysFinal "SealHouseModel" "SealHouseModel" "dw" "[I") ∈ BW := bw_5 (List.mem_of_getElem? (i := 107) (by decide +kernel)) (by decide +kernel)
theorem wd_1069 : (Jvm.Cond.laysFinal "SealHouseModel" "SealHouseModel" "dk" "[I") ∈ BW := bw_5 (List.mem_of_getElem? (i := 109) (by decide +kernel)) (by decide +kernel)
theorem wd_1071 : (Jvm.Cond.laysFinal "SealHouseModel" "SealHouseModel" "db" "[I") ∈ BW := bw_5 (List.mem_of_getElem? (i := 111) (by decide +kernel)) (by decide +kernel)
theorem wd_1073 : (Jvm.Cond.laysFinal "SealHouseModel" "SealHouseModel" "ds" "[I") ∈ BW := bw_5 (List.mem_of_getElem? (i := 113) (by decide +kernel)) (by decide +kernel)
theorem wd_1075 : (Jvm.Cond.lays "SealHouseModel" "SealHouseModel" "dMany" "I") ∈ BW := bw_5 (List.mem_of_getElem? (i := 115) (by decide +kernel)) (by decide +kernel)
theorem wd_1077 : (Jvm.Cond.lays "SealHouseModel" "SealHouseModel" "hasConstants" "Z") ∈ BW := bw_5 (List.mem_of_getElem? (i := 117) (by decide +kernel)) (by decide +kernel)
theorem wd_1079 : (Jvm.Cond.laysFinal "SealHouseModel" "SealHouseModel" "mask" "[I") ∈ BW := bw_5 (List.mem_of_getElem? (i := 119) (by decide +kernel)) (by decide +kernel)
theorem wd_1081 : (Jvm.Cond.laysFinal "SealHouseModel" "SealHouseModel" "kb" "[I") ∈ BW := bw_5 (List.mem_of_getElem? (i := 121) (by decide +kernel)) (by decide +kernel)
theorem wd_1083 : (Jvm.Cond.laysFinal "SealHouseModel" "SealHouseModel" "kMany" "[I") ∈ BW := bw_5 (List.mem_of_getElem? (i := 123) (by decide +kernel)) (by decide +kernel)
theorem wd_1085 : (Jvm.Cond.laysFinal "SealHouseModel" "SealHouseModel" "isWhole" "[Z") ∈ BW := bw_5 (List.mem_of_getElem? (i := 125) (by decide +kernel)) (by decide +kernel)
theorem wd_1087 : (Jvm.Cond.lays "SealHouseModel" "SealHouseModel" "keys" "I") ∈ BW := bw_5 (List.mem_of_getElem? (i := 127) (by decide +kernel)) (by decide +kernel)
theorem wd_1089 : (Jvm.Cond.laysFinal "SealHouseModel" "SealHouseModel" "kn" "LSealHouseModel$Num;") ∈ BW := bw_5 (List.mem_of_getElem? (i := 129) (by decide +kernel)) (by decide +kernel)
theorem wd_1091 : (Jvm.Cond.laysFinal "SealHouseModel" "SealHouseModel" "ke" "LSealHouseModel$Num;") ∈ BW := bw_5 (List.mem_of_getElem? (i := 131) (by decide +kernel)) (by decide +kernel)
theorem wd_1093 : (Jvm.Cond.laysFinal "SealHouseModel" "SealHouseModel" "kd" "LSealHouseModel$Num;") ∈ BW := bw_5 (List.mem_of_getElem? (i := 133) (by decide +kernel)) (by decide +kernel)
theorem wd_1095 : (Jvm.Cond.laysFinal "SealHouseModel" "SealHouseModel" "kp" "LSealHouseModel$Num;") ∈ BW := bw_5 (List.mem_of_getElem? (i := 135) (by decide +kernel)) (by decide +kernel)
theorem wd_1097 : (Jvm.Cond.laysFinal "SealHouseModel" "SealHouseModel" "kq" "LSealHouseModel$Num;") ∈ BW := bw_5 (List.mem_of_getElem? (i := 137) (by decide +kernel)) (by decide +kernel)
theorem wd_1099 : (Jvm.Cond.laysFinal "SealHouseModel" "SealHouseModel" "ka" "LSealHouseModel$Num;") ∈ BW := bw_5 (List.mem_of_getElem? (i := 139) (by decide +kernel)) (by decide +kernel)
theorem wd_1101 : (Jvm.Cond.laysFinal "SealHouseModel" "SealHouseModel" "kc" "LSealHouseModel$Num;") ∈ BW := bw_5 (List.mem_of_getElem? (i := 141) (by decide +kernel)) (by decide +kernel)
theorem wd_1103 : (Jvm.Cond.laysFinal "SealHouseModel" "SealHouseModel" "pad" "[I") ∈ BW := bw_5 (List.mem_of_getElem? (i := 143) (by decide +kernel)) (by decide +kernel)
theorem wd_1105 : (Jvm.Cond.laysFinal "SealHouseModel" "SealHouseModel" "digest" "[I") ∈ BW := bw_5 (List.mem_of_getElem? (i := 145) (by decide +kernel)) (by decide +kernel)
theorem wd_1107 : (Jvm.Cond.laysFinal "SealHouseModel" "SealHouseModel" "form" "[I") ∈ BW := bw_5 (List.mem_of_getElem? (i := 147) (by decide +kernel)) (by decide +kernel)
theorem wd_1109 : (Jvm.Cond.superclass "SealHouseModel" "java/lang/Object") ∈ BW := bw_5 (List.mem_of_getElem? (i := 149) (by decide +kernel)) (by decide +kernel)
theorem wd_1110 : (Jvm.Cond.arrayClass Jvm.ClassFile.FieldType.boolean) ∈ BW := bw_5 (List.mem_of_getElem? (i := 150) (by decide +kernel)) (by decide +kernel)
theorem wd_1111 : (Jvm.Cond.methodLink "SealHouseLaw" (110 : Nat) ({ cls := "SealHouseModel", name := "thrown", desc := "()I" } : Jvm.MethodName)) ∈ BW := bw_5 (List.mem_of_getElem? (i := 151) (by decide +kernel)) (by decide +kernel)
theorem wd_1112 : (Jvm.Cond.instanceMethod ({ cls := "SealHouseModel", name := "thrown", desc := "()I" } : Jvm.MethodName)) ∈ BW := bw_5 (List.mem_of_getElem? (i := 152) (by decide +kernel)) (by decide +kernel)
theorem wd_1113 : (Jvm.Cond.selects "SealHouseModel" ({ cls := "SealHouseModel", name := "thrown", desc := "()I" } : Jvm.MethodName) ({ cls := "SealHouseModel", name := "thrown", desc := "()I" } : Jvm.MethodName)) ∈ BW := bw_5 (List.mem_of_getElem? (i := 153) (by decide +kernel)) (by decide +kernel)
theorem wd_1114 : (Jvm.Cond.code ({ cls := "SealHouseModel", name := "thrown", desc := "()I" } : Jvm.MethodName) prog_9_method_2_code (1 : Nat) (Option.some Jvm.ClassFile.FieldType.int)) ∈ BW := bw_5 (List.mem_of_getElem? (i := 154) rfl) rfl
theorem wd_1115 : (Jvm.Cond.methodLink "SealHouseLaw" (103 : Nat) ({ cls := "SealHouseModel", name := "feed", desc := "(IIIII)I" } : Jvm.MethodName)) ∈ BW := bw_5 (List.mem_of_getElem? (i := 155) (by decide +kernel)) (by decide +kernel)
theorem wd_1116 : (Jvm.Cond.instanceMethod ({ cls := "SealHouseModel", name := "feed", desc := "(IIIII)I" } : Jvm.MethodName)) ∈ BW := bw_5 (List.mem_of_getElem? (i := 156) (by decide +kernel)) (by decide +kernel)
theorem wd_1117 : (Jvm.Cond.selects "SealHouseModel" ({ cls := "SealHouseModel", name := "feed", desc := "(IIIII)I" } : Jvm.MethodName) ({ cls := "SealHouseModel", name := "feed", desc := "(IIIII)I" } : Jvm.MethodName)) ∈ BW := bw_5 (List.mem_of_getElem? (i := 157) (by decide +kernel)) (by decide +kernel)
theorem wd_1118 : (Jvm.Cond.code ({ cls := "SealHouseModel", name := "feed", desc := "(IIIII)I" } : Jvm.MethodName) prog_9_method_12_code (9 : Nat) (Option.some Jvm.ClassFile.FieldType.int)) ∈ BW := bw_5 (List.mem_of_getElem? (i := 158) rfl) rfl
theorem wd_1119 : (Jvm.Cond.methodLink "SealHouseLaw" (109 : Nat) ({ cls := "SealHouseModel", name := "load", desc := "(II)V" } : Jvm.MethodName)) ∈ BW := bw_5 (List.mem_of_getElem? (i := 159) (by decide +kernel)) (by decide +kernel)
theorem wd_1120 : (Jvm.Cond.instanceMethod ({ cls := "SealHouseModel", name := "load", desc := "(II)V" } : Jvm.MethodName)) ∈ BW := bw_5 (List.mem_of_getElem? (i := 160) (by decide +kernel)) (by decide +kernel)
theorem wd_1121 : (Jvm.Cond.selects "SealHouseModel" ({ cls := "SealHouseModel", name := "load", desc := "(II)V" } : Jvm.MethodName) ({ cls := "SealHouseModel", name := "load", desc := "(II)V" } : Jvm.MethodName)) ∈ BW := bw_5 (List.mem_of_getElem? (i := 161) (by decide +kernel)) (by decide +kernel)
theorem wd_1122 : (Jvm.Cond.code ({ cls := "SealHouseModel", name := "load", desc := "(II)V" } : Jvm.MethodName) prog_9_method_16_code (4 : Nat) (Option.none : Option Jvm.ClassFile.FieldType)) ∈ BW := bw_5 (List.mem_of_getElem? (i := 162) rfl) rfl
theorem wd_1123 : (Jvm.Cond.methodLink "SealHouseModel" (240 : Nat) ({ cls := "SealHouseModel", name := "are", desc := "(III)Z" } : Jvm.MethodName)) ∈ BW := bw_5 (List.mem_of_getElem? (i := 163) (by decide +kernel)) (by decide +kernel)
theorem wd_1125 : (Jvm.Cond.instanceMethod ({ cls := "SealHouseModel", name := "are", desc := "(III)Z" } : Jvm.MethodName)) ∈ BW := bw_5 (List.mem_of_getElem? (i := 165) (by decide +kernel)) (by decide +kernel)
theorem wd_1126 : (Jvm.Cond.code ({ cls := "SealHouseModel", name := "are", desc := "(III)Z" } : Jvm.MethodName) prog_9_method_14_code (4 : Nat) (Option.some Jvm.ClassFile.FieldType.boolean)) ∈ BW := bw_5 (List.mem_of_getElem? (i := 166) rfl) rfl
theorem wd_1127 : (Jvm.Cond.methodLink "SealHouseModel" (237 : Nat) ({ cls := "SealHouseModel", name := "isSlot", desc := "(I)Z" } : Jvm.MethodName)) ∈ BW := bw_5 (List.mem_of_getElem? (i := 167) (by decide +kernel)) (by decide +kernel)
theorem wd_1129 : (Jvm.Cond.instanceMethod ({ cls := "SealHouseModel", name := "isSlot", desc := "(I)Z" } : Jvm.MethodName)) ∈ BW := bw_5 (List.mem_of_getElem? (i := 169) (by decide +kernel)) (by decide +kernel)
theorem wd_1130 : (Jvm.Cond.code ({ cls := "SealHouseModel", name := "isSlot", desc := "(I)Z" } : Jvm.MethodName) prog_9_method_13_code (2 : Nat) (Option.some Jvm.ClassFile.FieldType.boolean)) ∈ BW := bw_5 (List.mem_of_getElem? (i := 170) rfl) rfl
theorem wd_1131 : (Jvm.Cond.methodLink "SealHouseModel" (244 : Nat) ({ cls := "SealHouseModel", name := "bad", desc := "(Z)Z" } : Jvm.MethodName)) ∈ BW := bw_5 (List.mem_of_getElem? (i := 171) (by decide +kernel)) (by decide +kernel)
theorem wd_1133 : (Jvm.Cond.instanceMethod ({ cls := "SealHouseModel", name := "bad", desc := "(Z)Z" } : Jvm.MethodName)) ∈ BW := bw_5 (List.mem_of_getElem? (i := 173) (by decide +kernel)) (by decide +kernel)
theorem wd_1134 : (Jvm.Cond.code ({ cls := "SealHouseModel", name := "bad", desc := "(Z)Z" } : Jvm.MethodName) prog_9_method_15_code (2 : Nat) (Option.some Jvm.ClassFile.FieldType.boolean)) ∈ BW := bw_5 (List.mem_of_getElem? (i := 174) rfl) rfl
theorem wd_1135 : (Jvm.Cond.methodLink "SealHouseLaw" (117 : Nat) ({ cls := "SealHouseModel", name := "size", desc := "(I)I" } : Jvm.MethodName)) ∈ BW := bw_5 (List.mem_of_getElem? (i := 175) (by decide +kernel)) (by decide +kernel)
theorem wd_1136 : (Jvm.Cond.instanceMethod ({ cls := "SealHouseModel", name := "size", desc := "(I)I" } : Jvm.MethodName)) ∈ BW := bw_5 (List.mem_of_getElem? (i := 176) (by decide +kernel)) (by decide +kernel)
theorem wd_1137 : (Jvm.Cond.selects "SealHouseModel" ({ cls := "SealHouseModel", name := "size", desc := "(I)I" } : Jvm.MethodName) ({ cls := "SealHouseModel", name := "size", desc := "(I)I" } : Jvm.MethodName)) ∈ BW := bw_5 (List.mem_of_getElem? (i := 177) (by decide +kernel)) (by decide +kernel)
theorem wd_1138 : (Jvm.Cond.code ({ cls := "SealHouseModel", name := "size", desc := "(I)I" } : Jvm.MethodName) prog_9_method_17_code (2 : Nat) (Option.some Jvm.ClassFile.FieldType.int)) ∈ BW := bw_5 (List.mem_of_getElem? (i := 178) rfl) rfl
theorem wd_1139 : (Jvm.Cond.methodLink "SealHouseLaw" (121 : Nat) ({ cls := "SealHouseModel", name := "octet", desc := "(II)I" } : Jvm.MethodName)) ∈ BW := bw_5 (List.mem_of_getElem? (i := 179) (by decide +kernel)) (by decide +kernel)
theorem wd_1140 : (Jvm.Cond.instanceMethod ({ cls := "SealHouseModel", name := "octet", desc := "(II)I" } : Jvm.MethodName)) ∈ BW := bw_5 (List.mem_of_getElem? (i := 180) (by decide +kernel)) (by decide +kernel)
theorem wd_1141 : (Jvm.Cond.selects "SealHouseModel" ({ cls := "SealHouseModel", name := "octet", desc := "(II)I" } : Jvm.MethodName) ({ cls := "SealHouseModel", name := "octet", desc := "(II)I" } : Jvm.MethodName)) ∈ BW := bw_5 (List.mem_of_getElem? (i := 181) (by decide +kernel)) (by decide +kernel)
theorem wd_1142 : (Jvm.Cond.code ({ cls := "SealHouseModel", name := "octet", desc := "(II)I" } : Jvm.MethodName) prog_9_method_18_code (3 : Nat) (Option.some Jvm.ClassFile.FieldType.int)) ∈ BW := bw_5 (List.mem_of_getElem? (i := 182) rfl) rfl
theorem wd_1143 : (Jvm.Cond.methodLink "SealHouseLaw" (125 : Nat) ({ cls := "SealHouseModel", name := "cut", desc := "(IIII)I" } : Jvm.MethodName)) ∈ BW := bw_5 (List.mem_of_getElem? (i := 183) (by decide +kernel)) (by decide +kernel)
theorem wd_1144 : (Jvm.Cond.instanceMethod ({ cls := "SealHouseModel", name := "cut", desc := "(IIII)I" } : Jvm.MethodName)) ∈ BW := bw_5 (List.mem_of_getElem? (i := 184) (by decide +kernel)) (by decide +kernel)
theorem wd_1145 : (Jvm.Cond.selects "SealHouseModel" ({ cls := "SealHouseModel", name := "cut", desc := "(IIII)I" } : Jvm.MethodName) ({ cls := "SealHouseModel", name := "cut", desc := "(IIII)I" } : Jvm.MethodName)) ∈ BW := bw_5 (List.mem_of_getElem? (i := 185) (by decide +kernel)) (by decide +kernel)
theorem wd_1146 : (Jvm.Cond.code ({ cls := "SealHouseModel", name := "cut", desc := "(IIII)I" } : Jvm.MethodName) prog_9_method_23_code (6 : Nat) (Option.some Jvm.ClassFile.FieldType.int)) ∈ BW := bw_5 (List.mem_of_getElem? (i := 186) rfl) rfl
theorem wd_1147 : (Jvm.Cond.methodLink "SealHouseModel" (254 : Nat) ({ cls := "SealHouseModel", name := "anew", desc := "()V" } : Jvm.MethodName)) ∈ BW := bw_5 (List.mem_of_getElem? (i := 187) (by decide +kernel)) (by decide +kernel)
theorem wd_1149 : (Jvm.Cond.instanceMethod ({ cls := "SealHouseModel", name := "anew", desc := "()V" } : Jvm.MethodName)) ∈ BW := bw_5 (List.mem_of_getElem? (i := 189) (by decide +kernel)) (by decide +kernel)
theorem wd_1150 : (Jvm.Cond.code ({ cls := "SealHouseModel", name := "anew", desc := "()V" } : Jvm.MethodName) prog_9_method_19_code (1 : Nat) (Option.none : Option Jvm.ClassFile.FieldType)) ∈ BW := bw_5 (List.mem_of_getElem? (i := 190) rfl) rfl
theorem wd_1151 : (Jvm.Cond.methodLink "SealHouseModel" (251 : Nat) ({ cls := "SealHouseModel", name := "puts", desc := "(I)V" } : Jvm.MethodName)) ∈ BW := bw_5 (List.mem_of_getElem? (i := 191) (by decide +kernel)) (by decide +kernel)
theorem wd_1153 : (Jvm.Cond.instanceMethod ({ cls := "SealHouseModel", name := "puts", desc := "(I)V" } : Jvm.MethodName)) ∈ BW := bw_5 (List.mem_of_getElem? (i := 193) (by decide +kernel)) (by decide +kernel)
theorem wd_1154 : (Jvm.Cond.code ({ cls := "SealHouseModel", name := "puts", desc := "(I)V" } : Jvm.MethodName) prog_9_method_20_code (2 : Nat) (Option.none : Option Jvm.ClassFile.FieldType)) ∈ BW := bw_5 (List.mem_of_getElem? (i := 194) rfl) rfl
theorem wd_1155 : (Jvm.Cond.methodLink "SealHouseModel" (257 : Nat) ({ cls := "SealHouseModel", name := "writes", desc := "(I)I" } : Jvm.MethodName)) ∈ BW := bw_5 (List.mem_of_getElem? (i := 195) (by decide +kernel)) (by decide +kernel)
theorem wd_1157 : (Jvm.Cond.instanceMethod ({ cls := "SealHouseModel", name := "writes", desc := "(I)I" } : Jvm.MethodName)) ∈ BW := bw_5 (List.mem_of_getElem? (i := 197) (by decide +kernel)) (by decide +kernel)
theorem wd_1158 : (Jvm.Cond.code ({ cls := "SealHouseModel", name := "writes", desc := "(I)I" } : Jvm.MethodName) prog_9_method_22_code (3 : Nat) (Option.some Jvm.ClassFile.FieldType.int)) ∈ BW := bw_5 (List.mem_of_getElem? (i := 198) rfl) rfl
theorem wd_1159 : (Jvm.Cond.methodLink "SealHouseLaw" (129 : Nat) ({ cls := "SealHouseModel", name := "join", desc := "(III)I" } : Jvm.MethodName)) ∈ BW := bw_5 (List.mem_of_getElem? (i := 199) (by decide +kernel)) (by decide +kernel)
theorem wd_1160 : (Jvm.Cond.instanceMethod ({ cls := "SealHouseModel", name := "join", desc := "(III)I" } : Jvm.MethodName)) ∈ BW := bw_5 (List.mem_of_getElem? (i := 200) (by decide +kernel)) (by decide +kernel)
theorem wd_1161 : (Jvm.Cond.selects "SealHouseModel" ({ cls := "SealHouseModel", name := "join", desc := "(III)I" } : Jvm.MethodName) ({ cls := "SealHouseModel", name := "join", desc := "(III)I" } : Jvm.MethodName)) ∈ BW := bw_5 (List.mem_of_getElem? (i := 201) (by decide +kernel)) (by decide +kernel)
theorem wd_1162 : (Jvm.Cond.code ({ cls := "SealHouseModel", name := "join", desc := "(III)I" } : Jvm.MethodName) prog_9_method_24_code (4 : Nat) (Option.some Jvm.ClassFile.FieldType.int)) ∈ BW := bw_5 (List.mem_of_getElem? (i := 202) rfl) rfl
theorem wd_1163 : (Jvm.Cond.methodLink "SealHouseModel" (260 : Nat) ({ cls := "SealHouseModel", name := "putsSlot", desc := "(I)V" } : Jvm.MethodName)) ∈ BW := bw_5 (List.mem_of_getElem? (i := 203) (by decide +kernel)) (by decide +kernel)
theorem wd_1165 : (Jvm.Cond.instanceMethod ({ cls := "SealHouseModel", name := "putsSlot", desc := "(I)V" } : Jvm.MethodName)) ∈ BW := bw_5 (List.mem_of_getElem? (i := 205) (by decide +kernel)) (by decide +kernel)
theorem wd_1166 : (Jvm.Cond.code ({ cls := "SealHouseModel", name := "putsSlot", desc := "(I)V" } : Jvm.MethodName) prog_9_method_21_code (3 : Nat) (Option.none : Option Jvm.ClassFile.FieldType)) ∈ BW := bw_5 (List.mem_of_getElem? (i := 206) rfl) rfl
theorem wd_1167 : (Jvm.Cond.methodLink "SealHouseLaw" (132 : Nat) ({ cls := "SealHouseModel", name := "change", desc := "(III)I" } : Jvm.MethodName)) ∈ BW := bw_5 (List.mem_of_getElem? (i := 207) (by decide +kernel)) (by decide +kernel)
theorem wd_1168 : (Jvm.Cond.instanceMethod ({ cls := "SealHouseModel", name := "change", desc := "(III)I" } : Jvm.MethodName)) ∈ BW := bw_5 (List.mem_of_getElem? (i := 208) (by decide +kernel)) (by decide +kernel)
theorem wd_1169 : (Jvm.Cond.selects "SealHouseModel" ({ cls := "SealHouseModel", name := "change", desc := "(III)I" } : Jvm.MethodName) ({ cls := "SealHouseModel", name := "change", desc := "(III)I" } : Jvm.MethodName)) ∈ BW := bw_5 (List.mem_of_getElem? (i := 209) (by decide +kernel)) (by decide +kernel)
theorem wd_1170 : (Jvm.Cond.code ({ cls := "SealHouseModel", name := "change", desc := "(III)I" } : Jvm.MethodName) prog_9_method_25_code (5 : Nat) (Option.some Jvm.ClassFile.FieldType.int)) ∈ BW := bw_5 (List.mem_of_getElem? (i := 210) rfl) rfl
theorem wd_1171 : (Jvm.Cond.methodLink "SealHouseLaw" (136 : Nat) ({ cls := "SealHouseModel", name := "calc", desc := "(IIIII)I" } : Jvm.MethodName)) ∈ BW := bw_5 (List.mem_of_getElem? (i := 211) (by decide +kernel)) (by decide +kernel)
theorem wd_1172 : (Jvm.Cond.instanceMethod ({ cls := "SealHouseModel", name := "calc", desc := "(IIIII)I" } : Jvm.MethodName)) ∈ BW := bw_5 (List.mem_of_getElem? (i := 212) (by decide +kernel)) (by decide +kernel)
theorem wd_1173 : (Jvm.Cond.selects "SealHouseModel" ({ cls := "SealHouseModel", name := "calc", desc := "(IIIII)I" } : Jvm.MethodName) ({ cls := "SealHouseModel", name := "calc", desc := "(IIIII)I" } : Jvm.MethodName)) ∈ BW := bw_5 (List.mem_of_getElem? (i := 213) (by decide +kernel)) (by decide +kernel)
theorem wd_1174 : (Jvm.Cond.code ({ cls := "SealHouseModel", name := "calc", desc := "(IIIII)I" } : Jvm.MethodName) prog_9_method_30_code (6 : Nat) (Option.some Jvm.ClassFile.FieldType.int)) ∈ BW := bw_5 (List.mem_of_getElem? (i := 214) rfl) rfl
theorem wd_1175 : (Jvm.Cond.methodLink "SealHouseModel" (271 : Nat) ({ cls := "SealHouseModel", name := "number", desc := "(ILSealHouseModel$Num;)V" } : Jvm.MethodName)) ∈ BW := bw_5 (List.mem_of_getElem? (i := 215) (by decide +kernel)) (by decide +kernel)
theorem wd_1177 : (Jvm.Cond.instanceMethod ({ cls := "SealHouseModel", name := "number", desc := "(ILSealHouseModel$Num;)V" } : Jvm.MethodName)) ∈ BW := bw_5 (List.mem_of_getElem? (i := 217) (by decide +kernel)) (by decide +kernel)
theorem wd_1178 : (Jvm.Cond.code ({ cls := "SealHouseModel", name := "number", desc := "(ILSealHouseModel$Num;)V" } : Jvm.MethodName) prog_9_method_27_code (3 : Nat) (Option.none : Option Jvm.ClassFile.FieldType)) ∈ BW := bw_5 (List.mem_of_getElem? (i := 218) rfl) rfl
theorem wd_1179 : (Jvm.Cond.methodLink "SealHouseModel" (263 : Nat) ({ cls := "SealHouseModel", name := "reads", desc := "([IIILSealHouseModel$Num;)V" } : Jvm.MethodName)) ∈ BW := bw_5 (List.mem_of_getElem? (i := 219) (by decide +kernel)) (by decide +kernel)
theorem wd_1180 : (Jvm.Cond.static ({ cls := "SealHouseModel", name := "reads", desc := "([IIILSealHouseModel$Num;)V" } : Jvm.MethodName)) ∈ BW := bw_5 (List.mem_of_getElem? (i := 220) (by decide +kernel)) (by decide +kernel)
theorem wd_1181 : (Jvm.Cond.code ({ cls := "SealHouseModel", name := "reads", desc := "([IIILSealHouseModel$Num;)V" } : Jvm.MethodName) prog_9_method_26_code (7 : Nat) (Option.none : Option Jvm.ClassFile.FieldType)) ∈ BW := bw_5 (List.mem_of_getElem? (i := 221) rfl) rfl
theorem wd_1184 : (Jvm.Cond.instanceMethod ({ cls := "SealHouseModel$Num", name := "cut", desc := "()V" } : Jvm.MethodName)) ∈ BW := bw_5 (List.mem_of_getElem? (i := 224) (by decide +kernel)) (by decide +kernel)
theorem wd_1185 : (Jvm.Cond.code ({ cls := "SealHouseModel$Num", name := "cut", desc := "()V" } : Jvm.MethodName) prog_10_method_4_code (1 : Nat) (Option.none : Option Jvm.ClassFile.FieldType)) ∈ BW := bw_5 (List.mem_of_getElem? (i := 225) rfl) rfl
theorem wd_1188 : (Jvm.Cond.instanceMethod ({ cls := "SealHouseModel$Num", name := "add", desc := "(LSealHouseModel$Num;)V" } : Jvm.MethodName)) ∈ BW := bw_5 (List.mem_of_getElem? (i := 228) (by decide +kernel)) (by decide +kernel)
theorem wd_1189 : (Jvm.Cond.code ({ cls := "SealHouseModel$Num", name := "add", desc := "(LSealHouseModel$Num;)V" } : Jvm.MethodName) prog_10_method_11_code (5 : Nat) (Option.none : Option Jvm.ClassFile.FieldType)) ∈ BW := bw_5 (List.mem_of_getElem? (i := 229) rfl) rfl
theorem wd_1190 : (Jvm.Cond.constant "SealHouseModel$Num" (17 : Nat) (65535 : Int32)) ∈ BW := bw_5 (List.mem_of_getElem? (i := 230) (by decide +kernel)) (by decide +kernel)
theorem wd_1191 : (Jvm.Cond.methodLink "SealHouseModel$Num" (23 : Nat) ({ cls := "SealHouseModel$Num", name := "cut", desc := "()V" } : Jvm.MethodName)) ∈ BW := bw_5 (List.mem_of_getElem? (i := 231) (by decide +kernel)) (by decide +kernel)
theorem wd_1192 : (Jvm.Cond.methodLink "SealHouseModel" (275 : Nat) ({ cls := "SealHouseModel", name := "writesNumber", desc := "(LSealHouseModel$Num;I)I" } : Jvm.MethodName)) ∈ BW := bw_5 (List.mem_of_getElem? (i := 232) (by decide +kernel)) (by decide +kernel)
theorem wd_1194 : (Jvm.Cond.instanceMethod ({ cls := "SealHouseModel", name := "writesNumber", desc := "(LSealHouseModel$Num;I)I" } : Jvm.MethodName)) ∈ BW := bw_5 (List.mem_of_getElem? (i := 234) (by decide +kernel)) (by decide +kernel)
theorem wd_1195 : (Jvm.Cond.code ({ cls := "SealHouseModel", name := "writesNumber", desc := "(LSealHouseModel$Num;I)I" } : Jvm.MethodName) prog_9_method_29_code (3 : Nat) (Option.some Jvm.ClassFile.FieldType.int)) ∈ BW := bw_5 (List.mem_of_getElem? (i := 235) rfl) rfl
theorem wd_1198 : (Jvm.Cond.instanceMethod ({ cls := "SealHouseModel$Num", name := "bytes", desc := "()I" } : Jvm.MethodName)) ∈ BW := bw_5 (List.mem_of_getElem? (i := 238) (by decide +kernel)) (by decide +kernel)
theorem wd_1199 : (Jvm.Cond.code ({ cls := "SealHouseModel$Num", name := "bytes", desc := "()I" } : Jvm.MethodName) prog_10_method_9_code (1 : Nat) (Option.some Jvm.ClassFile.FieldType.int)) ∈ BW := bw_5 (List.mem_of_getElem? (i := 239) rfl) rfl
theorem wd_1200 : (Jvm.Cond.methodLink "SealHouseModel$Num" (19 : Nat) ({ cls := "SealHouseModel$Num", name := "bits", desc := "()I" } : Jvm.MethodName)) ∈ BW := bw_6 (List.mem_of_getElem? (i := 0) (by decide +kernel)) (by decide +kernel)
theorem wd_1202 : (Jvm.Cond.instanceMethod ({ cls := "SealHouseModel$Num", name := "bits", desc := "()I" } : Jvm.MethodName)) ∈ BW := bw_6 (List.mem_of_getElem? (i := 2) (by decide +kernel)) (by decide +kernel)
theorem wd_1203 : (Jvm.Cond.code ({ cls := "SealHouseModel$Num", name := "bits", desc := "()I" } : Jvm.MethodName) prog_10_method_5_code (3 : Nat) (Option.some Jvm.ClassFile.FieldType.int)) ∈ BW := bw_6 (List.mem_of_getElem? (i := 3) rfl) rfl
theorem wd_1204 : (Jvm.Cond.constant "SealHouseModel$Num" (18 : Nat) (32768 : Int32)) ∈ BW := bw_6 (List.mem_of_getElem? (i := 4) (by decide +kernel)) (by decide +kernel)
theorem wd_1205 : (Jvm.Cond.methodLink "SealHouseModel" (267 : Nat) ({ cls := "SealHouseModel", name := "putsNumber", desc := "(LSealHouseModel$Num;I)V" } : Jvm.MethodName)) ∈ BW := bw_6 (List.mem_of_getElem? (i := 5) (by decide +kernel)) (by decide +kernel)
theorem wd_1207 : (Jvm.Cond.instanceMethod ({ cls := "SealHouseModel", name := "putsNumber", desc := "(LSealHouseModel$Num;I)V" } : Jvm.MethodName)) ∈ BW := bw_6 (List.mem_of_getElem? (i := 7) (by decide +kernel)) (by decide +kernel)
theorem wd_1208 : (Jvm.Cond.code ({ cls := "SealHouseModel", name := "putsNumber", desc := "(LSealHouseModel$Num;I)V" } : Jvm.MethodName) prog_9_method_28_code (4 : Nat) (Option.none : Option Jvm.ClassFile.FieldType)) ∈ BW := bw_6 (List.mem_of_getElem? (i := 8) rfl) rfl
theorem wd_1211 : (Jvm.Cond.instanceMethod ({ cls := "SealHouseModel$Num", name := "compare", desc := "(LSealHouseModel$Num;)I" } : Jvm.MethodName)) ∈ BW := bw_6 (List.mem_of_getElem? (i := 11) (by decide +kernel)) (by decide +kernel)
theorem wd_1212 : (Jvm.Cond.code ({ cls := "SealHouseModel$Num", name := "compare", desc := "(LSealHouseModel$Num;)I" } : Jvm.MethodName) prog_10_method_10_code (3 : Nat) (Option.some Jvm.ClassFile.FieldType.int)) ∈ BW := bw_6 (List.mem_of_getElem? (i := 12) rfl) rfl
theorem wd_1215 : (Jvm.Cond.instanceMethod ({ cls := "SealHouseModel$Num", name := "less", desc := "(LSealHouseModel$Num;)V" } : Jvm.MethodName)) ∈ BW := bw_6 (List.mem_of_getElem? (i := 15) (by decide +kernel)) (by decide +kernel)
theorem wd_1216 : (Jvm.Cond.code ({ cls := "SealHouseModel$Num", name := "less", desc := "(LSealHouseModel$Num;)V" } : Jvm.MethodName) prog_10_method_12_code (4 : Nat) (Option.none : Option Jvm.ClassFile.FieldType)) ∈ BW := bw_6 (List.mem_of_getElem? (i := 16) rfl) rfl
theorem wd_1219 : (Jvm.Cond.instanceMethod ({ cls := "SealHouseModel$Num", name := "product", desc := "(LSealHouseModel$Num;LSealHouseModel$Num;)V" } : Jvm.MethodName)) ∈ BW := bw_6 (List.mem_of_getElem? (i := 19) (by decide +kernel)) (by decide +kernel)
theorem wd_1220 : (Jvm.Cond.code ({ cls := "SealHouseModel$Num", name := "product", desc := "(LSealHouseModel$Num;LSealHouseModel$Num;)V" } : Jvm.MethodName) prog_10_method_13_code (7 : Nat) (Option.none : Option Jvm.ClassFile.FieldType)) ∈ BW := bw_6 (List.mem_of_getElem? (i := 20) rfl) rfl
theorem wd_1221 : (Jvm.Cond.constantLong "SealHouseModel$Num" (26 : Nat) (65535 : Int64)) ∈ BW := bw_6 (List.mem_of_getElem? (i := 21) (by decide +kernel)) (by decide +kernel)
theorem wd_1222 : (Jvm.Cond.methodLink "SealHouseModel" (188 : Nat) ({ cls := "SealHouseModel", name := "divide", desc := "(LSealHouseModel$Num;LSealHouseModel$Num;LSealHouseModel$Num;)V" } : Jvm.MethodName)) ∈ BW := bw_6 (List.mem_of_getElem? (i := 22) (by decide +kernel)) (by decide +kernel)
theorem wd_1224 : (Jvm.Cond.instanceMethod ({ cls := "SealHouseModel", name := "divide", desc := "(LSealHouseModel$Num;LSealHouseModel$Num;LSealHouseModel$Num;)V" } : Jvm.MethodName)) ∈ BW := bw_6 (List.mem_of_getElem? (i := 24) (by decide +kernel)) (by decide +kernel)
theorem wd_1225 : (Jvm.Cond.code ({ cls := "SealHouseModel", name := "divide", desc := "(LSealHouseModel$Num;LSealHouseModel$Num;LSealHouseModel$Num;)V" } : Jvm.MethodName) prog_9_method_3_code (16 : Nat) (Option.none : Option Jvm.ClassFile.FieldType)) ∈ BW := bw_6 (List.mem_of_getElem? (i := 25) rfl) rfl
theorem wd_1227 : (Jvm.Cond.methodLink "SealHouseModel" (171 : Nat) ({ cls := "SealHouseModel", name := "shift", desc := "(LSealHouseModel$Num;ILSealHouseModel$Num;)V" } : Jvm.MethodName)) ∈ BW := bw_6 (List.mem_of_getElem? (i := 27) (by decide +kernel)) (by decide +kernel)
theorem wd_1228 : (Jvm.Cond.static ({ cls := "SealHouseModel", name := "shift", desc := "(LSealHouseModel$Num;ILSealHouseModel$Num;)V" } : Jvm.MethodName)) ∈ BW := bw_6 (List.mem_of_getElem? (i := 28) (by decide +kernel)) (by decide +kernel)
theorem wd_1229 : (Jvm.Cond.code ({ cls := "SealHouseModel", name := "shift", desc := "(LSealHouseModel$Num;ILSealHouseModel$Num;)V" } : Jvm.MethodName) prog_9_method_4_code (5 : Nat) (Option.none : Option Jvm.ClassFile.FieldType)) ∈ BW := bw_6 (List.mem_of_getElem? (i := 29) rfl) rfl
theorem wd_1230 : (Jvm.Cond.constant "SealHouseModel" (180 : Nat) (65535 : Int32)) ∈ BW := bw_6 (List.mem_of_getElem? (i := 30) (by decide +kernel)) (by decide +kernel)
theorem wd_1231 : (Jvm.Cond.constantLong "SealHouseModel" (178 : Nat) (65535 : Int64)) ∈ BW := bw_6 (List.mem_of_getElem? (i := 31) (by decide +kernel)) (by decide +kernel)
theorem wd_1232 : (Jvm.Cond.methodLink "SealHouseModel" (279 : Nat) ({ cls := "SealHouseModel", name := "common", desc := "(LSealHouseModel$Num;LSealHouseModel$Num;LSealHouseModel$Num;)V" } : Jvm.MethodName)) ∈ BW := bw_6 (List.mem_of_getElem? (i := 32) (by decide +kernel)) (by decide +kernel)
theorem wd_1234 : (Jvm.Cond.instanceMethod ({ cls := "SealHouseModel", name := "common", desc := "(LSealHouseModel$Num;LSealHouseModel$Num;LSealHouseModel$Num;)V" } : Jvm.MethodName)) ∈ BW := bw_6 (List.mem_of_getElem? (i := 34) (by decide +kernel)) (by decide +kernel)
theorem wd_1235 : (Jvm.Cond.code ({ cls := "SealHouseModel", name := "common", desc := "(LSealHouseModel$Num;LSealHouseModel$Num;LSealHouseModel$Num;)V" } : Jvm.MethodName) prog_9_method_7_code (4 : Nat) (Option.none : Option Jvm.ClassFile.FieldType)) ∈ BW := bw_6 (List.mem_of_getElem? (i := 35) rfl) rfl
theorem wd_1238 : (Jvm.Cond.instanceMethod ({ cls := "SealHouseModel$Num", name := "take", desc := "(LSealHouseModel$Num;)V" } : Jvm.MethodName)) ∈ BW := bw_6 (List.mem_of_getElem? (i := 38) (by decide +kernel)) (by decide +kernel)
theorem wd_1239 : (Jvm.Cond.code ({ cls := "SealHouseModel$Num", name := "take", desc := "(LSealHouseModel$Num;)V" } : Jvm.MethodName) prog_10_method_3_code (3 : Nat) (Option.none : Option Jvm.ClassFile.FieldType)) ∈ BW := bw_6 (List.mem_of_getElem? (i := 39) rfl) rfl
theorem wd_1242 : (Jvm.Cond.instanceMethod ({ cls := "SealHouseModel$Num", name := "set", desc := "(I)V" } : Jvm.MethodName)) ∈ BW := bw_6 (List.mem_of_getElem? (i := 42) (by decide +kernel)) (by decide +kernel)
theorem wd_1243 : (Jvm.Cond.code ({ cls := "SealHouseModel$Num", name := "set", desc := "(I)V" } : Jvm.MethodName) prog_10_method_2_code (3 : Nat) (Option.none : Option Jvm.ClassFile.FieldType)) ∈ BW := bw_6 (List.mem_of_getElem? (i := 43) rfl) rfl
theorem wd_1244 : (Jvm.Cond.methodLink "SealHouseModel" (282 : Nat) ({ cls := "SealHouseModel", name := "multiple", desc := "(LSealHouseModel$Num;LSealHouseModel$Num;LSealHouseModel$Num;)V" } : Jvm.MethodName)) ∈ BW := bw_6 (List.mem_of_getElem? (i := 44) (by decide +kernel)) (by decide +kernel)
theorem wd_1246 : (Jvm.Cond.instanceMethod ({ cls := "SealHouseModel", name := "multiple", desc := "(LSealHouseModel$Num;LSealHouseModel$Num;LSealHouseModel$Num;)V" } : Jvm.MethodName)) ∈ BW := bw_6 (List.mem_of_getElem? (i := 46) (by decide +kernel)) (by decide +kernel)
theorem wd_1247 : (Jvm.Cond.code ({ cls := "SealHouseModel", name := "multiple", desc := "(LSealHouseModel$Num;LSealHouseModel$Num;LSealHouseModel$Num;)V" } : Jvm.MethodName) prog_9_method_32_code (4 : Nat) (Option.none : Option Jvm.ClassFile.FieldType)) ∈ BW := bw_6 (List.mem_of_getElem? (i := 47) rfl) rfl
theorem wd_1248 : (Jvm.Cond.methodLink "SealHouseModel" (285 : Nat) ({ cls := "SealHouseModel", name := "invert", desc := "(LSealHouseModel$Num;LSealHouseModel$Num;LSealHouseModel$Num;)Z" } : Jvm.MethodName)) ∈ BW := bw_6 (List.mem_of_getElem? (i := 48) (by decide +kernel)) (by decide +kernel)
theorem wd_1250 : (Jvm.Cond.instanceMethod ({ cls := "SealHouseModel", name := "invert", desc := "(LSealHouseModel$Num;LSealHouseModel$Num;LSealHouseModel$Num;)Z" } : Jvm.MethodName)) ∈ BW := bw_6 (List.mem_of_getElem? (i := 50) (by decide +kernel)) (by decide +kernel)
theorem wd_1251 : (Jvm.Cond.code ({ cls := "SealHouseModel", name := "invert", desc := "(LSealHouseModel$Num;LSealHouseModel$Num;LSealHouseModel$Num;)Z" } : Jvm.MethodName) prog_9_method_8_code (4 : Nat) (Option.some Jvm.ClassFile.FieldType.boolean)) ∈ BW := bw_6 (List.mem_of_getElem? (i := 51) rfl) rfl
theorem wd_1254 : (Jvm.Cond.instanceMethod ({ cls := "SealHouseModel$Num", name := "is", desc := "(I)Z" } : Jvm.MethodName)) ∈ BW := bw_6 (List.mem_of_getElem? (i := 54) (by decide +kernel)) (by decide +kernel)
theorem wd_1255 : (Jvm.Cond.code ({ cls := "SealHouseModel$Num", name := "is", desc := "(I)Z" } : Jvm.MethodName) prog_10_method_8_code (2 : Nat) (Option.some Jvm.ClassFile.FieldType.boolean)) ∈ BW := bw_6 (List.mem_of_getElem? (i := 55) rfl) rfl
theorem wd_1256 : (Jvm.Cond.methodLink "SealHouseModel" (289 : Nat) ({ cls := "SealHouseModel", name := "powers", desc := "(I)I" } : Jvm.MethodName)) ∈ BW := bw_6 (List.mem_of_getElem? (i := 56) (by decide +kernel)) (by decide +kernel)
theorem wd_1258 : (Jvm.Cond.instanceMethod ({ cls := "SealHouseModel", name := "powers", desc := "(I)I" } : Jvm.MethodName)) ∈ BW := bw_6 (List.mem_of_getElem? (i := 58) (by decide +kernel)) (by decide +kernel)
theorem wd_1259 : (Jvm.Cond.code ({ cls := "SealHouseModel", name := "powers", desc := "(I)I" } : Jvm.MethodName) prog_9_method_31_code (2 : Nat) (Option.some Jvm.ClassFile.FieldType.int)) ∈ BW := bw_6 (List.mem_of_getElem? (i := 59) rfl) rfl
theorem wd_1260 : (Jvm.Cond.methodLink "SealHouseModel" (231 : Nat) ({ cls := "SealHouseModel", name := "raise", desc := "(LSealHouseModel$Num;LSealHouseModel$Num;LSealHouseModel$Num;LSealHouseModel$Num;)V" } : Jvm.MethodName)) ∈ BW := bw_6 (List.mem_of_getElem? (i := 60) (by decide +kernel)) (by decide +kernel)
theorem wd_1262 : (Jvm.Cond.instanceMethod ({ cls := "SealHouseModel", name := "raise", desc := "(LSealHouseModel$Num;LSealHouseModel$Num;LSealHouseModel$Num;LSealHouseModel$Num;)V" } : Jvm.MethodName)) ∈ BW := bw_6 (List.mem_of_getElem? (i := 62) (by decide +kernel)) (by decide +kernel)
theorem wd_1263 : (Jvm.Cond.code ({ cls := "SealHouseModel", name := "raise", desc := "(LSealHouseModel$Num;LSealHouseModel$Num;LSealHouseModel$Num;LSealHouseModel$Num;)V" } : Jvm.MethodName) prog_9_method_6_code (6 : Nat) (Option.none : Option Jvm.ClassFile.FieldType)) ∈ BW := bw_6 (List.mem_of_getElem? (i := 63) rfl) rfl
theorem wd_1264 : (Jvm.Cond.methodLink "SealHouseModel" (204 : Nat) ({ cls := "SealHouseModel", name := "times", desc := "(LSealHouseModel$Num;LSealHouseModel$Num;LSealHouseModel$Num;LSealHouseModel$Num;)V" } : Jvm.MethodName)) ∈ BW := bw_6 (List.mem_of_getElem? (i := 64) (by decide +kernel)) (by decide +kernel)
theorem wd_1266 : (Jvm.Cond.instanceMethod ({ cls := "SealHouseModel", name := "times", desc := "(LSealHouseModel$Num;LSealHouseModel$Num;LSealHouseModel$Num;LSealHouseModel$Num;)V" } : Jvm.MethodName)) ∈ BW := bw_6 (List.mem_of_getElem? (i := 66) (by decide +kernel)) (by decide +kernel)
theorem wd_1267 : (Jvm.Cond.code ({ cls := "SealHouseModel", name := "times", desc := "(LSealHouseModel$Num;LSealHouseModel$Num;LSealHouseModel$Num;LSealHouseModel$Num;)V" } : Jvm.MethodName) prog_9_method_5_code (5 : Nat) (Option.none : Option Jvm.ClassFile.FieldType)) ∈ BW := bw_6 (List.mem_of_getElem? (i := 67) rfl) rfl
theorem wd_1270 : (Jvm.Cond.instanceMethod ({ cls := "SealHouseModel$Num", name := "bit", desc := "(I)Z" } : Jvm.MethodName)) ∈ BW := bw_6 (List.mem_of_getElem? (i := 70) (by decide +kernel)) (by decide +kernel)
theorem wd_1271 : (Jvm.Cond.code ({ cls := "SealHouseModel$Num", name := "bit", desc := "(I)Z" } : Jvm.MethodName) prog_10_method_6_code (2 : Nat) (Option.some Jvm.ClassFile.FieldType.boolean)) ∈ BW := bw_6 (List.mem_of_getElem? (i := 71) rfl) rfl
theorem wd_1272 : (Jvm.Cond.methodLink "SealHouseLaw" (139 : Nat) ({ cls := "SealHouseModel", name := "compare", desc := "(II)I" } : Jvm.MethodName)) ∈ BW := bw_6 (List.mem_of_getElem? (i := 72) (by decide +kernel)) (by decide +kernel)
theorem wd_1273 : (Jvm.Cond.instanceMethod ({ cls := "SealHouseModel", name := "compare", desc := "(II)I" } : Jvm.MethodName)) ∈ BW := bw_6 (List.mem_of_getElem? (i := 73) (by decide +kernel)) (by decide +kernel)
theorem wd_1274 : (Jvm.Cond.selects "SealHouseModel" ({ cls := "SealHouseModel", name := "compare", desc := "(II)I" } : Jvm.MethodName) ({ cls := "SealHouseModel", name := "compare", desc := "(II)I" } : Jvm.MethodName)) ∈ BW := bw_6 (List.mem_of_getElem? (i := 74) (by decide +kernel)) (by decide +kernel)
theorem wd_1275 : (Jvm.Cond.code ({ cls := "SealHouseModel", name := "compare", desc := "(II)I" } : Jvm.MethodName) prog_9_method_33_code (3 : Nat) (Option.some Jvm.ClassFile.FieldType.int)) ∈ BW := bw_6 (List.mem_of_getElem? (i := 75) rfl) rfl
theorem wd_1276 : (Jvm.Cond.methodLink "SealHouseLaw" (142 : Nat) ({ cls := "SealHouseModel", name := "bits", desc := "(I)I" } : Jvm.MethodName)) ∈ BW := bw_6 (List.mem_of_getElem? (i := 76) (by decide +kernel)) (by decide +kernel)
theorem wd_1277 : (Jvm.Cond.instanceMethod ({ cls := "SealHouseModel", name := "bits", desc := "(I)I" } : Jvm.MethodName)) ∈ BW := bw_6 (List.mem_of_getElem? (i := 77) (by decide +kernel)) (by decide +kernel)
theorem wd_1278 : (Jvm.Cond.selects "SealHouseModel" ({ cls := "SealHouseModel", name := "bits", desc := "(I)I" } : Jvm.MethodName) ({ cls := "SealHouseModel", name := "bits", desc := "(I)I" } : Jvm.MethodName)) ∈ BW := bw_6 (List.mem_of_getElem? (i := 78) (by decide +kernel)) (by decide +kernel)
theorem wd_1279 : (Jvm.Cond.code ({ cls := "SealHouseModel", name := "bits", desc := "(I)I" } : Jvm.MethodName) prog_9_method_34_code (2 : Nat) (Option.some Jvm.ClassFile.FieldType.int)) ∈ BW := bw_6 (List.mem_of_getElem? (i := 79) rfl) rfl
theorem wd_1280 : (Jvm.Cond.methodLink "SealHouseLaw" (145 : Nat) ({ cls := "SealHouseModel", name := "probable", desc := "(I)Z" } : Jvm.MethodName)) ∈ BW := bw_6 (List.mem_of_getElem? (i := 80) (by decide +kernel)) (by decide +kernel)
theorem wd_1281 : (Jvm.Cond.instanceMethod ({ cls := "SealHouseModel", name := "probable", desc := "(I)Z" } : Jvm.MethodName)) ∈ BW := bw_6 (List.mem_of_getElem? (i := 81) (by decide +kernel)) (by decide +kernel)
theorem wd_1282 : (Jvm.Cond.selects "SealHouseModel" ({ cls := "SealHouseModel", name := "probable", desc := "(I)Z" } : Jvm.MethodName) ({ cls := "SealHouseModel", name := "probable", desc := "(I)Z" } : Jvm.MethodName)) ∈ BW := bw_6 (List.mem_of_getElem? (i := 82) (by decide +kernel)) (by decide +kernel)
theorem wd_1283 : (Jvm.Cond.code ({ cls := "SealHouseModel", name := "probable", desc := "(I)Z" } : Jvm.MethodName) prog_9_method_35_code (2 : Nat) (Option.some Jvm.ClassFile.FieldType.boolean)) ∈ BW := bw_6 (List.mem_of_getElem? (i := 83) rfl) rfl
theorem wd_1284 : (Jvm.Cond.methodLink "SealHouseModel" (292 : Nat) ({ cls := "SealHouseModel", name := "isFew", desc := "(LSealHouseModel$Num;)Z" } : Jvm.MethodName)) ∈ BW := bw_6 (List.mem_of_getElem? (i := 84) (by decide +kernel)) (by decide +kernel)
theorem wd_1285 : (Jvm.Cond.static ({ cls := "SealHouseModel", name := "isFew", desc := "(LSealHouseModel$Num;)Z" } : Jvm.MethodName)) ∈ BW := bw_6 (List.mem_of_getElem? (i := 85) (by decide +kernel)) (by decide +kernel)
theorem wd_1286 : (Jvm.Cond.code ({ cls := "SealHouseModel", name := "isFew", desc := "(LSealHouseModel$Num;)Z" } : Jvm.MethodName) prog_9_method_9_code (1 : Nat) (Option.some Jvm.ClassFile.FieldType.boolean)) ∈ BW := bw_6 (List.mem_of_getElem? (i := 86) rfl) rfl
theorem wd_1287 : (Jvm.Cond.methodLink "SealHouseModel" (296 : Nat) ({ cls := "SealHouseModel", name := "isProbable", desc := "(LSealHouseModel$Num;)Z" } : Jvm.MethodName)) ∈ BW := bw_6 (List.mem_of_getElem? (i := 87) (by decide +kernel)) (by decide +kernel)
theorem wd_1289 : (Jvm.Cond.instanceMethod ({ cls := "SealHouseModel", name := "isProbable", desc := "(LSealHouseModel$Num;)Z" } : Jvm.MethodName)) ∈ BW := bw_6 (List.mem_of_getElem? (i := 89) (by decide +kernel)) (by decide +kernel)
theorem wd_1290 : (Jvm.Cond.code ({ cls := "SealHouseModel", name := "isProbable", desc := "(LSealHouseModel$Num;)Z" } : Jvm.MethodName) prog_9_method_11_code (6 : Nat) (Option.some Jvm.ClassFile.FieldType.boolean)) ∈ BW := bw_6 (List.mem_of_getElem? (i := 90) rfl) rfl
theorem wd_1291 : (Jvm.Cond.methodLink "SealHouseModel" (220 : Nat) ({ cls := "SealHouseModel", name := "prime", desc := "(I)I" } : Jvm.MethodName)) ∈ BW := bw_6 (List.mem_of_getElem? (i := 91) (by decide +kernel)) (by decide +kernel)
theorem wd_1292 : (Jvm.Cond.static ({ cls := "SealHouseModel", name := "prime", desc := "(I)I" } : Jvm.MethodName)) ∈ BW := bw_6 (List.mem_of_getElem? (i := 92) (by decide +kernel)) (by decide +kernel)
theorem wd_1293 : (Jvm.Cond.code ({ cls := "SealHouseModel", name := "prime", desc := "(I)I" } : Jvm.MethodName) prog_9_method_10_code (5 : Nat) (Option.some Jvm.ClassFile.FieldType.int)) ∈ BW := bw_6 (List.mem_of_getElem? (i := 93) rfl) rfl
theorem wd_1296 : (Jvm.Cond.instanceMethod ({ cls := "SealHouseModel$Num", name := "isOdd", desc := "()Z" } : Jvm.MethodName)) ∈ BW := bw_6 (List.mem_of_getElem? (i := 96) (by decide +kernel)) (by decide +kernel)
theorem wd_1297 : (Jvm.Cond.code ({ cls := "SealHouseModel$Num", name := "isOdd", desc := "()Z" } : Jvm.MethodName) prog_10_method_7_code (1 : Nat) (Option.some Jvm.ClassFile.FieldType.boolean)) ∈ BW := bw_6 (List.mem_of_getElem? (i := 97) rfl) rfl
theorem wd_1300 : (Jvm.Cond.instanceMethod ({ cls := "SealHouseModel$Num", name := "half", desc := "()V" } : Jvm.MethodName)) ∈ BW := bw_6 (List.mem_of_getElem? (i := 100) (by decide +kernel)) (by decide +kernel)
theorem wd_1301 : (Jvm.Cond.code ({ cls := "SealHouseModel$Num", name := "half", desc := "()V" } : Jvm.MethodName) prog_10_method_15_code (2 : Nat) (Option.none : Option Jvm.ClassFile.FieldType)) ∈ BW := bw_6 (List.mem_of_getElem? (i := 101) rfl) rfl
theorem wd_1302 : (Jvm.Cond.methodLink "SealHouseLaw" (148 : Nat) ({ cls := "SealHouseModel", name := "next", desc := "(II)I" } : Jvm.MethodName)) ∈ BW := bw_6 (List.mem_of_getElem? (i := 102) (by decide +kernel)) (by decide +kernel)
theorem wd_1303 : (Jvm.Cond.instanceMethod ({ cls := "SealHouseModel", name := "next", desc := "(II)I" } : Jvm.MethodName)) ∈ BW := bw_6 (List.mem_of_getElem? (i := 103) (by decide +kernel)) (by decide +kernel)
theorem wd_1304 : (Jvm.Cond.selects "SealHouseModel" ({ cls := "SealHouseModel", name := "next", desc := "(II)I" } : Jvm.MethodName) ({ cls := "SealHouseModel", name := "next", desc := "(II)I" } : Jvm.MethodName)) ∈ BW := bw_6 (List.mem_of_getElem? (i := 104) (by decide +kernel)) (by decide +kernel)
theorem wd_1305 : (Jvm.Cond.code ({ cls := "SealHouseModel", name := "next", desc := "(II)I" } : Jvm.MethodName) prog_9_method_36_code (4 : Nat) (Option.some Jvm.ClassFile.FieldType.int)) ∈ BW := bw_6 (List.mem_of_getElem? (i := 105) rfl) rfl
theorem wd_1306 : (Jvm.Cond.methodLink "SealHouseLaw" (151 : Nat) ({ cls := "SealHouseModel", name := "digest", desc := "(III)I" } : Jvm.MethodName)) ∈ BW := bw_6 (List.mem_of_getElem? (i := 106) (by decide +kernel)) (by decide +kernel)
theorem wd_1307 : (Jvm.Cond.instanceMethod ({ cls := "SealHouseModel", name := "digest", desc := "(III)I" } : Jvm.MethodName)) ∈ BW := bw_6 (List.mem_of_getElem? (i := 107) (by decide +kernel)) (by decide +kernel)
theorem wd_1308 : (Jvm.Cond.selects "SealHouseModel" ({ cls := "SealHouseModel", name := "digest", desc := "(III)I" } : Jvm.MethodName) ({ cls := "SealHouseModel", name := "digest", desc := "(III)I" } : Jvm.MethodName)) ∈ BW := bw_6 (List.mem_of_getElem? (i := 108) (by decide +kernel)) (by decide +kernel)
theorem wd_1309 : (Jvm.Cond.code ({ cls := "SealHouseModel", name := "digest", desc := "(III)I" } : Jvm.MethodName) prog_9_method_48_code (5 : Nat) (Option.some Jvm.ClassFile.FieldType.int)) ∈ BW := bw_6 (List.mem_of_getElem? (i := 109) rfl) rfl
theorem wd_1310 : (Jvm.Cond.methodLink "SealHouseModel" (342 : Nat) ({ cls := "SealHouseModel", name := "isHash", desc := "(I)Z" } : Jvm.MethodName)) ∈ BW := bw_6 (List.mem_of_getElem? (i := 110) (by decide +kernel)) (by decide +kernel)
theorem wd_1312 : (Jvm.Cond.instanceMethod ({ cls := "SealHouseModel", name := "isHash", desc := "(I)Z" } : Jvm.MethodName)) ∈ BW := bw_6 (List.mem_of_getElem? (i := 112) (by decide +kernel)) (by decide +kernel)
theorem wd_1313 : (Jvm.Cond.code ({ cls := "SealHouseModel", name := "isHash", desc := "(I)Z" } : Jvm.MethodName) prog_9_method_47_code (2 : Nat) (Option.some Jvm.ClassFile.FieldType.boolean)) ∈ BW := bw_6 (List.mem_of_getElem? (i := 113) rfl) rfl
theorem wd_1314 : (Jvm.Cond.methodLink "SealHouseModel" (345 : Nat) ({ cls := "SealHouseModel", name := "saysSlot", desc := "(I)V" } : Jvm.MethodName)) ∈ BW := bw_6 (List.mem_of_getElem? (i := 114) (by decide +kernel)) (by decide +kernel)
theorem wd_1316 : (Jvm.Cond.instanceMethod ({ cls := "SealHouseModel", name := "saysSlot", desc := "(I)V" } : Jvm.MethodName)) ∈ BW := bw_6 (List.mem_of_getElem? (i := 116) (by decide +kernel)) (by decide +kernel)
theorem wd_1317 : (Jvm.Cond.code ({ cls := "SealHouseModel", name := "saysSlot", desc := "(I)V" } : Jvm.MethodName) prog_9_method_46_code (3 : Nat) (Option.none : Option Jvm.ClassFile.FieldType)) ∈ BW := bw_6 (List.mem_of_getElem? (i := 117) rfl) rfl
theorem wd_1318 : (Jvm.Cond.methodLink "SealHouseModel" (326 : Nat) ({ cls := "SealHouseModel", name := "says", desc := "(I)V" } : Jvm.MethodName)) ∈ BW := bw_6 (List.mem_of_getElem? (i := 118) (by decide +kernel)) (by decide +kernel)
theorem wd_1320 : (Jvm.Cond.instanceMethod ({ cls := "SealHouseModel", name := "says", desc := "(I)V" } : Jvm.MethodName)) ∈ BW := bw_6 (List.mem_of_getElem? (i := 120) (by decide +kernel)) (by decide +kernel)
theorem wd_1321 : (Jvm.Cond.code ({ cls := "SealHouseModel", name := "says", desc := "(I)V" } : Jvm.MethodName) prog_9_method_37_code (2 : Nat) (Option.none : Option Jvm.ClassFile.FieldType)) ∈ BW := bw_6 (List.mem_of_getElem? (i := 121) rfl) rfl
theorem wd_1322 : (Jvm.Cond.methodLink "SealHouseModel" (348 : Nat) ({ cls := "SealHouseModel", name := "digests", desc := "(I)V" } : Jvm.MethodName)) ∈ BW := bw_6 (List.mem_of_getElem? (i := 122) (by decide +kernel)) (by decide +kernel)
theorem wd_1324 : (Jvm.Cond.instanceMethod ({ cls := "SealHouseModel", name := "digests", desc := "(I)V" } : Jvm.MethodName)) ∈ BW := bw_6 (List.mem_of_getElem? (i := 124) (by decide +kernel)) (by decide +kernel)
theorem wd_1325 : (Jvm.Cond.code ({ cls := "SealHouseModel", name := "digests", desc := "(I)V" } : Jvm.MethodName) prog_9_method_44_code (4 : Nat) (Option.none : Option Jvm.ClassFile.FieldType)) ∈ BW := bw_6 (List.mem_of_getElem? (i := 125) rfl) rfl
theorem wd_1326 : (Jvm.Cond.methodLink "SealHouseModel" (323 : Nat) ({ cls := "SealHouseModel", name := "constants", desc := "()V" } : Jvm.MethodName)) ∈ BW := bw_6 (List.mem_of_getElem? (i := 126) (by decide +kernel)) (by decide +kernel)
theorem wd_1328 : (Jvm.Cond.instanceMethod ({ cls := "SealHouseModel", name := "constants", desc := "()V" } : Jvm.MethodName)) ∈ BW := bw_6 (List.mem_of_getElem? (i := 128) (by decide +kernel)) (by decide +kernel)
theorem wd_1329 : (Jvm.Cond.code ({ cls := "SealHouseModel", name := "constants", desc := "()V" } : Jvm.MethodName) prog_9_method_41_code (2 : Nat) (Option.none : Option Jvm.ClassFile.FieldType)) ∈ BW := bw_6 (List.mem_of_getElem? (i := 129) rfl) rfl
theorem wd_1330 : (Jvm.Cond.methodLink "SealHouseModel" (311 : Nat) ({ cls := "SealHouseModel", name := "root", desc := "(II)I" } : Jvm.MethodName)) ∈ BW := bw_6 (List.mem_of_getElem? (i := 130) (by decide +kernel)) (by decide +kernel)
theorem wd_1331 : (Jvm.Cond.static ({ cls := "SealHouseModel", name := "root", desc := "(II)I" } : Jvm.MethodName)) ∈ BW := bw_6 (List.mem_of_getElem? (i := 131) (by decide +kernel)) (by decide +kernel)
theorem wd_1332 : (Jvm.Cond.code ({ cls := "SealHouseModel", name := "root", desc := "(II)I" } : Jvm.MethodName) prog_9_method_39_code (7 : Nat) (Option.some Jvm.ClassFile.FieldType.int)) ∈ BW := bw_6 (List.mem_of_getElem? (i := 132) rfl) rfl
theorem wd_1333 : (Jvm.Cond.methodLink "SealHouseModel" (302 : Nat) ({ cls := "SealHouseModel", name := "isAtMost", desc := "(JII)Z" } : Jvm.MethodName)) ∈ BW := bw_6 (List.mem_of_getElem? (i := 133) (by decide +kernel)) (by decide +kernel)
theorem wd_1334 : (Jvm.Cond.static ({ cls := "SealHouseModel", name := "isAtMost", desc := "(JII)Z" } : Jvm.MethodName)) ∈ BW := bw_6 (List.mem_of_getElem? (i := 134) (by decide +kernel)) (by decide +kernel)
theorem wd_1335 : (Jvm.Cond.code ({ cls := "SealHouseModel", name := "isAtMost", desc := "(JII)Z" } : Jvm.MethodName) prog_9_method_40_code (13 : Nat) (Option.some Jvm.ClassFile.FieldType.boolean)) ∈ BW := bw_6 (List.mem_of_getElem? (i := 135) rfl) rfl
theorem wd_1336 : (Jvm.Cond.constant "SealHouseModel" (306 : Nat) (1000000 : Int32)) ∈ BW := bw_6 (List.mem_of_getElem? (i := 136) (by decide +kernel)) (by decide +kernel)
theorem wd_1337 : (Jvm.Cond.constantLong "SealHouseModel" (329 : Nat) (8 : Int64)) ∈ BW := bw_6 (List.mem_of_getElem? (i := 137) (by decide +kernel)) (by decide +kernel)
theorem wd_1338 : (Jvm.Cond.constantLong "SealHouseModel" (331 : Nat) (255 : Int64)) ∈ BW := bw_6 (List.mem_of_getElem? (i := 138) (by decide +kernel)) (by decide +kernel)
theorem wd_1339 : (Jvm.Cond.methodLink "SealHouseModel" (333 : Nat) ({ cls := "SealHouseModel", name := "begins", desc := "(II)I" } : Jvm.MethodName)) ∈ BW := bw_6 (List.mem_of_getElem? (i := 139) (by decide +kernel)) (by decide +kernel)
theorem wd_1341 : (Jvm.Cond.instanceMethod ({ cls := "SealHouseModel", name := "begins", desc := "(II)I" } : Jvm.MethodName)) ∈ BW := bw_6 (List.mem_of_getElem? (i := 141) (by decide +kernel)) (by decide +kernel)
theorem wd_1342 : (Jvm.Cond.code ({ cls := "SealHouseModel", name := "begins", desc := "(II)I" } : Jvm.MethodName) prog_9_method_42_code (3 : Nat) (Option.some Jvm.ClassFile.FieldType.int)) ∈ BW := bw_6 (List.mem_of_getElem? (i := 142) rfl) rfl
theorem wd_1343 : (Jvm.Cond.constant "SealHouseModel" (315 : Nat) (-1056596264 : Int32)) ∈ BW := bw_6 (List.mem_of_getElem? (i := 143) (by decide +kernel)) (by decide +kernel)
theorem wd_1344 : (Jvm.Cond.constant "SealHouseModel" (316 : Nat) (914150663 : Int32)) ∈ BW := bw_6 (List.mem_of_getElem? (i := 144) (by decide +kernel)) (by decide +kernel)
theorem wd_1345 : (Jvm.Cond.constant "SealHouseModel" (317 : Nat) (812702999 : Int32)) ∈ BW := bw_6 (List.mem_of_getElem? (i := 145) (by decide +kernel)) (by decide +kernel)
theorem wd_1346 : (Jvm.Cond.constant "SealHouseModel" (318 : Nat) (-150054599 : Int32)) ∈ BW := bw_6 (List.mem_of_getElem? (i := 146) (by decide +kernel)) (by decide +kernel)
theorem wd_1347 : (Jvm.Cond.constant "SealHouseModel" (319 : Nat) (-4191439 : Int32)) ∈ BW := bw_6 (List.mem_of_getElem? (i := 147) (by decide +kernel)) (by decide +kernel)
theorem wd_1348 : (Jvm.Cond.constant "SealHouseModel" (320 : Nat) (1750603025 : Int32)) ∈ BW := bw_6 (List.mem_of_getElem? (i := 148) (by decide +kernel)) (by decide +kernel)
theorem wd_1349 : (Jvm.Cond.constant "SealHouseModel" (321 : Nat) (1694076839 : Int32)) ∈ BW := bw_6 (List.mem_of_getElem? (i := 149) (by decide +kernel)) (by decide +kernel)
theorem wd_1350 : (Jvm.Cond.constant "SealHouseModel" (322 : Nat) (-1090891868 : Int32)) ∈ BW := bw_6 (List.mem_of_getElem? (i := 150) (by decide +kernel)) (by decide +kernel)
theorem wd_1351 : (Jvm.Cond.methodLink "SealHouseModel" (336 : Nat) ({ cls := "SealHouseModel", name := "block", desc := "(I)V" } : Jvm.MethodName)) ∈ BW := bw_6 (List.mem_of_getElem? (i := 151) (by decide +kernel)) (by decide +kernel)
theorem wd_1353 : (Jvm.Cond.instanceMethod ({ cls := "SealHouseModel", name := "block", desc := "(I)V" } : Jvm.MethodName)) ∈ BW := bw_6 (List.mem_of_getElem? (i := 153) (by decide +kernel)) (by decide +kernel)
theorem wd_1354 : (Jvm.Cond.code ({ cls := "SealHouseModel", name := "block", desc := "(I)V" } : Jvm.MethodName) prog_9_method_45_code (13 : Nat) (Option.none : Option Jvm.ClassFile.FieldType)) ∈ BW := bw_6 (List.mem_of_getElem? (i := 154) rfl) rfl
theorem wd_1355 : (Jvm.Cond.methodLink "SealHouseModel" (339 : Nat) ({ cls := "SealHouseModel", name := "across", desc := "(II)I" } : Jvm.MethodName)) ∈ BW := bw_6 (List.mem_of_getElem? (i := 155) (by decide +kernel)) (by decide +kernel)
theorem wd_1356 : (Jvm.Cond.static ({ cls := "SealHouseModel", name := "across", desc := "(II)I" } : Jvm.MethodName)) ∈ BW := bw_6 (List.mem_of_getElem? (i := 156) (by decide +kernel)) (by decide +kernel)
theorem wd_1357 : (Jvm.Cond.code ({ cls := "SealHouseModel", name := "across", desc := "(II)I" } : Jvm.MethodName) prog_9_method_38_code (2 : Nat) (Option.some Jvm.ClassFile.FieldType.int)) ∈ BW := bw_6 (List.mem_of_getElem? (i := 157) rfl) rfl
theorem wd_1358 : (Jvm.Cond.methodLink "SealHouseModel" (351 : Nat) ({ cls := "SealHouseModel", name := "long0", desc := "(I)I" } : Jvm.MethodName)) ∈ BW := bw_6 (List.mem_of_getElem? (i := 158) (by decide +kernel)) (by decide +kernel)
theorem wd_1359 : (Jvm.Cond.static ({ cls := "SealHouseModel", name := "long0", desc := "(I)I" } : Jvm.MethodName)) ∈ BW := bw_6 (List.mem_of_getElem? (i := 159) (by decide +kernel)) (by decide +kernel)
theorem wd_1360 : (Jvm.Cond.code ({ cls := "SealHouseModel", name := "long0", desc := "(I)I" } : Jvm.MethodName) prog_9_method_43_code (1 : Nat) (Option.some Jvm.ClassFile.FieldType.int)) ∈ BW := bw_6 (List.mem_of_getElem? (i := 160) rfl) rfl
theorem wd_1361 : (Jvm.Cond.methodLink "SealHouseLaw" (154 : Nat) ({ cls := "SealHouseModel", name := "mask", desc := "(IIII)I" } : Jvm.MethodName)) ∈ BW := bw_6 (List.mem_of_getElem? (i := 161) (by decide +kernel)) (by decide +kernel)
theorem wd_1362 : (Jvm.Cond.instanceMethod ({ cls := "SealHouseModel", name := "mask", desc := "(IIII)I" } : Jvm.MethodName)) ∈ BW := bw_6 (List.mem_of_getElem? (i := 162) (by decide +kernel)) (by decide +kernel)
theorem wd_1363 : (Jvm.Cond.selects "SealHouseModel" ({ cls := "SealHouseModel", name := "mask", desc := "(IIII)I" } : Jvm.MethodName) ({ cls := "SealHouseModel", name := "mask", desc := "(IIII)I" } : Jvm.MethodName)) ∈ BW := bw_6 (List.mem_of_getElem? (i := 163) (by decide +kernel)) (by decide +kernel)
theorem wd_1364 : (Jvm.Cond.code ({ cls := "SealHouseModel", name := "mask", desc := "(IIII)I" } : Jvm.MethodName) prog_9_method_50_code (6 : Nat) (Option.some Jvm.ClassFile.FieldType.int)) ∈ BW := bw_6 (List.mem_of_getElem? (i := 164) rfl) rfl
theorem wd_1365 : (Jvm.Cond.methodLink "SealHouseModel" (354 : Nat) ({ cls := "SealHouseModel", name := "masks", desc := "(I[IIII)V" } : Jvm.MethodName)) ∈ BW := bw_6 (List.mem_of_getElem? (i := 165) (by decide +kernel)) (by decide +kernel)
theorem wd_1367 : (Jvm.Cond.instanceMethod ({ cls := "SealHouseModel", name := "masks", desc := "(I[IIII)V" } : Jvm.MethodName)) ∈ BW := bw_6 (List.mem_of_getElem? (i := 167) (by decide +kernel)) (by decide +kernel)
theorem wd_1368 : (Jvm.Cond.code ({ cls := "SealHouseModel", name := "masks", desc := "(I[IIII)V" } : Jvm.MethodName) prog_9_method_49_code (9 : Nat) (Option.none : Option Jvm.ClassFile.FieldType)) ∈ BW := bw_6 (List.mem_of_getElem? (i := 168) rfl) rfl
theorem wd_1369 : (Jvm.Cond.methodLink "SealHouseLaw" (157 : Nat) ({ cls := "SealHouseModel", name := "key", desc := "(III)I" } : Jvm.MethodName)) ∈ BW := bw_6 (List.mem_of_getElem? (i := 169) (by decide +kernel)) (by decide +kernel)
theorem wd_1370 : (Jvm.Cond.instanceMethod ({ cls := "SealHouseModel", name := "key", desc := "(III)I" } : Jvm.MethodName)) ∈ BW := bw_6 (List.mem_of_getElem? (i := 170) (by decide +kernel)) (by decide +kernel)
theorem wd_1371 : (Jvm.Cond.selects "SealHouseModel" ({ cls := "SealHouseModel", name := "key", desc := "(III)I" } : Jvm.MethodName) ({ cls := "SealHouseModel", name := "key", desc := "(III)I" } : Jvm.MethodName)) ∈ BW := bw_6 (List.mem_of_getElem? (i := 171) (by decide +kernel)) (by decide +kernel)
theorem wd_1372 : (Jvm.Cond.code ({ cls := "SealHouseModel", name := "key", desc := "(III)I" } : Jvm.MethodName) prog_9_method_55_code (6 : Nat) (Option.some Jvm.ClassFile.FieldType.int)) ∈ BW := bw_6 (List.mem_of_getElem? (i := 172) rfl) rfl
theorem wd_1373 : (Jvm.Cond.methodLink "SealHouseModel" (361 : Nat) ({ cls := "SealHouseModel", name := "isUnfit", desc := "()Z" } : Jvm.MethodName)) ∈ BW := bw_6 (List.mem_of_getElem? (i := 173) (by decide +kernel)) (by decide +kernel)
theorem wd_1375 : (Jvm.Cond.instanceMethod ({ cls := "SealHouseModel", name := "isUnfit", desc := "()Z" } : Jvm.MethodName)) ∈ BW := bw_6 (List.mem_of_getElem? (i := 175) (by decide +kernel)) (by decide +kernel)
theorem wd_1376 : (Jvm.Cond.code ({ cls := "SealHouseModel", name := "isUnfit", desc := "()Z" } : Jvm.MethodName) prog_9_method_54_code (1 : Nat) (Option.some Jvm.ClassFile.FieldType.boolean)) ∈ BW := bw_6 (List.mem_of_getElem? (i := 176) rfl) rfl
theorem wd_1377 : (Jvm.Cond.methodLink "SealHouseModel" (364 : Nat) ({ cls := "SealHouseModel", name := "isRefused", desc := "()Z" } : Jvm.MethodName)) ∈ BW := bw_6 (List.mem_of_getElem? (i := 177) (by decide +kernel)) (by decide +kernel)
theorem wd_1379 : (Jvm.Cond.instanceMethod ({ cls := "SealHouseModel", name := "isRefused", desc := "()Z" } : Jvm.MethodName)) ∈ BW := bw_6 (List.mem_of_getElem? (i := 179) (by decide +kernel)) (by decide +kernel)
theorem wd_1380 : (Jvm.Cond.code ({ cls := "SealHouseModel", name := "isRefused", desc := "()Z" } : Jvm.MethodName) prog_9_method_53_code (1 : Nat) (Option.some Jvm.ClassFile.FieldType.boolean)) ∈ BW := bw_6 (List.mem_of_getElem? (i := 180) rfl) rfl
theorem wd_1381 : (Jvm.Cond.methodLink "SealHouseModel" (367 : Nat) ({ cls := "SealHouseModel", name := "keeps", desc := "(ILSealHouseModel$Num;)V" } : Jvm.MethodName)) ∈ BW := bw_6 (List.mem_of_getElem? (i := 181) (by decide +kernel)) (by decide +kernel)
theorem wd_1383 : (Jvm.Cond.instanceMethod ({ cls := "SealHouseModel", name := "keeps", desc := "(ILSealHouseModel$Num;)V" } : Jvm.MethodName)) ∈ BW := bw_6 (List.mem_of_getElem? (i := 183) (by decide +kernel)) (by decide +kernel)
theorem wd_1384 : (Jvm.Cond.code ({ cls := "SealHouseModel", name := "keeps", desc := "(ILSealHouseModel$Num;)V" } : Jvm.MethodName) prog_9_method_51_code (5 : Nat) (Option.none : Option Jvm.ClassFile.FieldType)) ∈ BW := bw_6 (List.mem_of_getElem? (i := 184) rfl) rfl
theorem wd_1385 : (Jvm.Cond.methodLink "SealHouseLaw" (160 : Nat) ({ cls := "SealHouseModel", name := "open", desc := "(II)I" } : Jvm.MethodName)) ∈ BW := bw_6 (List.mem_of_getElem? (i := 185) (by decide +kernel)) (by decide +kernel)
theorem wd_1386 : (Jvm.Cond.instanceMethod ({ cls := "SealHouseModel", name := "open", desc := "(II)I" } : Jvm.MethodName)) ∈ BW := bw_6 (List.mem_of_getElem? (i := 186) (by decide +kernel)) (by decide +kernel)
theorem wd_1387 : (Jvm.Cond.selects "SealHouseModel" ({ cls := "SealHouseModel", name := "open", desc := "(II)I" } : Jvm.MethodName) ({ cls := "SealHouseModel", name := "open", desc := "(II)I" } : Jvm.MethodName)) ∈ BW := bw_6 (List.mem_of_getElem? (i := 187) (by decide +kernel)) (by decide +kernel)
theorem wd_1388 : (Jvm.Cond.code ({ cls := "SealHouseModel", name := "open", desc := "(II)I" } : Jvm.MethodName) prog_9_method_56_code (3 : Nat) (Option.some Jvm.ClassFile.FieldType.int)) ∈ BW := bw_6 (List.mem_of_getElem? (i := 188) rfl) rfl
theorem wd_1389 : (Jvm.Cond.methodLink "SealHouseLaw" (163 : Nat) ({ cls := "SealHouseModel", name := "part", desc := "(III)I" } : Jvm.MethodName)) ∈ BW := bw_6 (List.mem_of_getElem? (i := 189) (by decide +kernel)) (by decide +kernel)
theorem wd_1390 : (Jvm.Cond.instanceMethod ({ cls := "SealHouseModel", name := "part", desc := "(III)I" } : Jvm.MethodName)) ∈ BW := bw_6 (List.mem_of_getElem? (i := 190) (by decide +kernel)) (by decide +kernel)
theorem wd_1391 : (Jvm.Cond.selects "SealHouseModel" ({ cls := "SealHouseModel", name := "part", desc := "(III)I" } : Jvm.MethodName) ({ cls := "SealHouseModel", name := "part", desc := "(III)I" } : Jvm.MethodName)) ∈ BW := bw_6 (List.mem_of_getElem? (i := 191) (by decide +kernel)) (by decide +kernel)
theorem wd_1392 : (Jvm.Cond.code ({ cls := "SealHouseModel", name := "part", desc := "(III)I" } : Jvm.MethodName) prog_9_method_58_code (4 : Nat) (Option.some Jvm.ClassFile.FieldType.int)) ∈ BW := bw_6 (List.mem_of_getElem? (i := 192) rfl) rfl
theorem wd_1393 : (Jvm.Cond.methodLink "SealHouseModel" (370 : Nat) ({ cls := "SealHouseModel", name := "isKey", desc := "(I)Z" } : Jvm.MethodName)) ∈ BW := bw_6 (List.mem_of_getElem? (i := 193) (by decide +kernel)) (by decide +kernel)
theorem wd_1395 : (Jvm.Cond.instanceMethod ({ cls := "SealHouseModel", name := "isKey", desc := "(I)Z" } : Jvm.MethodName)) ∈ BW := bw_6 (List.mem_of_getElem? (i := 195) (by decide +kernel)) (by decide +kernel)
theorem wd_1396 : (Jvm.Cond.code ({ cls := "SealHouseModel", name := "isKey", desc := "(I)Z" } : Jvm.MethodName) prog_9_method_57_code (2 : Nat) (Option.some Jvm.ClassFile.FieldType.boolean)) ∈ BW := bw_6 (List.mem_of_getElem? (i := 196) rfl) rfl
theorem wd_1397 : (Jvm.Cond.methodLink "SealHouseModel" (373 : Nat) ({ cls := "SealHouseModel", name := "kept", desc := "(IILSealHouseModel$Num;)V" } : Jvm.MethodName)) ∈ BW := bw_6 (List.mem_of_getElem? (i := 197) (by decide +kernel)) (by decide +kernel)
theorem wd_1399 : (Jvm.Cond.instanceMethod ({ cls := "SealHouseModel", name := "kept", desc := "(IILSealHouseModel$Num;)V" } : Jvm.MethodName)) ∈ BW := bw_6 (List.mem_of_getElem? (i := 199) (by decide +kernel)) (by decide +kernel)
theorem wd_1400 : (Jvm.Cond.code ({ cls := "SealHouseModel", name := "kept", desc := "(IILSealHouseModel$Num;)V" } : Jvm.MethodName) prog_9_method_52_code (4 : Nat) (Option.none : Option Jvm.ClassFile.FieldType)) ∈ BW := bw_6 (List.mem_of_getElem? (i := 200) rfl) rfl
theorem wd_1401 : (Jvm.Cond.methodLink "SealHouseLaw" (166 : Nat) ({ cls := "SealHouseModel", name := "turn", desc := "(IIII)I" } : Jvm.MethodName)) ∈ BW := bw_6 (List.mem_of_getElem? (i := 201) (by decide +kernel)) (by decide +kernel)
theorem wd_1402 : (Jvm.Cond.instanceMethod ({ cls := "SealHouseModel", name := "turn", desc := "(IIII)I" } : Jvm.MethodName)) ∈ BW := bw_6 (List.mem_of_getElem? (i := 202) (by decide +kernel)) (by decide +kernel)
theorem wd_1403 : (Jvm.Cond.selects "SealHouseModel" ({ cls := "SealHouseModel", name := "turn", desc := "(IIII)I" } : Jvm.MethodName) ({ cls := "SealHouseModel", name := "turn", desc := "(IIII)I" } : Jvm.MethodName)) ∈ BW := bw_6 (List.mem_of_getElem? (i := 203) (by decide +kernel)) (by decide +kernel)
theorem wd_1404 : (Jvm.Cond.code ({ cls := "SealHouseModel", name := "turn", desc := "(IIII)I" } : Jvm.MethodName) prog_9_method_61_code (5 : Nat) (Option.some Jvm.ClassFile.FieldType.int)) ∈ BW := bw_6 (List.mem_of_getElem? (i := 204) rfl) rfl
theorem wd_1405 : (Jvm.Cond.methodLink "SealHouseModel" (377 : Nat) ({ cls := "SealHouseModel", name := "turns", desc := "(IILSealHouseModel$Num;)V" } : Jvm.MethodName)) ∈ BW := bw_6 (List.mem_of_getElem? (i := 205) (by decide +kernel)) (by decide +kernel)
theorem wd_1407 : (Jvm.Cond.instanceMethod ({ cls := "SealHouseModel", name := "turns", desc := "(IILSealHouseModel$Num;)V" } : Jvm.MethodName)) ∈ BW := bw_6 (List.mem_of_getElem? (i := 207) (by decide +kernel)) (by decide +kernel)
theorem wd_1408 : (Jvm.Cond.code ({ cls := "SealHouseModel", name := "turns", desc := "(IILSealHouseModel$Num;)V" } : Jvm.MethodName) prog_9_method_60_code (5 : Nat) (Option.none : Option Jvm.ClassFile.FieldType)) ∈ BW := bw_6 (List.mem_of_getElem? (i := 208) rfl) rfl
theorem wd_1409 : (Jvm.Cond.methodLink "SealHouseLaw" (170 : Nat) ({ cls := "SealHouseModel", name := "hide", desc := "(IIIIII)I" } : Jvm.MethodName)) ∈ BW := bw_6 (List.mem_of_getElem? (i := 209) (by decide +kernel)) (by decide +kernel)
theorem wd_1410 : (Jvm.Cond.instanceMethod ({ cls := "SealHouseModel", name := "hide", desc := "(IIIIII)I" } : Jvm.MethodName)) ∈ BW := bw_6 (List.mem_of_getElem? (i := 210) (by decide +kernel)) (by decide +kernel)
theorem wd_1411 : (Jvm.Cond.selects "SealHouseModel" ({ cls := "SealHouseModel", name := "hide", desc := "(IIIIII)I" } : Jvm.MethodName) ({ cls := "SealHouseModel", name := "hide", desc := "(IIIIII)I" } : Jvm.MethodName)) ∈ BW := bw_6 (List.mem_of_getElem? (i := 211) (by decide +kernel)) (by decide +kernel)
theorem wd_1412 : (Jvm.Cond.code ({ cls := "SealHouseModel", name := "hide", desc := "(IIIIII)I" } : Jvm.MethodName) prog_9_method_66_code (11 : Nat) (Option.some Jvm.ClassFile.FieldType.int)) ∈ BW := bw_6 (List.mem_of_getElem? (i := 212) rfl) rfl
theorem wd_1413 : (Jvm.Cond.methodLink "SealHouseModel" (380 : Nat) ({ cls := "SealHouseModel", name := "lengthOf", desc := "(I)I" } : Jvm.MethodName)) ∈ BW := bw_6 (List.mem_of_getElem? (i := 213) (by decide +kernel)) (by decide +kernel)
theorem wd_1415 : (Jvm.Cond.instanceMethod ({ cls := "SealHouseModel", name := "lengthOf", desc := "(I)I" } : Jvm.MethodName)) ∈ BW := bw_6 (List.mem_of_getElem? (i := 215) (by decide +kernel)) (by decide +kernel)
theorem wd_1416 : (Jvm.Cond.code ({ cls := "SealHouseModel", name := "lengthOf", desc := "(I)I" } : Jvm.MethodName) prog_9_method_59_code (2 : Nat) (Option.some Jvm.ClassFile.FieldType.int)) ∈ BW := bw_6 (List.mem_of_getElem? (i := 216) rfl) rfl
theorem wd_1417 : (Jvm.Cond.methodLink "SealHouseModel" (383 : Nat) ({ cls := "SealHouseModel", name := "crosses", desc := "(II)V" } : Jvm.MethodName)) ∈ BW := bw_6 (List.mem_of_getElem? (i := 217) (by decide +kernel)) (by decide +kernel)
theorem wd_1419 : (Jvm.Cond.instanceMethod ({ cls := "SealHouseModel", name := "crosses", desc := "(II)V" } : Jvm.MethodName)) ∈ BW := bw_6 (List.mem_of_getElem? (i := 219) (by decide +kernel)) (by decide +kernel)
theorem wd_1420 : (Jvm.Cond.code ({ cls := "SealHouseModel", name := "crosses", desc := "(II)V" } : Jvm.MethodName) prog_9_method_65_code (4 : Nat) (Option.none : Option Jvm.ClassFile.FieldType)) ∈ BW := bw_6 (List.mem_of_getElem? (i := 220) rfl) rfl
theorem wd_1421 : (Jvm.Cond.methodLink "SealHouseModel" (387 : Nat) ({ cls := "SealHouseModel", name := "padded", desc := "(IIII)I" } : Jvm.MethodName)) ∈ BW := bw_6 (List.mem_of_getElem? (i := 221) (by decide +kernel)) (by decide +kernel)
theorem wd_1423 : (Jvm.Cond.instanceMethod ({ cls := "SealHouseModel", name := "padded", desc := "(IIII)I" } : Jvm.MethodName)) ∈ BW := bw_6 (List.mem_of_getElem? (i := 223) (by decide +kernel)) (by decide +kernel)
theorem wd_1424 : (Jvm.Cond.code ({ cls := "SealHouseModel", name := "padded", desc := "(IIII)I" } : Jvm.MethodName) prog_9_method_63_code (5 : Nat) (Option.some Jvm.ClassFile.FieldType.int)) ∈ BW := bw_6 (List.mem_of_getElem? (i := 224) rfl) rfl
theorem wd_1425 : (Jvm.Cond.methodLink "SealHouseLaw" (173 : Nat) ({ cls := "SealHouseModel", name := "show", desc := "(IIIII)I" } : Jvm.MethodName)) ∈ BW := bw_6 (List.mem_of_getElem? (i := 225) (by decide +kernel)) (by decide +kernel)
theorem wd_1426 : (Jvm.Cond.instanceMethod ({ cls := "SealHouseModel", name := "show", desc := "(IIIII)I" } : Jvm.MethodName)) ∈ BW := bw_6 (List.mem_of_getElem? (i := 226) (by decide +kernel)) (by decide +kernel)
theorem wd_1427 : (Jvm.Cond.selects "SealHouseModel" ({ cls := "SealHouseModel", name := "show", desc := "(IIIII)I" } : Jvm.MethodName) ({ cls := "SealHouseModel", name := "show", desc := "(IIIII)I" } : Jvm.MethodName)) ∈ BW := bw_6 (List.mem_of_getElem? (i := 227) (by decide +kernel)) (by decide +kernel)
theorem wd_1428 : (Jvm.Cond.code ({ cls := "SealHouseModel", name := "show", desc := "(IIIII)I" } : Jvm.MethodName) prog_9_method_67_code (10 : Nat) (Option.some Jvm.ClassFile.FieldType.int)) ∈ BW := bw_6 (List.mem_of_getElem? (i := 228) rfl) rfl
theorem wd_1429 : (Jvm.Cond.methodLink "SealHouseModel" (391 : Nat) ({ cls := "SealHouseModel", name := "opened", desc := "(III)Z" } : Jvm.MethodName)) ∈ BW := bw_6 (List.mem_of_getElem? (i := 229) (by decide +kernel)) (by decide +kernel)
theorem wd_1431 : (Jvm.Cond.instanceMethod ({ cls := "SealHouseModel", name := "opened", desc := "(III)Z" } : Jvm.MethodName)) ∈ BW := bw_6 (List.mem_of_getElem? (i := 231) (by decide +kernel)) (by decide +kernel)
theorem wd_1432 : (Jvm.Cond.code ({ cls := "SealHouseModel", name := "opened", desc := "(III)Z" } : Jvm.MethodName) prog_9_method_64_code (6 : Nat) (Option.some Jvm.ClassFile.FieldType.boolean)) ∈ BW := bw_6 (List.mem_of_getElem? (i := 232) rfl) rfl
theorem wd_1433 : (Jvm.Cond.methodLink "SealHouseModel" (394 : Nat) ({ cls := "SealHouseModel", name := "shows", desc := "(III)I" } : Jvm.MethodName)) ∈ BW := bw_6 (List.mem_of_getElem? (i := 233) (by decide +kernel)) (by decide +kernel)
theorem wd_1435 : (Jvm.Cond.instanceMethod ({ cls := "SealHouseModel", name := "shows", desc := "(III)I" } : Jvm.MethodName)) ∈ BW := bw_6 (List.mem_of_getElem? (i := 235) (by decide +kernel)) (by decide +kernel)
theorem wd_1436 : (Jvm.Cond.code ({ cls := "SealHouseModel", name := "shows", desc := "(III)I" } : Jvm.MethodName) prog_9_method_68_code (5 : Nat) (Option.some Jvm.ClassFile.FieldType.int)) ∈ BW := bw_6 (List.mem_of_getElem? (i := 236) rfl) rfl
theorem wd_1437 : (Jvm.Cond.methodLink "SealHouseLaw" (176 : Nat) ({ cls := "SealHouseModel", name := "fill", desc := "(IIII)I" } : Jvm.MethodName)) ∈ BW := bw_6 (List.mem_of_getElem? (i := 237) (by decide +kernel)) (by decide +kernel)
theorem wd_1438 : (Jvm.Cond.instanceMethod ({ cls := "SealHouseModel", name := "fill", desc := "(IIII)I" } : Jvm.MethodName)) ∈ BW := bw_6 (List.mem_of_getElem? (i := 238) (by decide +kernel)) (by decide +kernel)
theorem wd_1439 : (Jvm.Cond.selects "SealHouseModel" ({ cls := "SealHouseModel", name := "fill", desc := "(IIII)I" } : Jvm.MethodName) ({ cls := "SealHouseModel", name := "fill", desc := "(IIII)I" } : Jvm.MethodName)) ∈ BW := bw_6 (List.mem_of_getElem? (i := 239) (by decide +kernel)) (by decide +kernel)
theorem wd_1440 : (Jvm.Cond.code ({ cls := "SealHouseModel", name := "fill", desc := "(IIII)I" } : Jvm.MethodName) prog_9_method_69_code (8 : Nat) (Option.some Jvm.ClassFile.FieldType.int)) ∈ BW := bw_7 (List.mem_of_getElem? (i := 0) rfl) rfl
theorem wd_1441 : (Jvm.Cond.methodLink "SealHouseLaw" (179 : Nat) ({ cls := "SealHouseModel", name := "empty", desc := "(III)I" } : Jvm.MethodName)) ∈ BW := bw_7 (List.mem_of_getElem? (i := 1) (by decide +kernel)) (by decide +kernel)
theorem wd_1442 : (Jvm.Cond.instanceMethod ({ cls := "SealHouseModel", name := "empty", desc := "(III)I" } : Jvm.MethodName)) ∈ BW := bw_7 (List.mem_of_getElem? (i := 2) (by decide +kernel)) (by decide +kernel)
theorem wd_1443 : (Jvm.Cond.selects "SealHouseModel" ({ cls := "SealHouseModel", name := "empty", desc := "(III)I" } : Jvm.MethodName) ({ cls := "SealHouseModel", name := "empty", desc := "(III)I" } : Jvm.MethodName)) ∈ BW := bw_7 (List.mem_of_getElem? (i := 3) (by decide +kernel)) (by decide +kernel)
theorem wd_1444 : (Jvm.Cond.code ({ cls := "SealHouseModel", name := "empty", desc := "(III)I" } : Jvm.MethodName) prog_9_method_70_code (6 : Nat) (Option.some Jvm.ClassFile.FieldType.int)) ∈ BW := bw_7 (List.mem_of_getElem? (i := 4) rfl) rfl
theorem wd_1445 : (Jvm.Cond.methodLink "SealHouseLaw" (182 : Nat) ({ cls := "SealHouseModel", name := "sign", desc := "(IIII)I" } : Jvm.MethodName)) ∈ BW := bw_7 (List.mem_of_getElem? (i := 5) (by decide +kernel)) (by decide +kernel)
theorem wd_1446 : (Jvm.Cond.instanceMethod ({ cls := "SealHouseModel", name := "sign", desc := "(IIII)I" } : Jvm.MethodName)) ∈ BW := bw_7 (List.mem_of_getElem? (i := 6) (by decide +kernel)) (by decide +kernel)
theorem wd_1447 : (Jvm.Cond.selects "SealHouseModel" ({ cls := "SealHouseModel", name := "sign", desc := "(IIII)I" } : Jvm.MethodName) ({ cls := "SealHouseModel", name := "sign", desc := "(IIII)I" } : Jvm.MethodName)) ∈ BW := bw_7 (List.mem_of_getElem? (i := 7) (by decide +kernel)) (by decide +kernel)
theorem wd_1448 : (Jvm.Cond.code ({ cls := "SealHouseModel", name := "sign", desc := "(IIII)I" } : Jvm.MethodName) prog_9_method_73_code (6 : Nat) (Option.some Jvm.ClassFile.FieldType.int)) ∈ BW := bw_7 (List.mem_of_getElem? (i := 8) rfl) rfl
theorem wd_1449 : (Jvm.Cond.methodLink "SealHouseModel" (401 : Nat) ({ cls := "SealHouseModel", name := "forms", desc := "(III)V" } : Jvm.MethodName)) ∈ BW := bw_7 (List.mem_of_getElem? (i := 9) (by decide +kernel)) (by decide +kernel)
theorem wd_1451 : (Jvm.Cond.instanceMethod ({ cls := "SealHouseModel", name := "forms", desc := "(III)V" } : Jvm.MethodName)) ∈ BW := bw_7 (List.mem_of_getElem? (i := 11) (by decide +kernel)) (by decide +kernel)
theorem wd_1452 : (Jvm.Cond.code ({ cls := "SealHouseModel", name := "forms", desc := "(III)V" } : Jvm.MethodName) prog_9_method_71_code (7 : Nat) (Option.none : Option Jvm.ClassFile.FieldType)) ∈ BW := bw_7 (List.mem_of_getElem? (i := 12) rfl) rfl
theorem wd_1453 : (Jvm.Cond.methodLink "SealHouseModel" (398 : Nat) ({ cls := "SealHouseModel", name := "head", desc := "(II)I" } : Jvm.MethodName)) ∈ BW := bw_7 (List.mem_of_getElem? (i := 13) (by decide +kernel)) (by decide +kernel)
theorem wd_1454 : (Jvm.Cond.static ({ cls := "SealHouseModel", name := "head", desc := "(II)I" } : Jvm.MethodName)) ∈ BW := bw_7 (List.mem_of_getElem? (i := 14) (by decide +kernel)) (by decide +kernel)
theorem wd_1455 : (Jvm.Cond.code ({ cls := "SealHouseModel", name := "head", desc := "(II)I" } : Jvm.MethodName) prog_9_method_72_code (2 : Nat) (Option.some Jvm.ClassFile.FieldType.int)) ∈ BW := bw_7 (List.mem_of_getElem? (i := 15) rfl) rfl
theorem wd_1456 : (Jvm.Cond.methodLink "SealHouseLaw" (185 : Nat) ({ cls := "SealHouseModel", name := "prove", desc := "(IIII)I" } : Jvm.MethodName)) ∈ BW := bw_7 (List.mem_of_getElem? (i := 16) (by decide +kernel)) (by decide +kernel)
theorem wd_1457 : (Jvm.Cond.instanceMethod ({ cls := "SealHouseModel", name := "prove", desc := "(IIII)I" } : Jvm.MethodName)) ∈ BW := bw_7 (List.mem_of_getElem? (i := 17) (by decide +kernel)) (by decide +kernel)
theorem wd_1458 : (Jvm.Cond.selects "SealHouseModel" ({ cls := "SealHouseModel", name := "prove", desc := "(IIII)I" } : Jvm.MethodName) ({ cls := "SealHouseModel", name := "prove", desc := "(IIII)I" } : Jvm.MethodName)) ∈ BW := bw_7 (List.mem_of_getElem? (i := 18) (by decide +kernel)) (by decide +kernel)
theorem wd_1459 : (Jvm.Cond.code ({ cls := "SealHouseModel", name := "prove", desc := "(IIII)I" } : Jvm.MethodName) prog_9_method_74_code (8 : Nat) (Option.some Jvm.ClassFile.FieldType.int)) ∈ BW := bw_7 (List.mem_of_getElem? (i := 19) rfl) rfl
theorem wd_1460 : (Jvm.Cond.methodLink "SealHouseLaw" (188 : Nat) ({ cls := "SealHouseModel", name := "salt", desc := "(IIIII)I" } : Jvm.MethodName)) ∈ BW := bw_7 (List.mem_of_getElem? (i := 20) (by decide +kernel)) (by decide +kernel)
theorem wd_1461 : (Jvm.Cond.instanceMethod ({ cls := "SealHouseModel", name := "salt", desc := "(IIIII)I" } : Jvm.MethodName)) ∈ BW := bw_7 (List.mem_of_getElem? (i := 21) (by decide +kernel)) (by decide +kernel)
theorem wd_1462 : (Jvm.Cond.selects "SealHouseModel" ({ cls := "SealHouseModel", name := "salt", desc := "(IIIII)I" } : Jvm.MethodName) ({ cls := "SealHouseModel", name := "salt", desc := "(IIIII)I" } : Jvm.MethodName)) ∈ BW := bw_7 (List.mem_of_getElem? (i := 22) (by decide +kernel)) (by decide +kernel)
theorem wd_1463 : (Jvm.Cond.code ({ cls := "SealHouseModel", name := "salt", desc := "(IIIII)I" } : Jvm.MethodName) prog_9_method_76_code (12 : Nat) (Option.some Jvm.ClassFile.FieldType.int)) ∈ BW := bw_7 (List.mem_of_getElem? (i := 23) rfl) rfl
theorem wd_1464 : (Jvm.Cond.methodLink "SealHouseModel" (408 : Nat) ({ cls := "SealHouseModel", name := "salts", desc := "(II[III)V" } : Jvm.MethodName)) ∈ BW := bw_7 (List.mem_of_getElem? (i := 24) (by decide +kernel)) (by decide +kernel)
theorem wd_1466 : (Jvm.Cond.instanceMethod ({ cls := "SealHouseModel", name := "salts", desc := "(II[III)V" } : Jvm.MethodName)) ∈ BW := bw_7 (List.mem_of_getElem? (i := 26) (by decide +kernel)) (by decide +kernel)
theorem wd_1467 : (Jvm.Cond.code ({ cls := "SealHouseModel", name := "salts", desc := "(II[III)V" } : Jvm.MethodName) prog_9_method_75_code (8 : Nat) (Option.none : Option Jvm.ClassFile.FieldType)) ∈ BW := bw_7 (List.mem_of_getElem? (i := 27) rfl) rfl
theorem wd_1468 : (Jvm.Cond.methodLink "SealHouseModel" (405 : Nat) ({ cls := "SealHouseModel", name := "keepsDigest", desc := "(I)V" } : Jvm.MethodName)) ∈ BW := bw_7 (List.mem_of_getElem? (i := 28) (by decide +kernel)) (by decide +kernel)
theorem wd_1470 : (Jvm.Cond.instanceMethod ({ cls := "SealHouseModel", name := "keepsDigest", desc := "(I)V" } : Jvm.MethodName)) ∈ BW := bw_7 (List.mem_of_getElem? (i := 30) (by decide +kernel)) (by decide +kernel)
theorem wd_1471 : (Jvm.Cond.code ({ cls := "SealHouseModel", name := "keepsDigest", desc := "(I)V" } : Jvm.MethodName) prog_9_method_62_code (3 : Nat) (Option.none : Option Jvm.ClassFile.FieldType)) ∈ BW := bw_7 (List.mem_of_getElem? (i := 31) rfl) rfl
theorem wd_1472 : (Jvm.Cond.methodLink "SealHouseLaw" (191 : Nat) ({ cls := "SealHouseModel", name := "taste", desc := "(IIIII)I" } : Jvm.MethodName)) ∈ BW := bw_7 (List.mem_of_getElem? (i := 32) (by decide +kernel)) (by decide +kernel)
theorem wd_1473 : (Jvm.Cond.instanceMethod ({ cls := "SealHouseModel", name := "taste", desc := "(IIIII)I" } : Jvm.MethodName)) ∈ BW := bw_7 (List.mem_of_getElem? (i := 33) (by decide +kernel)) (by decide +kernel)
theorem wd_1474 : (Jvm.Cond.selects "SealHouseModel" ({ cls := "SealHouseModel", name := "taste", desc := "(IIIII)I" } : Jvm.MethodName) ({ cls := "SealHouseModel", name := "taste", desc := "(IIIII)I" } : Jvm.MethodName)) ∈ BW := bw_7 (List.mem_of_getElem? (i := 34) (by decide +kernel)) (by decide +kernel)
theorem wd_1475 : (Jvm.Cond.code ({ cls := "SealHouseModel", name := "taste", desc := "(IIIII)I" } : Jvm.MethodName) prog_9_method_77_code (13 : Nat) (Option.some Jvm.ClassFile.FieldType.int)) ∈ BW := bw_7 (List.mem_of_getElem? (i := 35) rfl) rfl
theorem wd_1476 : (Jvm.Cond.methodLink "SealHouseLaw" (195 : Nat) ({ cls := "SealHouseModel", name := "keys", desc := "()I" } : Jvm.MethodName)) ∈ BW := bw_7 (List.mem_of_getElem? (i := 36) (by decide +kernel)) (by decide +kernel)
theorem wd_1477 : (Jvm.Cond.instanceMethod ({ cls := "SealHouseModel", name := "keys", desc := "()I" } : Jvm.MethodName)) ∈ BW := bw_7 (List.mem_of_getElem? (i := 37) (by decide +kernel)) (by decide +kernel)
theorem wd_1478 : (Jvm.Cond.selects "SealHouseModel" ({ cls := "SealHouseModel", name := "keys", desc := "()I" } : Jvm.MethodName) ({ cls := "SealHouseModel", name := "keys", desc := "()I" } : Jvm.MethodName)) ∈ BW := bw_7 (List.mem_of_getElem? (i := 38) (by decide +kernel)) (by decide +kernel)
theorem wd_1479 : (Jvm.Cond.code ({ cls := "SealHouseModel", name := "keys", desc := "()I" } : Jvm.MethodName) prog_9_method_78_code (1 : Nat) (Option.some Jvm.ClassFile.FieldType.int)) ∈ BW := bw_7 (List.mem_of_getElem? (i := 39) rfl) rfl
def NWL : List Cond := [(Jvm.Cond.arrayOver (Jvm.ClassFile.FieldType.object "SealHouse$Row")), (Jvm.Cond.arrayOver (Jvm.ClassFile.FieldType.object "SealHouse$Key")), (Jvm.Cond.methodLinkNest "SealHouse" (34 : Nat) ({ cls := "SealHouse$Desk", name := "<init>", desc := "()V" } : Jvm.MethodName) "SealHouse"), (Jvm.Cond.methodLinkNest "SealHouse" (41 : Nat) ({ cls := "SealHouse$Digester", name := "<init>", desc := "()V" } : Jvm.MethodName) "SealHouse"), (Jvm.Cond.castable "java/lang/IndexOutOfBoundsException" "java/lang/IndexOutOfBoundsException"), (Jvm.Cond.declares ({ cls := "java/lang/RuntimeException", name := "<init>", desc := "()V" } : Jvm.MethodName)), (Jvm.Cond.declares ({ cls := "java/lang/RuntimeException", name := "<init>", desc := "(Ljava/lang/String;)V" } : Jvm.MethodName)), (Jvm.Cond.declares ({ cls := "java/lang/Exception", name := "<init>", desc := "()V" } : Jvm.MethodName)), (Jvm.Cond.declares ({ cls := "java/lang/Exception", name := "<init>", desc := "(Ljava/lang/String;)V" } : Jvm.MethodName)), (Jvm.Cond.declares ({ cls := "java/lang/Throwable", name := "<init>", desc := "()V" } : Jvm.MethodName)), (Jvm.Cond.declares ({ cls := "java/lang/Throwable", name := "<init>", desc := "(Ljava/lang/String;)V" } : Jvm.MethodName)), (Jvm.Cond.castable "java/lang/IllegalArgumentException" "java/lang/IllegalArgumentException"), (Jvm.Cond.arrayOver (Jvm.ClassFile.FieldType.object "SealHouse$Whole")), (Jvm.Cond.methodLinkNest "SealHouseModel" (9 : Nat) ({ cls := "SealHouseModel$Num", name := "<init>", desc := "()V" } : Jvm.MethodName) "SealHouseModel"), (Jvm.Cond.fieldLinkNest "SealHouseModel" (175 : Nat) "SealHouseModel$Num" "d" "[I" "SealHouseModel"), (Jvm.Cond.fieldLinkNest "SealHouseModel" (164 : Nat) "SealHouseModel$Num" "n" "I" "SealHouseModel"), (Jvm.Cond.methodLinkNest "SealHouseModel" (181 : Nat) ({ cls := "SealHouseModel$Num", name := "cut", desc := "()V" } : Jvm.MethodName) "SealHouseModel"), (Jvm.Cond.methodLinkNest "SealHouseModel" (211 : Nat) ({ cls := "SealHouseModel$Num", name := "add", desc := "(LSealHouseModel$Num;)V" } : Jvm.MethodName) "SealHouseModel"), (Jvm.Cond.methodLinkNest "SealHouseModel" (217 : Nat) ({ cls := "SealHouseModel$Num", name := "bytes", desc := "()I" } : Jvm.MethodName) "SealHouseModel"), (Jvm.Cond.methodLinkNest "SealHouseModel" (160 : Nat) ({ cls := "SealHouseModel$Num", name := "compare", desc := "(LSealHouseModel$Num;)I" } : Jvm.MethodName) "SealHouseModel"), (Jvm.Cond.methodLinkNest "SealHouseModel" (214 : Nat) ({ cls := "SealHouseModel$Num", name := "less", desc := "(LSealHouseModel$Num;)V" } : Jvm.MethodName) "SealHouseModel"), (Jvm.Cond.methodLinkNest "SealHouseModel" (184 : Nat) ({ cls := "SealHouseModel$Num", name := "product", desc := "(LSealHouseModel$Num;LSealHouseModel$Num;)V" } : Jvm.MethodName) "SealHouseModel"), (Jvm.Cond.methodLinkNest "SealHouseModel" (167 : Nat) ({ cls := "SealHouseModel$Num", name := "bits", desc := "()I" } : Jvm.MethodName) "SealHouseModel"), (Jvm.Cond.methodLinkNest "SealHouseModel" (192 : Nat) ({ cls := "SealHouseModel$Num", name := "take", desc := "(LSealHouseModel$Num;)V" } : Jvm.MethodName) "SealHouseModel"), (Jvm.Cond.methodLinkNest "SealHouseModel" (196 : Nat) ({ cls := "SealHouseModel$Num", name := "set", desc := "(I)V" } : Jvm.MethodName) "SealHouseModel"), (Jvm.Cond.methodLinkNest "SealHouseModel" (200 : Nat) ({ cls := "SealHouseModel$Num", name := "is", desc := "(I)Z" } : Jvm.MethodName) "SealHouseModel"), (Jvm.Cond.methodLinkNest "SealHouseModel" (208 : Nat) ({ cls := "SealHouseModel$Num", name := "bit", desc := "(I)Z" } : Jvm.MethodName) "SealHouseModel"), (Jvm.Cond.methodLinkNest "SealHouseModel" (224 : Nat) ({ cls := "SealHouseModel$Num", name := "isOdd", desc := "()Z" } : Jvm.MethodName) "SealHouseModel"), (Jvm.Cond.methodLinkNest "SealHouseModel" (228 : Nat) ({ cls := "SealHouseModel$Num", name := "half", desc := "()V" } : Jvm.MethodName) "SealHouseModel")]
theorem nw_0 : (Jvm.Cond.arrayOver (Jvm.ClassFile.FieldType.object "SealHouse$Row")) ∈ NWL := List.mem_of_getElem? (i := 0) rfl
theorem nw_1 : (Jvm.Cond.arrayOver (Jvm.ClassFile.FieldType.object "SealHouse$Key")) ∈ NWL := List.mem_of_getElem? (i := 1) rfl
theorem nw_2 : (Jvm.Cond.methodLinkNest "SealHouse" (34 : Nat) ({ cls := "SealHouse$Desk", name := "<init>", desc := "()V" } : Jvm.MethodName) "SealHouse") ∈ NWL := List.mem_of_getElem? (i := 2) rfl
theorem nw_3 : (Jvm.Cond.methodLinkNest "SealHouse" (41 : Nat) ({ cls := "SealHouse$Digester", name := "<init>", desc := "()V" } : Jvm.MethodName) "SealHouse") ∈ NWL := List.mem_of_getElem? (i := 3) rfl
theorem nw_4 : (Jvm.Cond.castable "java/lang/IndexOutOfBoundsException" "java/lang/IndexOutOfBoundsException") ∈ NWL := List.mem_of_getElem? (i := 4) rfl
theorem nw_5 : (Jvm.Cond.declares ({ cls := "java/lang/RuntimeException", name := "<init>", desc := "()V" } : Jvm.MethodName)) ∈ NWL := List.mem_of_getElem? (i := 5) rfl
theorem nw_6 : (Jvm.Cond.declares ({ cls := "java/lang/RuntimeException", name := "<init>", desc := "(Ljava/lang/String;)V" } : Jvm.MethodName)) ∈ NWL := List.mem_of_getElem? (i := 6) rfl
theorem nw_7 : (Jvm.Cond.declares ({ cls := "java/lang/Exception", name := "<init>", desc := "()V" } : Jvm.MethodName)) ∈ NWL := List.mem_of_getElem? (i := 7) rfl
theorem nw_8 : (Jvm.Cond.declares ({ cls := "java/lang/Exception", name := "<init>", desc := "(Ljava/lang/String;)V" } : Jvm.MethodName)) ∈ NWL := List.mem_of_getElem? (i := 8) rfl
theorem nw_9 : (Jvm.Cond.declares ({ cls := "java/lang/Throwable", name := "<init>", desc := "()V" } : Jvm.MethodName)) ∈ NWL := List.mem_of_getElem? (i := 9) rfl
theorem nw_10 : (Jvm.Cond.declares ({ cls := "java/lang/Throwable", name := "<init>", desc := "(Ljava/lang/String;)V" } : Jvm.MethodName)) ∈ NWL := List.mem_of_getElem? (i := 10) rfl
theorem nw_11 : (Jvm.Cond.castable "java/lang/IllegalArgumentException" "java/lang/IllegalArgumentException") ∈ NWL := List.mem_of_getElem? (i := 11) rfl
theorem nw_12 : (Jvm.Cond.arrayOver (Jvm.ClassFile.FieldType.object "SealHouse$Whole")) ∈ NWL := List.mem_of_getElem? (i := 12) rfl
theorem nw_13 : (Jvm.Cond.methodLinkNest "SealHouseModel" (9 : Nat) ({ cls := "SealHouseModel$Num", name := "<init>", desc := "()V" } : Jvm.MethodName) "SealHouseModel") ∈ NWL := List.mem_of_getElem? (i := 13) rfl
theorem nw_14 : (Jvm.Cond.fieldLinkNest "SealHouseModel" (175 : Nat) "SealHouseModel$Num" "d" "[I" "SealHouseModel") ∈ NWL := List.mem_of_getElem? (i := 14) rfl
theorem nw_15 : (Jvm.Cond.fieldLinkNest "SealHouseModel" (164 : Nat) "SealHouseModel$Num" "n" "I" "SealHouseModel") ∈ NWL := List.mem_of_getElem? (i := 15) rfl
theorem nw_16 : (Jvm.Cond.methodLinkNest "SealHouseModel" (181 : Nat) ({ cls := "SealHouseModel$Num", name := "cut", desc := "()V" } : Jvm.MethodName) "SealHouseModel") ∈ NWL := List.mem_of_getElem? (i := 16) rfl
theorem nw_17 : (Jvm.Cond.methodLinkNest "SealHouseModel" (211 : Nat) ({ cls := "SealHouseModel$Num", name := "add", desc := "(LSealHouseModel$Num;)V" } : Jvm.MethodName) "SealHouseModel") ∈ NWL := List.mem_of_getElem? (i := 17) rfl
theorem nw_18 : (Jvm.Cond.methodLinkNest "SealHouseModel" (217 : Nat) ({ cls := "SealHouseModel$Num", name := "bytes", desc := "()I" } : Jvm.MethodName) "SealHouseModel") ∈ NWL := List.mem_of_getElem? (i := 18) rfl
theorem nw_19 : (Jvm.Cond.methodLinkNest "SealHouseModel" (160 : Nat) ({ cls := "SealHouseModel$Num", name := "compare", desc := "(LSealHouseModel$Num;)I" } : Jvm.MethodName) "SealHouseModel") ∈ NWL := List.mem_of_getElem? (i := 19) rfl
theorem nw_20 : (Jvm.Cond.methodLinkNest "SealHouseModel" (214 : Nat) ({ cls := "SealHouseModel$Num", name := "less", desc := "(LSealHouseModel$Num;)V" } : Jvm.MethodName) "SealHouseModel") ∈ NWL := List.mem_of_getElem? (i := 20) rfl
theorem nw_21 : (Jvm.Cond.methodLinkNest "SealHouseModel" (184 : Nat) ({ cls := "SealHouseModel$Num", name := "product", desc := "(LSealHouseModel$Num;LSealHouseModel$Num;)V" } : Jvm.MethodName) "SealHouseModel") ∈ NWL := List.mem_of_getElem? (i := 21) rfl
theorem nw_22 : (Jvm.Cond.methodLinkNest "SealHouseModel" (167 : Nat) ({ cls := "SealHouseModel$Num", name := "bits", desc := "()I" } : Jvm.MethodName) "SealHouseModel") ∈ NWL := List.mem_of_getElem? (i := 22) rfl
theorem nw_23 : (Jvm.Cond.methodLinkNest "SealHouseModel" (192 : Nat) ({ cls := "SealHouseModel$Num", name := "take", desc := "(LSealHouseModel$Num;)V" } : Jvm.MethodName) "SealHouseModel") ∈ NWL := List.mem_of_getElem? (i := 23) rfl
theorem nw_24 : (Jvm.Cond.methodLinkNest "SealHouseModel" (196 : Nat) ({ cls := "SealHouseModel$Num", name := "set", desc := "(I)V" } : Jvm.MethodName) "SealHouseModel") ∈ NWL := List.mem_of_getElem? (i := 24) rfl
theorem nw_25 : (Jvm.Cond.methodLinkNest "SealHouseModel" (200 : Nat) ({ cls := "SealHouseModel$Num", name := "is", desc := "(I)Z" } : Jvm.MethodName) "SealHouseModel") ∈ NWL := List.mem_of_getElem? (i := 25) rfl
theorem nw_26 : (Jvm.Cond.methodLinkNest "SealHouseModel" (208 : Nat) ({ cls := "SealHouseModel$Num", name := "bit", desc := "(I)Z" } : Jvm.MethodName) "SealHouseModel") ∈ NWL := List.mem_of_getElem? (i := 26) rfl
theorem nw_27 : (Jvm.Cond.methodLinkNest "SealHouseModel" (224 : Nat) ({ cls := "SealHouseModel$Num", name := "isOdd", desc := "()Z" } : Jvm.MethodName) "SealHouseModel") ∈ NWL := List.mem_of_getElem? (i := 27) rfl
theorem nw_28 : (Jvm.Cond.methodLinkNest "SealHouseModel" (228 : Nat) ({ cls := "SealHouseModel$Num", name := "half", desc := "()V" } : Jvm.MethodName) "SealHouseModel") ∈ NWL := List.mem_of_getElem? (i := 28) rfl
theorem NWL_in : ∀ w ∈ NWL, w ∈ tables_1 := by decide +kernel
theorem wp_0 : Cond.selects "SealHouse" ⟨"SealHouse", "slotAt", "(I)LSealHouse$Row;"⟩ ⟨"SealHouse", "slotAt", "(I)LSealHouse$Row;"⟩ ∈ BW := bw_s (List.mem_of_getElem? (i := 0) (by decide +kernel)) (by decide +kernel)
theorem wp_1 : Cond.selects "java/lang/Throwable" ⟨"java/lang/Throwable", "fillInStackTrace", "(I)Ljava/lang/Throwable;"⟩ ⟨"java/lang/Throwable", "fillInStackTrace", "(I)Ljava/lang/Throwable;"⟩ ∈ BW := bw_s (List.mem_of_getElem? (i := 1) (by decide +kernel)) (by decide +kernel)
theorem wp_2 : Cond.selects "SealHouse" ⟨"SealHouse", "reckonPlain", "(I)I"⟩ ⟨"SealHouse", "reckonPlain", "(I)I"⟩ ∈ BW := bw_s (List.mem_of_getElem? (i := 2) (by decide +kernel)) (by decide +kernel)
theorem wp_3 : Cond.selects "SealHouse$Desk" ⟨"SealHouse$Desk", "setDivisor", "(LSealHouse$Whole;)V"⟩ ⟨"SealHouse$Desk", "setDivisor", "(LSealHouse$Whole;)V"⟩ ∈ BW := bw_s (List.mem_of_getElem? (i := 3) (by decide +kernel)) (by decide +kernel)
theorem wp_4 : Cond.selects "SealHouse$Desk" ⟨"SealHouse$Desk", "reduce", "(LSealHouse$Whole;)V"⟩ ⟨"SealHouse$Desk", "reduce", "(LSealHouse$Whole;)V"⟩ ∈ BW := bw_s (List.mem_of_getElem? (i := 4) (by decide +kernel)) (by decide +kernel)
theorem wp_5 : Cond.selects "SealHouse$Desk" ⟨"SealHouse$Desk", "guessDigit", "(LSealHouse$Whole;I)J"⟩ ⟨"SealHouse$Desk", "guessDigit", "(LSealHouse$Whole;I)J"⟩ ∈ BW := bw_s (List.mem_of_getElem? (i := 5) (by decide +kernel)) (by decide +kernel)
theorem wp_6 : Cond.selects "SealHouse$Desk" ⟨"SealHouse$Desk", "takeAway", "(LSealHouse$Whole;JI)Z"⟩ ⟨"SealHouse$Desk", "takeAway", "(LSealHouse$Whole;JI)Z"⟩ ∈ BW := bw_s (List.mem_of_getElem? (i := 6) (by decide +kernel)) (by decide +kernel)
theorem wp_7 : Cond.selects "SealHouse$Desk" ⟨"SealHouse$Desk", "putBack", "(LSealHouse$Whole;I)V"⟩ ⟨"SealHouse$Desk", "putBack", "(LSealHouse$Whole;I)V"⟩ ∈ BW := bw_s (List.mem_of_getElem? (i := 7) (by decide +kernel)) (by decide +kernel)
theorem wp_8 : Cond.selects "SealHouse" ⟨"SealHouse", "reckonDeep", "(I)I"⟩ ⟨"SealHouse", "reckonDeep", "(I)I"⟩ ∈ BW := bw_s (List.mem_of_getElem? (i := 8) (by decide +kernel)) (by decide +kernel)
theorem wp_9 : Cond.selects "SealHouse" ⟨"SealHouse", "putFewest", "(LSealHouse$Whole;LSealHouse$Row;)I"⟩ ⟨"SealHouse", "putFewest", "(LSealHouse$Whole;LSealHouse$Row;)I"⟩ ∈ BW := bw_s (List.mem_of_getElem? (i := 9) (by decide +kernel)) (by decide +kernel)
theorem wp_10 : Cond.selects "SealHouse$Desk" ⟨"SealHouse$Desk", "isWitnessed", "(LSealHouse$Whole;I)Z"⟩ ⟨"SealHouse$Desk", "isWitnessed", "(LSealHouse$Whole;I)Z"⟩ ∈ BW := bw_s (List.mem_of_getElem? (i := 10) (by decide +kernel)) (by decide +kernel)
theorem wp_11 : Cond.selects "SealHouse" ⟨"SealHouse", "checkHash", "(I)V"⟩ ⟨"SealHouse", "checkHash", "(I)V"⟩ ∈ BW := bw_s (List.mem_of_getElem? (i := 11) (by decide +kernel)) (by decide +kernel)
theorem wp_12 : Cond.selects "SealHouse$Digester" ⟨"SealHouse$Digester", "spreadBlock", "(LSealHouse$Row;IZ)V"⟩ ⟨"SealHouse$Digester", "spreadBlock", "(LSealHouse$Row;IZ)V"⟩ ∈ BW := bw_s (List.mem_of_getElem? (i := 12) (by decide +kernel)) (by decide +kernel)
theorem wp_13 : Cond.selects "SealHouse$Digester" ⟨"SealHouse$Digester", "mixBlock", "()V"⟩ ⟨"SealHouse$Digester", "mixBlock", "()V"⟩ ∈ BW := bw_s (List.mem_of_getElem? (i := 13) (by decide +kernel)) (by decide +kernel)
theorem wp_14 : Cond.selects "SealHouse$Digester" ⟨"SealHouse$Digester", "mixWord", "(I)V"⟩ ⟨"SealHouse$Digester", "mixWord", "(I)V"⟩ ∈ BW := bw_s (List.mem_of_getElem? (i := 14) (by decide +kernel)) (by decide +kernel)
theorem wp_15 : Cond.selects "SealHouse" ⟨"SealHouse", "refusalOfPrimes", "()I"⟩ ⟨"SealHouse", "refusalOfPrimes", "()I"⟩ ∈ BW := bw_s (List.mem_of_getElem? (i := 15) (by decide +kernel)) (by decide +kernel)
theorem wp_16 : Cond.selects "SealHouse" ⟨"SealHouse", "haveCommonDivisor", "(LSealHouse$Whole;LSealHouse$Whole;)Z"⟩ ⟨"SealHouse", "haveCommonDivisor", "(LSealHouse$Whole;LSealHouse$Whole;)Z"⟩ ∈ BW := bw_s (List.mem_of_getElem? (i := 16) (by decide +kernel)) (by decide +kernel)
theorem wp_17 : Cond.selects "SealHouse" ⟨"SealHouse", "refusalOfExponent", "()I"⟩ ⟨"SealHouse", "refusalOfExponent", "()I"⟩ ∈ BW := bw_s (List.mem_of_getElem? (i := 17) (by decide +kernel)) (by decide +kernel)
theorem wp_18 : Cond.selects "SealHouse" ⟨"SealHouse", "wholeKey", "()LSealHouse$Key;"⟩ ⟨"SealHouse", "wholeKey", "()LSealHouse$Key;"⟩ ∈ BW := bw_s (List.mem_of_getElem? (i := 18) (by decide +kernel)) (by decide +kernel)
theorem wp_19 : Cond.selects "SealHouse" ⟨"SealHouse", "keep", "(LSealHouse$Key;)I"⟩ ⟨"SealHouse", "keep", "(LSealHouse$Key;)I"⟩ ∈ BW := bw_s (List.mem_of_getElem? (i := 19) (by decide +kernel)) (by decide +kernel)
theorem wp_20 : Cond.selects "SealHouse" ⟨"SealHouse", "keyAt", "(I)LSealHouse$Key;"⟩ ⟨"SealHouse", "keyAt", "(I)LSealHouse$Key;"⟩ ∈ BW := bw_s (List.mem_of_getElem? (i := 20) (by decide +kernel)) (by decide +kernel)
theorem wp_21 : Cond.selects "SealHouse" ⟨"SealHouse", "turnRow", "(LSealHouse$Key;ILSealHouse$Row;)Z"⟩ ⟨"SealHouse", "turnRow", "(LSealHouse$Key;ILSealHouse$Row;)Z"⟩ ∈ BW := bw_s (List.mem_of_getElem? (i := 21) (by decide +kernel)) (by decide +kernel)
theorem wp_22 : Cond.selects "SealHouse" ⟨"SealHouse", "putTurned", "(LSealHouse$Key;ILSealHouse$Row;)I"⟩ ⟨"SealHouse", "putTurned", "(LSealHouse$Key;ILSealHouse$Row;)I"⟩ ∈ BW := bw_s (List.mem_of_getElem? (i := 22) (by decide +kernel)) (by decide +kernel)
theorem wp_23 : Cond.selects "SealHouse" ⟨"SealHouse", "turnWholeRow", "(LSealHouse$Key;ILSealHouse$Row;)Z"⟩ ⟨"SealHouse", "turnWholeRow", "(LSealHouse$Key;ILSealHouse$Row;)Z"⟩ ∈ BW := bw_s (List.mem_of_getElem? (i := 23) (by decide +kernel)) (by decide +kernel)
theorem wp_24 : Cond.selects "SealHouse$Padder" ⟨"SealHouse$Padder", "setProof", "(ILSealHouse$Row;LSealHouse$Row;)V"⟩ ⟨"SealHouse$Padder", "setProof", "(ILSealHouse$Row;LSealHouse$Row;)V"⟩ ∈ BW := bw_s (List.mem_of_getElem? (i := 24) (by decide +kernel)) (by decide +kernel)
theorem wp_25 : Cond.selects "SealHouseModel" ⟨"SealHouseModel", "are", "(III)Z"⟩ ⟨"SealHouseModel", "are", "(III)Z"⟩ ∈ BW := bw_s (List.mem_of_getElem? (i := 25) (by decide +kernel)) (by decide +kernel)
theorem wp_26 : Cond.selects "SealHouseModel" ⟨"SealHouseModel", "isSlot", "(I)Z"⟩ ⟨"SealHouseModel", "isSlot", "(I)Z"⟩ ∈ BW := bw_s (List.mem_of_getElem? (i := 26) (by decide +kernel)) (by decide +kernel)
theorem wp_27 : Cond.selects "SealHouseModel" ⟨"SealHouseModel", "bad", "(Z)Z"⟩ ⟨"SealHouseModel", "bad", "(Z)Z"⟩ ∈ BW := bw_s (List.mem_of_getElem? (i := 27) (by decide +kernel)) (by decide +kernel)
theorem wp_28 : Cond.selects "SealHouseModel" ⟨"SealHouseModel", "anew", "()V"⟩ ⟨"SealHouseModel", "anew", "()V"⟩ ∈ BW := bw_s (List.mem_of_getElem? (i := 28) (by decide +kernel)) (by decide +kernel)
theorem wp_29 : Cond.selects "SealHouseModel" ⟨"SealHouseModel", "puts", "(I)V"⟩ ⟨"SealHouseModel", "puts", "(I)V"⟩ ∈ BW := bw_s (List.mem_of_getElem? (i := 29) (by decide +kernel)) (by decide +kernel)
theorem wp_30 : Cond.selects "SealHouseModel" ⟨"SealHouseModel", "writes", "(I)I"⟩ ⟨"SealHouseModel", "writes", "(I)I"⟩ ∈ BW := bw_s (List.mem_of_getElem? (i := 30) (by decide +kernel)) (by decide +kernel)
theorem wp_31 : Cond.selects "SealHouseModel" ⟨"SealHouseModel", "putsSlot", "(I)V"⟩ ⟨"SealHouseModel", "putsSlot", "(I)V"⟩ ∈ BW := bw_s (List.mem_of_getElem? (i := 31) (by decide +kernel)) (by decide +kernel)
theorem wp_32 : Cond.selects "SealHouseModel" ⟨"SealHouseModel", "number", "(ILSealHouseModel$Num;)V"⟩ ⟨"SealHouseModel", "number", "(ILSealHouseModel$Num;)V"⟩ ∈ BW := bw_s (List.mem_of_getElem? (i := 32) (by decide +kernel)) (by decide +kernel)
theorem wp_33 : Cond.selects "SealHouseModel$Num" ⟨"SealHouseModel$Num", "cut", "()V"⟩ ⟨"SealHouseModel$Num", "cut", "()V"⟩ ∈ BW := bw_s (List.mem_of_getElem? (i := 33) (by decide +kernel)) (by decide +kernel)
theorem wp_34 : Cond.selects "SealHouseModel$Num" ⟨"SealHouseModel$Num", "add", "(LSealHouseModel$Num;)V"⟩ ⟨"SealHouseModel$Num", "add", "(LSealHouseModel$Num;)V"⟩ ∈ BW := bw_s (List.mem_of_getElem? (i := 34) (by decide +kernel)) (by decide +kernel)
theorem wp_35 : Cond.selects "SealHouseModel" ⟨"SealHouseModel", "writesNumber", "(LSealHouseModel$Num;I)I"⟩ ⟨"SealHouseModel", "writesNumber", "(LSealHouseModel$Num;I)I"⟩ ∈ BW := bw_s (List.mem_of_getElem? (i := 35) (by decide +kernel)) (by decide +kernel)
theorem wp_36 : Cond.selects "SealHouseModel$Num" ⟨"SealHouseModel$Num", "bytes", "()I"⟩ ⟨"SealHouseModel$Num", "bytes", "()I"⟩ ∈ BW := bw_s (List.mem_of_getElem? (i := 36) (by decide +kernel)) (by decide +kernel)
theorem wp_37 : Cond.selects "SealHouseModel$Num" ⟨"SealHouseModel$Num", "bits", "()I"⟩ ⟨"SealHouseModel$Num", "bits", "()I"⟩ ∈ BW := bw_s (List.mem_of_getElem? (i := 37) (by decide +kernel)) (by decide +kernel)
theorem wp_38 : Cond.selects "SealHouseModel" ⟨"SealHouseModel", "putsNumber", "(LSealHouseModel$Num;I)V"⟩ ⟨"SealHouseModel", "putsNumber", "(LSealHouseModel$Num;I)V"⟩ ∈ BW := bw_s (List.mem_of_getElem? (i := 38) (by decide +kernel)) (by decide +kernel)
theorem wp_39 : Cond.selects "SealHouseModel$Num" ⟨"SealHouseModel$Num", "compare", "(LSealHouseModel$Num;)I"⟩ ⟨"SealHouseModel$Num", "compare", "(LSealHouseModel$Num;)I"⟩ ∈ BW := bw_s (List.mem_of_getElem? (i := 39) (by decide +kernel)) (by decide +kernel)
theorem wp_40 : Cond.selects "SealHouseModel$Num" ⟨"SealHouseModel$Num", "less", "(LSealHouseModel$Num;)V"⟩ ⟨"SealHouseModel$Num", "less", "(LSealHouseModel$Num;)V"⟩ ∈ BW := bw_s (List.mem_of_getElem? (i := 40) (by decide +kernel)) (by decide +kernel)
theorem wp_41 : Cond.selects "SealHouseModel$Num" ⟨"SealHouseModel$Num", "product", "(LSealHouseModel$Num;LSealHouseModel$Num;)V"⟩ ⟨"SealHouseModel$Num", "product", "(LSealHouseModel$Num;LSealHouseModel$Num;)V"⟩ ∈ BW := bw_s (List.mem_of_getElem? (i := 41) (by decide +kernel)) (by decide +kernel)
theorem wp_42 : Cond.selects "SealHouseModel" ⟨"SealHouseModel", "divide", "(LSealHouseModel$Num;LSealHouseModel$Num;LSealHouseModel$Num;)V"⟩ ⟨"SealHouseModel", "divide", "(LSealHouseModel$Num;LSealHouseModel$Num;LSealHouseModel$Num;)V"⟩ ∈ BW := bw_s (List.mem_of_getElem? (i := 42) (by decide +kernel)) (by decide +kernel)
theorem wp_43 : Cond.selects "SealHouseModel" ⟨"SealHouseModel", "common", "(LSealHouseModel$Num;LSealHouseModel$Num;LSealHouseModel$Num;)V"⟩ ⟨"SealHouseModel", "common", "(LSealHouseModel$Num;LSealHouseModel$Num;LSealHouseModel$Num;)V"⟩ ∈ BW := bw_s (List.mem_of_getElem? (i := 43) (by decide +kernel)) (by decide +kernel)
theorem wp_44 : Cond.selects "SealHouseModel$Num" ⟨"SealHouseModel$Num", "take", "(LSealHouseModel$Num;)V"⟩ ⟨"SealHouseModel$Num", "take", "(LSealHouseModel$Num;)V"⟩ ∈ BW := bw_s (List.mem_of_getElem? (i := 44) (by decide +kernel)) (by decide +kernel)
theorem wp_45 : Cond.selects "SealHouseModel$Num" ⟨"SealHouseModel$Num", "set", "(I)V"⟩ ⟨"SealHouseModel$Num", "set", "(I)V"⟩ ∈ BW := bw_s (List.mem_of_getElem? (i := 45) (by decide +kernel)) (by decide +kernel)
theorem wp_46 : Cond.selects "SealHouseModel" ⟨"SealHouseModel", "multiple", "(LSealHouseModel$Num;LSealHouseModel$Num;LSealHouseModel$Num;)V"⟩ ⟨"SealHouseModel", "multiple", "(LSealHouseModel$Num;LSealHouseModel$Num;LSealHouseModel$Num;)V"⟩ ∈ BW := bw_s (List.mem_of_getElem? (i := 46) (by decide +kernel)) (by decide +kernel)
theorem wp_47 : Cond.selects "SealHouseModel" ⟨"SealHouseModel", "invert", "(LSealHouseModel$Num;LSealHouseModel$Num;LSealHouseModel$Num;)Z"⟩ ⟨"SealHouseModel", "invert", "(LSealHouseModel$Num;LSealHouseModel$Num;LSealHouseModel$Num;)Z"⟩ ∈ BW := bw_s (List.mem_of_getElem? (i := 47) (by decide +kernel)) (by decide +kernel)
theorem wp_48 : Cond.selects "SealHouseModel$Num" ⟨"SealHouseModel$Num", "is", "(I)Z"⟩ ⟨"SealHouseModel$Num", "is", "(I)Z"⟩ ∈ BW := bw_s (List.mem_of_getElem? (i := 48) (by decide +kernel)) (by decide +kernel)
theorem wp_49 : Cond.selects "SealHouseModel" ⟨"SealHouseModel", "powers", "(I)I"⟩ ⟨"SealHouseModel", "powers", "(I)I"⟩ ∈ BW := bw_s (List.mem_of_getElem? (i := 49) (by decide +kernel)) (by decide +kernel)
theorem wp_50 : Cond.selects "SealHouseModel" ⟨"SealHouseModel", "raise", "(LSealHouseModel$Num;LSealHouseModel$Num;LSealHouseModel$Num;LSealHouseModel$Num;)V"⟩ ⟨"SealHouseModel", "raise", "(LSealHouseModel$Num;LSealHouseModel$Num;LSealHouseModel$Num;LSealHouseModel$Num;)V"⟩ ∈ BW := bw_s (List.mem_of_getElem? (i := 50) (by decide +kernel)) (by decide +kernel)
theorem wp_51 : Cond.selects "SealHouseModel" ⟨"SealHouseModel", "times", "(LSealHouseModel$Num;LSealHouseModel$Num;LSealHouseModel$Num;LSealHouseModel$Num;)V"⟩ ⟨"SealHouseModel", "times", "(LSealHouseModel$Num;LSealHouseModel$Num;LSealHouseModel$Num;LSealHouseModel$Num;)V"⟩ ∈ BW := bw_s (List.mem_of_getElem? (i := 51) (by decide +kernel)) (by decide +kernel)
theorem wp_52 : Cond.selects "SealHouseModel$Num" ⟨"SealHouseModel$Num", "bit", "(I)Z"⟩ ⟨"SealHouseModel$Num", "bit", "(I)Z"⟩ ∈ BW := bw_s (List.mem_of_getElem? (i := 52) (by decide +kernel)) (by decide +kernel)
theorem wp_53 : Cond.selects "SealHouseModel" ⟨"SealHouseModel", "isProbable", "(LSealHouseModel$Num;)Z"⟩ ⟨"SealHouseModel", "isProbable", "(LSealHouseModel$Num;)Z"⟩ ∈ BW := bw_s (List.mem_of_getElem? (i := 53) (by decide +kernel)) (by decide +kernel)
theorem wp_54 : Cond.selects "SealHouseModel$Num" ⟨"SealHouseModel$Num", "isOdd", "()Z"⟩ ⟨"SealHouseModel$Num", "isOdd", "()Z"⟩ ∈ BW := bw_s (List.mem_of_getElem? (i := 54) (by decide +kernel)) (by decide +kernel)
theorem wp_55 : Cond.selects "SealHouseModel$Num" ⟨"SealHouseModel$Num", "half", "()V"⟩ ⟨"SealHouseModel$Num", "half", "()V"⟩ ∈ BW := bw_s (List.mem_of_getElem? (i := 55) (by decide +kernel)) (by decide +kernel)
theorem wp_56 : Cond.selects "SealHouseModel" ⟨"SealHouseModel", "isHash", "(I)Z"⟩ ⟨"SealHouseModel", "isHash", "(I)Z"⟩ ∈ BW := bw_s (List.mem_of_getElem? (i := 56) (by decide +kernel)) (by decide +kernel)
theorem wp_57 : Cond.selects "SealHouseModel" ⟨"SealHouseModel", "saysSlot", "(I)V"⟩ ⟨"SealHouseModel", "saysSlot", "(I)V"⟩ ∈ BW := bw_s (List.mem_of_getElem? (i := 57) (by decide +kernel)) (by decide +kernel)
theorem wp_58 : Cond.selects "SealHouseModel" ⟨"SealHouseModel", "says", "(I)V"⟩ ⟨"SealHouseModel", "says", "(I)V"⟩ ∈ BW := bw_s (List.mem_of_getElem? (i := 58) (by decide +kernel)) (by decide +kernel)
theorem wp_59 : Cond.selects "SealHouseModel" ⟨"SealHouseModel", "digests", "(I)V"⟩ ⟨"SealHouseModel", "digests", "(I)V"⟩ ∈ BW := bw_s (List.mem_of_getElem? (i := 59) (by decide +kernel)) (by decide +kernel)
theorem wp_60 : Cond.selects "SealHouseModel" ⟨"SealHouseModel", "constants", "()V"⟩ ⟨"SealHouseModel", "constants", "()V"⟩ ∈ BW := bw_s (List.mem_of_getElem? (i := 60) (by decide +kernel)) (by decide +kernel)
theorem wp_61 : Cond.selects "SealHouseModel" ⟨"SealHouseModel", "begins", "(II)I"⟩ ⟨"SealHouseModel", "begins", "(II)I"⟩ ∈ BW := bw_s (List.mem_of_getElem? (i := 61) (by decide +kernel)) (by decide +kernel)
theorem wp_62 : Cond.selects "SealHouseModel" ⟨"SealHouseModel", "block", "(I)V"⟩ ⟨"SealHouseModel", "block", "(I)V"⟩ ∈ BW := bw_s (List.mem_of_getElem? (i := 62) (by decide +kernel)) (by decide +kernel)
theorem wp_63 : Cond.selects "SealHouseModel" ⟨"SealHouseModel", "masks", "(I[IIII)V"⟩ ⟨"SealHouseModel", "masks", "(I[IIII)V"⟩ ∈ BW := bw_s (List.mem_of_getElem? (i := 63) (by decide +kernel)) (by decide +kernel)
theorem wp_64 : Cond.selects "SealHouseModel" ⟨"SealHouseModel", "isUnfit", "()Z"⟩ ⟨"SealHouseModel", "isUnfit", "()Z"⟩ ∈ BW := bw_s (List.mem_of_getElem? (i := 64) (by decide +kernel)) (by decide +kernel)
theorem wp_65 : Cond.selects "SealHouseModel" ⟨"SealHouseModel", "isRefused", "()Z"⟩ ⟨"SealHouseModel", "isRefused", "()Z"⟩ ∈ BW := bw_s (List.mem_of_getElem? (i := 65) (by decide +kernel)) (by decide +kernel)
theorem wp_66 : Cond.selects "SealHouseModel" ⟨"SealHouseModel", "keeps", "(ILSealHouseModel$Num;)V"⟩ ⟨"SealHouseModel", "keeps", "(ILSealHouseModel$Num;)V"⟩ ∈ BW := bw_s (List.mem_of_getElem? (i := 66) (by decide +kernel)) (by decide +kernel)
theorem wp_67 : Cond.selects "SealHouseModel" ⟨"SealHouseModel", "isKey", "(I)Z"⟩ ⟨"SealHouseModel", "isKey", "(I)Z"⟩ ∈ BW := bw_s (List.mem_of_getElem? (i := 67) (by decide +kernel)) (by decide +kernel)
theorem wp_68 : Cond.selects "SealHouseModel" ⟨"SealHouseModel", "kept", "(IILSealHouseModel$Num;)V"⟩ ⟨"SealHouseModel", "kept", "(IILSealHouseModel$Num;)V"⟩ ∈ BW := bw_s (List.mem_of_getElem? (i := 68) (by decide +kernel)) (by decide +kernel)
theorem wp_69 : Cond.selects "SealHouseModel" ⟨"SealHouseModel", "turns", "(IILSealHouseModel$Num;)V"⟩ ⟨"SealHouseModel", "turns", "(IILSealHouseModel$Num;)V"⟩ ∈ BW := bw_s (List.mem_of_getElem? (i := 69) (by decide +kernel)) (by decide +kernel)
theorem wp_70 : Cond.selects "SealHouseModel" ⟨"SealHouseModel", "lengthOf", "(I)I"⟩ ⟨"SealHouseModel", "lengthOf", "(I)I"⟩ ∈ BW := bw_s (List.mem_of_getElem? (i := 70) (by decide +kernel)) (by decide +kernel)
theorem wp_71 : Cond.selects "SealHouseModel" ⟨"SealHouseModel", "crosses", "(II)V"⟩ ⟨"SealHouseModel", "crosses", "(II)V"⟩ ∈ BW := bw_s (List.mem_of_getElem? (i := 71) (by decide +kernel)) (by decide +kernel)
theorem wp_72 : Cond.selects "SealHouseModel" ⟨"SealHouseModel", "padded", "(IIII)I"⟩ ⟨"SealHouseModel", "padded", "(IIII)I"⟩ ∈ BW := bw_s (List.mem_of_getElem? (i := 72) (by decide +kernel)) (by decide +kernel)
theorem wp_73 : Cond.selects "SealHouseModel" ⟨"SealHouseModel", "opened", "(III)Z"⟩ ⟨"SealHouseModel", "opened", "(III)Z"⟩ ∈ BW := bw_s (List.mem_of_getElem? (i := 73) (by decide +kernel)) (by decide +kernel)
theorem wp_74 : Cond.selects "SealHouseModel" ⟨"SealHouseModel", "shows", "(III)I"⟩ ⟨"SealHouseModel", "shows", "(III)I"⟩ ∈ BW := bw_s (List.mem_of_getElem? (i := 74) (by decide +kernel)) (by decide +kernel)
theorem wp_75 : Cond.selects "SealHouseModel" ⟨"SealHouseModel", "forms", "(III)V"⟩ ⟨"SealHouseModel", "forms", "(III)V"⟩ ∈ BW := bw_s (List.mem_of_getElem? (i := 75) (by decide +kernel)) (by decide +kernel)
theorem wp_76 : Cond.selects "SealHouseModel" ⟨"SealHouseModel", "salts", "(II[III)V"⟩ ⟨"SealHouseModel", "salts", "(II[III)V"⟩ ∈ BW := bw_s (List.mem_of_getElem? (i := 76) (by decide +kernel)) (by decide +kernel)
theorem wp_77 : Cond.selects "SealHouseModel" ⟨"SealHouseModel", "keepsDigest", "(I)V"⟩ ⟨"SealHouseModel", "keepsDigest", "(I)V"⟩ ∈ BW := bw_s (List.mem_of_getElem? (i := 77) (by decide +kernel)) (by decide +kernel)
