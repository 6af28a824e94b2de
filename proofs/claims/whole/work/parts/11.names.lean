/-! classes, methods, words (written by wip/whole/gen/gen_names.py) -/
abbrev rD : String := "SignedMill$Divider"
def tD : u_T := fun k => match k with
  | 0 => ("SignedMill$Divider", "quotient", "LSignedMill$Whole;", true)
  | 1 => ("SignedMill$Divider", "rest", "LSignedMill$Whole;", true)
  | _ => ("SignedMill$Divider", "scaled", "LSignedMill$Whole;", true)
def fD : Nat → FieldType := fun k => match k with
  | 0 => .object "SignedMill$Whole"
  | 1 => .object "SignedMill$Whole"
  | _ => .object "SignedMill$Whole"
theorem nmD : ∀ a, a < 3 → ∀ b, b < 3 → a ≠ b → (tD a).2.1 ≠ (tD b).2.1 := by decide +kernel
theorem tyD : ∀ k, k < 3 → parseFieldDescriptor (tD k).2.2.1 = some (fD k) := by decide +kernel
theorem inD : ∀ w ∈ u_ws rD tD 3, w ∈ lw_gd := by decide +kernel
abbrev rE : String := "SignedMill$Euclid"
def tE : u_T := fun k => match k with
  | 0 => ("SignedMill$Euclid", "x", "LSignedMill$Whole;", true)
  | 1 => ("SignedMill$Euclid", "factorX", "LSignedMill$Whole;", true)
  | 2 => ("SignedMill$Euclid", "isFactorBelow", "Z", false)
  | 3 => ("SignedMill$Euclid", "y", "LSignedMill$Whole;", true)
  | 4 => ("SignedMill$Euclid", "factorY", "LSignedMill$Whole;", true)
  | 5 => ("SignedMill$Euclid", "spare", "LSignedMill$Whole;", true)
  | 6 => ("SignedMill$Euclid", "divider", "LSignedMill$Divider;", true)
  | 7 => ("SignedMill$Euclid", "xx", "J", false)
  | 8 => ("SignedMill$Euclid", "xy", "J", false)
  | 9 => ("SignedMill$Euclid", "yx", "J", false)
  | _ => ("SignedMill$Euclid", "yy", "J", false)
def fE : Nat → FieldType := fun k => match k with
  | 0 => .object "SignedMill$Whole"
  | 1 => .object "SignedMill$Whole"
  | 2 => .boolean
  | 3 => .object "SignedMill$Whole"
  | 4 => .object "SignedMill$Whole"
  | 5 => .object "SignedMill$Whole"
  | 6 => .object "SignedMill$Divider"
  | 7 => .long
  | 8 => .long
  | 9 => .long
  | _ => .long
theorem nmE : ∀ a, a < 11 → ∀ b, b < 11 → a ≠ b → (tE a).2.1 ≠ (tE b).2.1 := by decide +kernel
theorem tyE : ∀ k, k < 11 → parseFieldDescriptor (tE k).2.2.1 = some (fE k) := by decide +kernel
theorem inE : ∀ w ∈ u_ws rE tE 11, w ∈ lw_gd := by decide +kernel
abbrev rW : String := "SignedMill$Whole"
def tW : u_T := fun k => match k with
  | 0 => ("SignedMill$Whole", "digits", "[J", false)
  | _ => ("SignedMill$Whole", "count", "I", false)
def fW : Nat → FieldType := fun k => match k with
  | 0 => .array .long
  | _ => .int
theorem nmW : ∀ a, a < 2 → ∀ b, b < 2 → a ≠ b → (tW a).2.1 ≠ (tW b).2.1 := by decide +kernel
theorem tyW : ∀ k, k < 2 → parseFieldDescriptor (tW k).2.2.1 = some (fW k) := by decide +kernel
theorem inW : ∀ w ∈ u_ws rW tW 2, w ∈ lw_gd := by decide +kernel
abbrev rM : String := "SignedMill"
def tM : u_T := fun k => match k with
  | 0 => ("SignedMill", "sizes", "[LSignedMill$Whole;", true)
  | 1 => ("SignedMill", "minus", "[Z", true)
  | 2 => ("SignedMill", "result", "LSignedMill$Whole;", true)
  | 3 => ("SignedMill", "other", "LSignedMill$Whole;", true)
  | 4 => ("SignedMill", "base", "LSignedMill$Whole;", true)
  | 5 => ("SignedMill", "divider", "LSignedMill$Divider;", true)
  | _ => ("SignedMill", "euclid", "LSignedMill$Euclid;", true)
def fM : Nat → FieldType := fun k => match k with
  | 0 => .array (.object "SignedMill$Whole")
  | 1 => .array .boolean
  | 2 => .object "SignedMill$Whole"
  | 3 => .object "SignedMill$Whole"
  | 4 => .object "SignedMill$Whole"
  | 5 => .object "SignedMill$Divider"
  | _ => .object "SignedMill$Euclid"
theorem nmM : ∀ a, a < 7 → ∀ b, b < 7 → a ≠ b → (tM a).2.1 ≠ (tM b).2.1 := by decide +kernel
theorem tyM : ∀ k, k < 7 → parseFieldDescriptor (tM k).2.2.1 = some (fM k) := by decide +kernel
theorem inM : ∀ w ∈ u_ws rM tM 7, w ∈ lw_gd := by decide +kernel
abbrev rR : String := "SignedMillModel"
def tR : u_T := fun k => match k with
  | 0 => ("SignedMillModel", "m", "[I", true)
  | 1 => ("SignedMillModel", "n", "[I", true)
  | _ => ("SignedMillModel", "below", "[Z", true)
def fR : Nat → FieldType := fun k => match k with
  | 0 => .array .int
  | 1 => .array .int
  | _ => .array .boolean
theorem nmR : ∀ a, a < 3 → ∀ b, b < 3 → a ≠ b → (tR a).2.1 ≠ (tR b).2.1 := by decide +kernel
theorem tyR : ∀ k, k < 3 → parseFieldDescriptor (tR k).2.2.1 = some (fR k) := by decide +kernel
theorem inR : ∀ w ∈ u_ws rR tR 3, w ∈ lw_gd := by decide +kernel
/-- the classes: D 0, E 1, W 2, M 3, R 4 -/
abbrev vcl : List vw_C := [(rD, tD, 3), (rE, tE, 11), (rW, tW, 2), (rM, tM, 7), (rR, tR, 3)]
abbrev bc_M_init : ByteArray := prog_1_method_1_code
abbrev my_M_init : MethodName := ⟨"SignedMill", "<init>", "()V"⟩
abbrev bc_W_init : ByteArray := prog_4_method_1_code
abbrev my_W_init : MethodName := ⟨"SignedMill$Whole", "<init>", "()V"⟩
abbrev bc_D_init : ByteArray := prog_2_method_1_code
abbrev my_D_init : MethodName := ⟨"SignedMill$Divider", "<init>", "()V"⟩
abbrev bc_E_init : ByteArray := prog_3_method_1_code
abbrev my_E_init : MethodName := ⟨"SignedMill$Euclid", "<init>", "()V"⟩
abbrev bc_M_put : ByteArray := prog_1_method_2_code
abbrev my_M_put : MethodName := ⟨"SignedMill", "put", "(IJ)Z"⟩
abbrev bc_M_isRegister : ByteArray := prog_1_method_23_code
abbrev my_M_isRegister : MethodName := ⟨"SignedMill", "isRegister", "(I)Z"⟩
abbrev bc_W_load : ByteArray := prog_4_method_6_code
abbrev my_W_load : MethodName := ⟨"SignedMill$Whole", "load", "(J)V"⟩
abbrev bc_W_trim : ByteArray := prog_4_method_4_code
abbrev my_W_trim : MethodName := ⟨"SignedMill$Whole", "trim", "(I)V"⟩
abbrev bc_M_keep : ByteArray := prog_1_method_26_code
abbrev my_M_keep : MethodName := ⟨"SignedMill", "keep", "(IZ)Z"⟩
abbrev bc_W_bits : ByteArray := prog_4_method_13_code
abbrev my_W_bits : MethodName := ⟨"SignedMill$Whole", "bits", "()I"⟩
abbrev bc_JL_numberOfLeadingZeros : ByteArray := prog_9_method_48_code
abbrev my_JL_numberOfLeadingZeros : MethodName := ⟨"java/lang/Long", "numberOfLeadingZeros", "(J)I"⟩
abbrev bc_JI_numberOfLeadingZeros : ByteArray := prog_8_method_47_code
abbrev my_JI_numberOfLeadingZeros : MethodName := ⟨"java/lang/Integer", "numberOfLeadingZeros", "(I)I"⟩
abbrev bc_M_settle : ByteArray := prog_1_method_27_code
abbrev my_M_settle : MethodName := ⟨"SignedMill", "settle", "(ILSignedMill$Whole;Z)V"⟩
abbrev bc_W_copy : ByteArray := prog_4_method_8_code
abbrev my_W_copy : MethodName := ⟨"SignedMill$Whole", "copy", "(LSignedMill$Whole;)V"⟩
abbrev bc_W_room : ByteArray := prog_4_method_2_code
abbrev my_W_room : MethodName := ⟨"SignedMill$Whole", "room", "(I)V"⟩
abbrev bc_JM_max_II : ByteArray := prog_10_method_65_code
abbrev my_JM_max_II : MethodName := ⟨"java/lang/Math", "max", "(II)I"⟩
abbrev bc_JA_copyOf : ByteArray := prog_12_method_124_code
abbrev my_JA_copyOf : MethodName := ⟨"java/util/Arrays", "copyOf", "([JI)[J"⟩
abbrev bc_JM_min : ByteArray := prog_10_method_69_code
abbrev my_JM_min : MethodName := ⟨"java/lang/Math", "min", "(II)I"⟩
abbrev bc_W_isZero : ByteArray := prog_4_method_9_code
abbrev my_W_isZero : MethodName := ⟨"SignedMill$Whole", "isZero", "()Z"⟩
abbrev bc_M_push : ByteArray := prog_1_method_3_code
abbrev my_M_push : MethodName := ⟨"SignedMill", "push", "(IJ)Z"⟩
abbrev bc_W_raise : ByteArray := prog_4_method_22_code
abbrev my_W_raise : MethodName := ⟨"SignedMill$Whole", "raise", "(LSignedMill$Whole;I)V"⟩
abbrev bc_W_sum : ByteArray := prog_4_method_18_code
abbrev my_W_sum : MethodName := ⟨"SignedMill$Whole", "sum", "(LSignedMill$Whole;LSignedMill$Whole;)V"⟩
abbrev bc_M_spread : ByteArray := prog_1_method_4_code
abbrev my_M_spread : MethodName := ⟨"SignedMill", "spread", "(IJI)Z"⟩
abbrev bc_W_repeat : ByteArray := prog_4_method_7_code
abbrev my_W_repeat : MethodName := ⟨"SignedMill$Whole", "repeat", "(JI)V"⟩
abbrev bc_M_negate : ByteArray := prog_1_method_5_code
abbrev my_M_negate : MethodName := ⟨"SignedMill", "negate", "(II)Z"⟩
abbrev bc_M_areRegisters : ByteArray := prog_1_method_24_code
abbrev my_M_areRegisters : MethodName := ⟨"SignedMill", "areRegisters", "(II)Z"⟩
abbrev bc_M_add : ByteArray := prog_1_method_6_code
abbrev my_M_add : MethodName := ⟨"SignedMill", "add", "(III)Z"⟩
abbrev bc_M_keepSum : ByteArray := prog_1_method_28_code
abbrev my_M_keepSum : MethodName := ⟨"SignedMill", "keepSum", "(IILSignedMill$Whole;Z)Z"⟩
abbrev bc_W_against : ByteArray := prog_4_method_17_code
abbrev my_W_against : MethodName := ⟨"SignedMill$Whole", "against", "(LSignedMill$Whole;)I"⟩
abbrev bc_W_difference : ByteArray := prog_4_method_19_code
abbrev my_W_difference : MethodName := ⟨"SignedMill$Whole", "difference", "(LSignedMill$Whole;LSignedMill$Whole;)V"⟩
abbrev bc_M_take : ByteArray := prog_1_method_7_code
abbrev my_M_take : MethodName := ⟨"SignedMill", "take", "(III)Z"⟩
abbrev bc_M_times : ByteArray := prog_1_method_8_code
abbrev my_M_times : MethodName := ⟨"SignedMill", "times", "(III)Z"⟩
abbrev bc_M_isProductTooLong : ByteArray := prog_1_method_29_code
abbrev my_M_isProductTooLong : MethodName := ⟨"SignedMill", "isProductTooLong", "(LSignedMill$Whole;LSignedMill$Whole;)Z"⟩
abbrev bc_W_product : ByteArray := prog_4_method_20_code
abbrev my_W_product : MethodName := ⟨"SignedMill$Whole", "product", "(LSignedMill$Whole;LSignedMill$Whole;)V"⟩
abbrev bc_W_clear : ByteArray := prog_4_method_5_code
abbrev my_W_clear : MethodName := ⟨"SignedMill$Whole", "clear", "()V"⟩
abbrev bc_W_widen : ByteArray := prog_4_method_3_code
abbrev my_W_widen : MethodName := ⟨"SignedMill$Whole", "widen", "(I)V"⟩
abbrev bc_W_addMultiple : ByteArray := prog_4_method_21_code
abbrev my_W_addMultiple : MethodName := ⟨"SignedMill$Whole", "addMultiple", "(IJLSignedMill$Whole;)V"⟩
abbrev bc_M_divide : ByteArray := prog_1_method_9_code
abbrev my_M_divide : MethodName := ⟨"SignedMill", "divide", "(IIIIZ)Z"⟩
abbrev bc_D_run : ByteArray := prog_2_method_2_code
abbrev my_D_run : MethodName := ⟨"SignedMill$Divider", "run", "(LSignedMill$Whole;LSignedMill$Whole;)V"⟩
abbrev bc_D_takeOut : ByteArray := prog_2_method_3_code
abbrev my_D_takeOut : MethodName := ⟨"SignedMill$Divider", "takeOut", "(II)J"⟩
abbrev bc_D_guess : ByteArray := prog_2_method_4_code
abbrev my_D_guess : MethodName := ⟨"SignedMill$Divider", "guess", "(II)J"⟩
abbrev bc_D_quotientOfPair : ByteArray := prog_2_method_5_code
abbrev my_D_quotientOfPair : MethodName := ⟨"SignedMill$Divider", "quotientOfPair", "(JJ)J"⟩
abbrev bc_JL_compareUnsigned : ByteArray := prog_9_method_43_code
abbrev my_JL_compareUnsigned : MethodName := ⟨"java/lang/Long", "compareUnsigned", "(JJ)I"⟩
abbrev bc_JL_compare : ByteArray := prog_9_method_42_code
abbrev my_JL_compare : MethodName := ⟨"java/lang/Long", "compare", "(JJ)I"⟩
abbrev bc_D_subtract : ByteArray := prog_2_method_6_code
abbrev my_D_subtract : MethodName := ⟨"SignedMill$Divider", "subtract", "(IIJ)Z"⟩
abbrev bc_D_addBack : ByteArray := prog_2_method_7_code
abbrev my_D_addBack : MethodName := ⟨"SignedMill$Divider", "addBack", "(II)V"⟩
abbrev bc_W_lower : ByteArray := prog_4_method_23_code
abbrev my_W_lower : MethodName := ⟨"SignedMill$Whole", "lower", "(LSignedMill$Whole;I)V"⟩
abbrev bc_M_logic : ByteArray := prog_1_method_10_code
abbrev my_M_logic : MethodName := ⟨"SignedMill", "logic", "(IIII)Z"⟩
abbrev bc_W_firstDigit : ByteArray := prog_4_method_14_code
abbrev my_W_firstDigit : MethodName := ⟨"SignedMill$Whole", "firstDigit", "()I"⟩
abbrev bc_M_endlessDigit : ByteArray := prog_1_method_30_code
abbrev my_M_endlessDigit : MethodName := ⟨"SignedMill", "endlessDigit", "(III)J"⟩
abbrev bc_W_digitAt : ByteArray := prog_4_method_10_code
abbrev my_W_digitAt : MethodName := ⟨"SignedMill$Whole", "digitAt", "(I)J"⟩
abbrev bc_M_join : ByteArray := prog_1_method_31_code
abbrev my_M_join : MethodName := ⟨"SignedMill", "join", "(JJI)J"⟩
abbrev bc_W_turnOver : ByteArray := prog_4_method_24_code
abbrev my_W_turnOver : MethodName := ⟨"SignedMill$Whole", "turnOver", "(I)V"⟩
abbrev bc_M_shift : ByteArray := prog_1_method_11_code
abbrev my_M_shift : MethodName := ⟨"SignedMill", "shift", "(III)Z"⟩
abbrev bc_M_shiftUp : ByteArray := prog_1_method_32_code
abbrev my_M_shiftUp : MethodName := ⟨"SignedMill", "shiftUp", "(III)Z"⟩
abbrev bc_M_shiftDown : ByteArray := prog_1_method_33_code
abbrev my_M_shiftDown : MethodName := ⟨"SignedMill", "shiftDown", "(III)Z"⟩
abbrev bc_W_lowestOne : ByteArray := prog_4_method_15_code
abbrev my_W_lowestOne : MethodName := ⟨"SignedMill$Whole", "lowestOne", "()I"⟩
abbrev bc_JL_numberOfTrailingZeros : ByteArray := prog_9_method_49_code
abbrev my_JL_numberOfTrailingZeros : MethodName := ⟨"java/lang/Long", "numberOfTrailingZeros", "(J)I"⟩
abbrev bc_JI_numberOfTrailingZeros : ByteArray := prog_8_method_48_code
abbrev my_JI_numberOfTrailingZeros : MethodName := ⟨"java/lang/Integer", "numberOfTrailingZeros", "(I)I"⟩
abbrev bc_M_change : ByteArray := prog_1_method_12_code
abbrev my_M_change : MethodName := ⟨"SignedMill", "change", "(IIII)Z"⟩
abbrev bc_M_power : ByteArray := prog_1_method_13_code
abbrev my_M_power : MethodName := ⟨"SignedMill", "power", "(III)Z"⟩
abbrev bc_M_findPower : ByteArray := prog_1_method_34_code
abbrev my_M_findPower : MethodName := ⟨"SignedMill", "findPower", "(LSignedMill$Whole;I)Z"⟩
abbrev bc_M_multiplyResult : ByteArray := prog_1_method_35_code
abbrev my_M_multiplyResult : MethodName := ⟨"SignedMill", "multiplyResult", "(LSignedMill$Whole;)Z"⟩
abbrev bc_M_common : ByteArray := prog_1_method_14_code
abbrev my_M_common : MethodName := ⟨"SignedMill", "common", "(III)Z"⟩
abbrev bc_E_run : ByteArray := prog_3_method_2_code
abbrev my_E_run : MethodName := ⟨"SignedMill$Euclid", "run", "(LSignedMill$Whole;LSignedMill$Whole;Z)V"⟩
abbrev bc_E_foresee : ByteArray := prog_3_method_3_code
abbrev my_E_foresee : MethodName := ⟨"SignedMill$Euclid", "foresee", "()Z"⟩
abbrev bc_W_bitsFrom : ByteArray := prog_4_method_12_code
abbrev my_W_bitsFrom : MethodName := ⟨"SignedMill$Whole", "bitsFrom", "(I)J"⟩
abbrev bc_E_turn : ByteArray := prog_3_method_4_code
abbrev my_E_turn : MethodName := ⟨"SignedMill$Euclid", "turn", "(J)Z"⟩
abbrev bc_JM_abs : ByteArray := prog_10_method_61_code
abbrev my_JM_abs : MethodName := ⟨"java/lang/Math", "abs", "(J)J"⟩
abbrev bc_JM_max_JJ : ByteArray := prog_10_method_66_code
abbrev my_JM_max_JJ : MethodName := ⟨"java/lang/Math", "max", "(JJ)J"⟩
abbrev bc_E_leap : ByteArray := prog_3_method_5_code
abbrev my_E_leap : MethodName := ⟨"SignedMill$Euclid", "leap", "(Z)V"⟩
abbrev bc_E_leapRemainders : ByteArray := prog_3_method_6_code
abbrev my_E_leapRemainders : MethodName := ⟨"SignedMill$Euclid", "leapRemainders", "()V"⟩
abbrev bc_E_multiply : ByteArray := prog_3_method_8_code
abbrev my_E_multiply : MethodName := ⟨"SignedMill$Euclid", "multiply", "([J[JIJJJJ)V"⟩
abbrev bc_E_leapFactors : ByteArray := prog_3_method_7_code
abbrev my_E_leapFactors : MethodName := ⟨"SignedMill$Euclid", "leapFactors", "()V"⟩
abbrev bc_E_step : ByteArray := prog_3_method_9_code
abbrev my_E_step : MethodName := ⟨"SignedMill$Euclid", "step", "(Z)V"⟩
abbrev bc_M_inverse : ByteArray := prog_1_method_15_code
abbrev my_M_inverse : MethodName := ⟨"SignedMill", "inverse", "(III)Z"⟩
abbrev bc_M_isModulus : ByteArray := prog_1_method_25_code
abbrev my_M_isModulus : MethodName := ⟨"SignedMill", "isModulus", "(I)Z"⟩
abbrev bc_M_findInverse : ByteArray := prog_1_method_37_code
abbrev my_M_findInverse : MethodName := ⟨"SignedMill", "findInverse", "(II)Z"⟩
abbrev bc_M_reduce : ByteArray := prog_1_method_36_code
abbrev my_M_reduce : MethodName := ⟨"SignedMill", "reduce", "(II)V"⟩
abbrev bc_M_modulo : ByteArray := prog_1_method_16_code
abbrev my_M_modulo : MethodName := ⟨"SignedMill", "modulo", "(IIII)Z"⟩
abbrev bc_M_findPowerByModulus : ByteArray := prog_1_method_38_code
abbrev my_M_findPowerByModulus : MethodName := ⟨"SignedMill", "findPowerByModulus", "(LSignedMill$Whole;LSignedMill$Whole;)V"⟩
abbrev bc_M_multiplyByModulus : ByteArray := prog_1_method_39_code
abbrev my_M_multiplyByModulus : MethodName := ⟨"SignedMill", "multiplyByModulus", "(LSignedMill$Whole;LSignedMill$Whole;)V"⟩
abbrev bc_W_isOne : ByteArray := prog_4_method_11_code
abbrev my_W_isOne : MethodName := ⟨"SignedMill$Whole", "isOne", "(I)Z"⟩
abbrev bc_M_compare : ByteArray := prog_1_method_17_code
abbrev my_M_compare : MethodName := ⟨"SignedMill", "compare", "(II)I"⟩
abbrev bc_M_sign : ByteArray := prog_1_method_18_code
abbrev my_M_sign : MethodName := ⟨"SignedMill", "sign", "(I)I"⟩
abbrev bc_M_length : ByteArray := prog_1_method_19_code
abbrev my_M_length : MethodName := ⟨"SignedMill", "length", "(I)I"⟩
abbrev bc_M_ones : ByteArray := prog_1_method_20_code
abbrev my_M_ones : MethodName := ⟨"SignedMill", "ones", "(I)I"⟩
abbrev bc_W_countOnes : ByteArray := prog_4_method_16_code
abbrev my_W_countOnes : MethodName := ⟨"SignedMill$Whole", "countOnes", "()I"⟩
abbrev bc_JL_bitCount : ByteArray := prog_9_method_50_code
abbrev my_JL_bitCount : MethodName := ⟨"java/lang/Long", "bitCount", "(J)I"⟩
abbrev bc_M_lowest : ByteArray := prog_1_method_21_code
abbrev my_M_lowest : MethodName := ⟨"SignedMill", "lowest", "(I)I"⟩
abbrev bc_M_word : ByteArray := prog_1_method_22_code
abbrev my_M_word : MethodName := ⟨"SignedMill", "word", "(II)I"⟩
abbrev bc_R_init : ByteArray := prog_6_method_1_code
abbrev my_R_init : MethodName := ⟨"SignedMillModel", "<init>", "()V"⟩
abbrev bc_R_put : ByteArray := prog_6_method_21_code
abbrev my_R_put : MethodName := ⟨"SignedMillModel", "put", "(IJ)Z"⟩
abbrev bc_R_is : ByteArray := prog_6_method_2_code
abbrev my_R_is : MethodName := ⟨"SignedMillModel", "is", "(I)Z"⟩
abbrev bc_R_set : ByteArray := prog_6_method_7_code
abbrev my_R_set : MethodName := ⟨"SignedMillModel", "set", "(IJ)V"⟩
abbrev bc_R_at : ByteArray := prog_6_method_3_code
abbrev my_R_at : MethodName := ⟨"SignedMillModel", "at", "(I)I"⟩
abbrev bc_R_trim : ByteArray := prog_6_method_4_code
abbrev my_R_trim : MethodName := ⟨"SignedMillModel", "trim", "(II)V"⟩
abbrev bc_R_store : ByteArray := prog_6_method_20_code
abbrev my_R_store : MethodName := ⟨"SignedMillModel", "store", "(IIZ)Z"⟩
abbrev bc_R_move : ByteArray := prog_6_method_5_code
abbrev my_R_move : MethodName := ⟨"SignedMillModel", "move", "(II)V"⟩
abbrev bc_R_push : ByteArray := prog_6_method_22_code
abbrev my_R_push : MethodName := ⟨"SignedMillModel", "push", "(IJ)Z"⟩
abbrev bc_R_spread : ByteArray := prog_6_method_23_code
abbrev my_R_spread : MethodName := ⟨"SignedMillModel", "spread", "(IJI)Z"⟩
abbrev bc_R_negate : ByteArray := prog_6_method_24_code
abbrev my_R_negate : MethodName := ⟨"SignedMillModel", "negate", "(II)Z"⟩
abbrev bc_R_add : ByteArray := prog_6_method_26_code
abbrev my_R_add : MethodName := ⟨"SignedMillModel", "add", "(III)Z"⟩
abbrev bc_R_added : ByteArray := prog_6_method_25_code
abbrev my_R_added : MethodName := ⟨"SignedMillModel", "added", "(IIZIZ)Z"⟩
abbrev bc_R_compareRows : ByteArray := prog_6_method_8_code
abbrev my_R_compareRows : MethodName := ⟨"SignedMillModel", "compareRows", "(II)I"⟩
abbrev bc_R_sum : ByteArray := prog_6_method_9_code
abbrev my_R_sum : MethodName := ⟨"SignedMillModel", "sum", "(III)V"⟩
abbrev bc_R_digit : ByteArray := prog_6_method_6_code
abbrev my_R_digit : MethodName := ⟨"SignedMillModel", "digit", "(II)I"⟩
abbrev bc_R_lessen : ByteArray := prog_6_method_10_code
abbrev my_R_lessen : MethodName := ⟨"SignedMillModel", "lessen", "(III)V"⟩
abbrev bc_R_take : ByteArray := prog_6_method_27_code
abbrev my_R_take : MethodName := ⟨"SignedMillModel", "take", "(III)Z"⟩
abbrev bc_R_times : ByteArray := prog_6_method_28_code
abbrev my_R_times : MethodName := ⟨"SignedMillModel", "times", "(III)Z"⟩
abbrev bc_R_product : ByteArray := prog_6_method_11_code
abbrev my_R_product : MethodName := ⟨"SignedMillModel", "product", "(III)V"⟩
abbrev bc_R_divide : ByteArray := prog_6_method_29_code
abbrev my_R_divide : MethodName := ⟨"SignedMillModel", "divide", "(IIIIZ)Z"⟩
abbrev bc_R_quotient : ByteArray := prog_6_method_17_code
abbrev my_R_quotient : MethodName := ⟨"SignedMillModel", "quotient", "(IIII)V"⟩
abbrev bc_R_bitsOf : ByteArray := prog_6_method_12_code
abbrev my_R_bitsOf : MethodName := ⟨"SignedMillModel", "bitsOf", "(I)I"⟩
abbrev bc_R_lower : ByteArray := prog_6_method_15_code
abbrev my_R_lower : MethodName := ⟨"SignedMillModel", "lower", "(IIJ)V"⟩
abbrev bc_R_bitOf : ByteArray := prog_6_method_13_code
abbrev my_R_bitOf : MethodName := ⟨"SignedMillModel", "bitOf", "(II)I"⟩
abbrev bc_R_twice : ByteArray := prog_6_method_14_code
abbrev my_R_twice : MethodName := ⟨"SignedMillModel", "twice", "(II)V"⟩
abbrev bc_R_logic : ByteArray := prog_6_method_33_code
abbrev my_R_logic : MethodName := ⟨"SignedMillModel", "logic", "(IIII)Z"⟩
abbrev bc_R_lowestDigit : ByteArray := prog_6_method_31_code
abbrev my_R_lowestDigit : MethodName := ⟨"SignedMillModel", "lowestDigit", "(I)I"⟩
abbrev bc_R_joined : ByteArray := prog_6_method_32_code
abbrev my_R_joined : MethodName := ⟨"SignedMillModel", "joined", "(III)I"⟩
abbrev bc_R_bitsDigit : ByteArray := prog_6_method_30_code
abbrev my_R_bitsDigit : MethodName := ⟨"SignedMillModel", "bitsDigit", "(III)I"⟩
abbrev bc_R_shift : ByteArray := prog_6_method_34_code
abbrev my_R_shift : MethodName := ⟨"SignedMillModel", "shift", "(III)Z"⟩
abbrev bc_R_raise : ByteArray := prog_6_method_16_code
abbrev my_R_raise : MethodName := ⟨"SignedMillModel", "raise", "(III)V"⟩
abbrev bc_R_change : ByteArray := prog_6_method_36_code
abbrev my_R_change : MethodName := ⟨"SignedMillModel", "change", "(IIII)Z"⟩
abbrev bc_R_bitAt : ByteArray := prog_6_method_35_code
abbrev my_R_bitAt : MethodName := ⟨"SignedMillModel", "bitAt", "(II)I"⟩
abbrev bc_R_power : ByteArray := prog_6_method_37_code
abbrev my_R_power : MethodName := ⟨"SignedMillModel", "power", "(III)Z"⟩
abbrev bc_R_common : ByteArray := prog_6_method_38_code
abbrev my_R_common : MethodName := ⟨"SignedMillModel", "common", "(III)Z"⟩
abbrev bc_R_inverse : ByteArray := prog_6_method_41_code
abbrev my_R_inverse : MethodName := ⟨"SignedMillModel", "inverse", "(III)Z"⟩
abbrev bc_R_inverted : ByteArray := prog_6_method_39_code
abbrev my_R_inverted : MethodName := ⟨"SignedMillModel", "inverted", "(I)Z"⟩
abbrev bc_R_residue : ByteArray := prog_6_method_40_code
abbrev my_R_residue : MethodName := ⟨"SignedMillModel", "residue", "(II)V"⟩
abbrev bc_R_rest : ByteArray := prog_6_method_18_code
abbrev my_R_rest : MethodName := ⟨"SignedMillModel", "rest", "(III)V"⟩
abbrev bc_R_takeTimes : ByteArray := prog_6_method_19_code
abbrev my_R_takeTimes : MethodName := ⟨"SignedMillModel", "takeTimes", "(IIJ)V"⟩
abbrev bc_R_modulo : ByteArray := prog_6_method_42_code
abbrev my_R_modulo : MethodName := ⟨"SignedMillModel", "modulo", "(IIII)Z"⟩
abbrev bc_R_compare : ByteArray := prog_6_method_43_code
abbrev my_R_compare : MethodName := ⟨"SignedMillModel", "compare", "(II)I"⟩
abbrev bc_R_sign : ByteArray := prog_6_method_44_code
abbrev my_R_sign : MethodName := ⟨"SignedMillModel", "sign", "(I)I"⟩
abbrev bc_R_length : ByteArray := prog_6_method_45_code
abbrev my_R_length : MethodName := ⟨"SignedMillModel", "length", "(I)I"⟩
abbrev bc_R_ones : ByteArray := prog_6_method_46_code
abbrev my_R_ones : MethodName := ⟨"SignedMillModel", "ones", "(I)I"⟩
abbrev bc_R_lowest : ByteArray := prog_6_method_47_code
abbrev my_R_lowest : MethodName := ⟨"SignedMillModel", "lowest", "(I)I"⟩
abbrev bc_R_word : ByteArray := prog_6_method_48_code
abbrev my_R_word : MethodName := ⟨"SignedMillModel", "word", "(II)I"⟩
theorem wX_L : Jvm.Cond.initialized "SignedMillLaw" ∈ lw_gd := lw_in (List.mem_of_getElem? (i := 47) (by decide +kernel)) (by decide +kernel)
theorem wX_M : Jvm.Cond.initialized "SignedMill" ∈ lw_gd := lw_in (List.mem_of_getElem? (i := 48) (by decide +kernel)) (by decide +kernel)
theorem wX_W : Jvm.Cond.initialized "SignedMill$Whole" ∈ lw_gd := lw_in (List.mem_of_getElem? (i := 49) (by decide +kernel)) (by decide +kernel)
theorem wX_D : Jvm.Cond.initialized "SignedMill$Divider" ∈ lw_gd := lw_in (List.mem_of_getElem? (i := 50) (by decide +kernel)) (by decide +kernel)
theorem wX_E : Jvm.Cond.initialized "SignedMill$Euclid" ∈ lw_gd := lw_in (List.mem_of_getElem? (i := 51) (by decide +kernel)) (by decide +kernel)
theorem wX_R : Jvm.Cond.initialized "SignedMillModel" ∈ lw_gd := lw_in (List.mem_of_getElem? (i := 52) (by decide +kernel)) (by decide +kernel)
theorem wX_JL : Jvm.Cond.initialized "java/lang/Long" ∈ lw_gd := lw_in (List.mem_of_getElem? (i := 53) (by decide +kernel)) (by decide +kernel)
theorem wX_JI : Jvm.Cond.initialized "java/lang/Integer" ∈ lw_gd := lw_in (List.mem_of_getElem? (i := 54) (by decide +kernel)) (by decide +kernel)
theorem wX_JM : Jvm.Cond.initialized "java/lang/Math" ∈ lw_gd := lw_in (List.mem_of_getElem? (i := 55) (by decide +kernel)) (by decide +kernel)
theorem wX_JA : Jvm.Cond.initialized "java/util/Arrays" ∈ lw_gd := lw_in (List.mem_of_getElem? (i := 56) (by decide +kernel)) (by decide +kernel)
theorem wX_JS : Jvm.Cond.initialized "java/lang/System" ∈ lw_gd := lw_in (List.mem_of_getElem? (i := 57) (by decide +kernel)) (by decide +kernel)
theorem wY_L_7 : Jvm.Cond.classLink "SignedMillLaw" (7 : Nat) "SignedMill" ∈ lw_gd := lw_in (List.mem_of_getElem? (i := 58) (by decide +kernel)) (by decide +kernel)
theorem wZ_M : Jvm.Cond.instantiable "SignedMill" (7 : Nat) ∈ lw_gd := lw_in (List.mem_of_getElem? (i := 59) (by decide +kernel)) (by decide +kernel)
theorem wL_L_9 : Jvm.Cond.methodLink "SignedMillLaw" (9 : Nat) ({ cls := "SignedMill", name := "<init>", desc := "()V" } : Jvm.MethodName) ∈ lw_gd := lw_in (List.mem_of_getElem? (i := 60) (by decide +kernel)) (by decide +kernel)
theorem wI_M_init : Jvm.Cond.instanceMethod ({ cls := "SignedMill", name := "<init>", desc := "()V" } : Jvm.MethodName) ∈ lw_gd := lw_in (List.mem_of_getElem? (i := 61) (by decide +kernel)) (by decide +kernel)
theorem wC_M_init : Jvm.Cond.code ({ cls := "SignedMill", name := "<init>", desc := "()V" } : Jvm.MethodName) prog_1_method_1_code (2 : Nat) (Option.none : Option Jvm.ClassFile.FieldType) ∈ lw_gd := lw_in (List.mem_of_getElem? (i := 62) (by decide +kernel)) (by decide +kernel)
theorem wL_M_3 : Jvm.Cond.methodLink "SignedMill" (3 : Nat) ({ cls := "java/lang/Object", name := "<init>", desc := "()V" } : Jvm.MethodName) ∈ lw_gd := lw_in (List.mem_of_getElem? (i := 63) (by decide +kernel)) (by decide +kernel)
theorem wI_JO_init : Jvm.Cond.instanceMethod ({ cls := "java/lang/Object", name := "<init>", desc := "()V" } : Jvm.MethodName) ∈ lw_gd := lw_in (List.mem_of_getElem? (i := 64) (by decide +kernel)) (by decide +kernel)
theorem wC_JO_init : Jvm.Cond.code ({ cls := "java/lang/Object", name := "<init>", desc := "()V" } : Jvm.MethodName) object_method_1_code (1 : Nat) (Option.none : Option Jvm.ClassFile.FieldType) ∈ lw_gd := lw_in (List.mem_of_getElem? (i := 65) (by decide +kernel)) (by decide +kernel)
theorem wY_M_9 : Jvm.Cond.classLink "SignedMill" (9 : Nat) "SignedMill$Whole" ∈ lw_gd := lw_in (List.mem_of_getElem? (i := 66) (by decide +kernel)) (by decide +kernel)
theorem wZ_W : Jvm.Cond.instantiable "SignedMill$Whole" (2 : Nat) ∈ lw_gd := lw_in (List.mem_of_getElem? (i := 68) (by decide +kernel)) (by decide +kernel)
theorem wN_M_19 : Jvm.Cond.methodLinkNest "SignedMill" (19 : Nat) ({ cls := "SignedMill$Whole", name := "<init>", desc := "()V" } : Jvm.MethodName) "SignedMill" ∈ lw_tbl := List.mem_of_getElem? (i := 69) (by decide +kernel)
theorem wI_W_init : Jvm.Cond.instanceMethod ({ cls := "SignedMill$Whole", name := "<init>", desc := "()V" } : Jvm.MethodName) ∈ lw_gd := lw_in (List.mem_of_getElem? (i := 70) (by decide +kernel)) (by decide +kernel)
theorem wC_W_init : Jvm.Cond.code ({ cls := "SignedMill$Whole", name := "<init>", desc := "()V" } : Jvm.MethodName) prog_4_method_1_code (1 : Nat) (Option.none : Option Jvm.ClassFile.FieldType) ∈ lw_gd := lw_in (List.mem_of_getElem? (i := 71) (by decide +kernel)) (by decide +kernel)
theorem wL_W_3 : Jvm.Cond.methodLink "SignedMill$Whole" (3 : Nat) ({ cls := "java/lang/Object", name := "<init>", desc := "()V" } : Jvm.MethodName) ∈ lw_gd := lw_in (List.mem_of_getElem? (i := 72) (by decide +kernel)) (by decide +kernel)
theorem wF_W_11 : Jvm.Cond.fieldLink "SignedMill$Whole" (11 : Nat) "SignedMill$Whole" "digits" "[J" ∈ lw_gd := lw_in (List.mem_of_getElem? (i := 73) (by decide +kernel)) (by decide +kernel)
theorem wF_D_58 : Jvm.Cond.fieldLink "SignedMill$Divider" (58 : Nat) "SignedMill$Whole" "digits" "[J" ∈ lw_gd := lw_in (List.mem_of_getElem? (i := 74) (by decide +kernel)) (by decide +kernel)
theorem wF_E_129 : Jvm.Cond.fieldLink "SignedMill$Euclid" (129 : Nat) "SignedMill$Whole" "digits" "[J" ∈ lw_gd := lw_in (List.mem_of_getElem? (i := 75) (by decide +kernel)) (by decide +kernel)
theorem wF_M_127 : Jvm.Cond.fieldLink "SignedMill" (127 : Nat) "SignedMill$Whole" "digits" "[J" ∈ lw_gd := lw_in (List.mem_of_getElem? (i := 76) (by decide +kernel)) (by decide +kernel)
theorem wF_W_15 : Jvm.Cond.fieldLink "SignedMill$Whole" (15 : Nat) "SignedMill$Whole" "count" "I" ∈ lw_gd := lw_in (List.mem_of_getElem? (i := 77) (by decide +kernel)) (by decide +kernel)
theorem wF_D_39 : Jvm.Cond.fieldLink "SignedMill$Divider" (39 : Nat) "SignedMill$Whole" "count" "I" ∈ lw_gd := lw_in (List.mem_of_getElem? (i := 78) (by decide +kernel)) (by decide +kernel)
theorem wF_E_121 : Jvm.Cond.fieldLink "SignedMill$Euclid" (121 : Nat) "SignedMill$Whole" "count" "I" ∈ lw_gd := lw_in (List.mem_of_getElem? (i := 79) (by decide +kernel)) (by decide +kernel)
theorem wF_M_109 : Jvm.Cond.fieldLink "SignedMill" (109 : Nat) "SignedMill$Whole" "count" "I" ∈ lw_gd := lw_in (List.mem_of_getElem? (i := 80) (by decide +kernel)) (by decide +kernel)
theorem wA_boolean : Jvm.Cond.arrayClass Jvm.ClassFile.FieldType.boolean ∈ lw_gd := lw_in (List.mem_of_getElem? (i := 86) (by decide +kernel)) (by decide +kernel)
theorem wA_long : Jvm.Cond.arrayClass Jvm.ClassFile.FieldType.long ∈ lw_gd := lw_in (List.mem_of_getElem? (i := 87) (by decide +kernel)) (by decide +kernel)
theorem wY_M_30 : Jvm.Cond.classLink "SignedMill" (30 : Nat) "SignedMill$Divider" ∈ lw_gd := lw_in (List.mem_of_getElem? (i := 88) (by decide +kernel)) (by decide +kernel)
theorem wZ_D : Jvm.Cond.instantiable "SignedMill$Divider" (3 : Nat) ∈ lw_gd := lw_in (List.mem_of_getElem? (i := 89) (by decide +kernel)) (by decide +kernel)
theorem wN_M_32 : Jvm.Cond.methodLinkNest "SignedMill" (32 : Nat) ({ cls := "SignedMill$Divider", name := "<init>", desc := "()V" } : Jvm.MethodName) "SignedMill" ∈ lw_tbl := List.mem_of_getElem? (i := 90) (by decide +kernel)
theorem wI_D_init : Jvm.Cond.instanceMethod ({ cls := "SignedMill$Divider", name := "<init>", desc := "()V" } : Jvm.MethodName) ∈ lw_gd := lw_in (List.mem_of_getElem? (i := 91) (by decide +kernel)) (by decide +kernel)
theorem wC_D_init : Jvm.Cond.code ({ cls := "SignedMill$Divider", name := "<init>", desc := "()V" } : Jvm.MethodName) prog_2_method_1_code (1 : Nat) (Option.none : Option Jvm.ClassFile.FieldType) ∈ lw_gd := lw_in (List.mem_of_getElem? (i := 92) (by decide +kernel)) (by decide +kernel)
theorem wL_D_3 : Jvm.Cond.methodLink "SignedMill$Divider" (3 : Nat) ({ cls := "java/lang/Object", name := "<init>", desc := "()V" } : Jvm.MethodName) ∈ lw_gd := lw_in (List.mem_of_getElem? (i := 93) (by decide +kernel)) (by decide +kernel)
theorem wY_D_9 : Jvm.Cond.classLink "SignedMill$Divider" (9 : Nat) "SignedMill$Whole" ∈ lw_gd := lw_in (List.mem_of_getElem? (i := 94) (by decide +kernel)) (by decide +kernel)
theorem wN_D_11 : Jvm.Cond.methodLinkNest "SignedMill$Divider" (11 : Nat) ({ cls := "SignedMill$Whole", name := "<init>", desc := "()V" } : Jvm.MethodName) "SignedMill" ∈ lw_tbl := List.mem_of_getElem? (i := 95) (by decide +kernel)
theorem wF_D_12 : Jvm.Cond.fieldLink "SignedMill$Divider" (12 : Nat) "SignedMill$Divider" "quotient" "LSignedMill$Whole;" ∈ lw_gd := lw_in (List.mem_of_getElem? (i := 96) (by decide +kernel)) (by decide +kernel)
theorem wF_E_145 : Jvm.Cond.fieldLink "SignedMill$Euclid" (145 : Nat) "SignedMill$Divider" "quotient" "LSignedMill$Whole;" ∈ lw_gd := lw_in (List.mem_of_getElem? (i := 97) (by decide +kernel)) (by decide +kernel)
theorem wF_M_99 : Jvm.Cond.fieldLink "SignedMill" (99 : Nat) "SignedMill$Divider" "quotient" "LSignedMill$Whole;" ∈ lw_gd := lw_in (List.mem_of_getElem? (i := 98) (by decide +kernel)) (by decide +kernel)
theorem wF_D_18 : Jvm.Cond.fieldLink "SignedMill$Divider" (18 : Nat) "SignedMill$Divider" "rest" "LSignedMill$Whole;" ∈ lw_gd := lw_in (List.mem_of_getElem? (i := 99) (by decide +kernel)) (by decide +kernel)
theorem wF_E_142 : Jvm.Cond.fieldLink "SignedMill$Euclid" (142 : Nat) "SignedMill$Divider" "rest" "LSignedMill$Whole;" ∈ lw_gd := lw_in (List.mem_of_getElem? (i := 100) (by decide +kernel)) (by decide +kernel)
theorem wF_M_96 : Jvm.Cond.fieldLink "SignedMill" (96 : Nat) "SignedMill$Divider" "rest" "LSignedMill$Whole;" ∈ lw_gd := lw_in (List.mem_of_getElem? (i := 101) (by decide +kernel)) (by decide +kernel)
theorem wF_D_21 : Jvm.Cond.fieldLink "SignedMill$Divider" (21 : Nat) "SignedMill$Divider" "scaled" "LSignedMill$Whole;" ∈ lw_gd := lw_in (List.mem_of_getElem? (i := 102) (by decide +kernel)) (by decide +kernel)
theorem wY_M_37 : Jvm.Cond.classLink "SignedMill" (37 : Nat) "SignedMill$Euclid" ∈ lw_gd := lw_in (List.mem_of_getElem? (i := 110) (by decide +kernel)) (by decide +kernel)
theorem wZ_E : Jvm.Cond.instantiable "SignedMill$Euclid" (11 : Nat) ∈ lw_gd := lw_in (List.mem_of_getElem? (i := 111) (by decide +kernel)) (by decide +kernel)
theorem wN_M_39 : Jvm.Cond.methodLinkNest "SignedMill" (39 : Nat) ({ cls := "SignedMill$Euclid", name := "<init>", desc := "()V" } : Jvm.MethodName) "SignedMill" ∈ lw_tbl := List.mem_of_getElem? (i := 112) (by decide +kernel)
theorem wI_E_init : Jvm.Cond.instanceMethod ({ cls := "SignedMill$Euclid", name := "<init>", desc := "()V" } : Jvm.MethodName) ∈ lw_gd := lw_in (List.mem_of_getElem? (i := 113) (by decide +kernel)) (by decide +kernel)
theorem wC_E_init : Jvm.Cond.code ({ cls := "SignedMill$Euclid", name := "<init>", desc := "()V" } : Jvm.MethodName) prog_3_method_1_code (1 : Nat) (Option.none : Option Jvm.ClassFile.FieldType) ∈ lw_gd := lw_in (List.mem_of_getElem? (i := 114) (by decide +kernel)) (by decide +kernel)
theorem wL_E_3 : Jvm.Cond.methodLink "SignedMill$Euclid" (3 : Nat) ({ cls := "java/lang/Object", name := "<init>", desc := "()V" } : Jvm.MethodName) ∈ lw_gd := lw_in (List.mem_of_getElem? (i := 115) (by decide +kernel)) (by decide +kernel)
theorem wY_E_9 : Jvm.Cond.classLink "SignedMill$Euclid" (9 : Nat) "SignedMill$Whole" ∈ lw_gd := lw_in (List.mem_of_getElem? (i := 116) (by decide +kernel)) (by decide +kernel)
theorem wN_E_11 : Jvm.Cond.methodLinkNest "SignedMill$Euclid" (11 : Nat) ({ cls := "SignedMill$Whole", name := "<init>", desc := "()V" } : Jvm.MethodName) "SignedMill" ∈ lw_tbl := List.mem_of_getElem? (i := 117) (by decide +kernel)
theorem wY_E_34 : Jvm.Cond.classLink "SignedMill$Euclid" (34 : Nat) "SignedMill$Divider" ∈ lw_gd := lw_in (List.mem_of_getElem? (i := 118) (by decide +kernel)) (by decide +kernel)
theorem wN_E_36 : Jvm.Cond.methodLinkNest "SignedMill$Euclid" (36 : Nat) ({ cls := "SignedMill$Divider", name := "<init>", desc := "()V" } : Jvm.MethodName) "SignedMill" ∈ lw_tbl := List.mem_of_getElem? (i := 119) (by decide +kernel)
theorem wF_E_12 : Jvm.Cond.fieldLink "SignedMill$Euclid" (12 : Nat) "SignedMill$Euclid" "x" "LSignedMill$Whole;" ∈ lw_gd := lw_in (List.mem_of_getElem? (i := 120) (by decide +kernel)) (by decide +kernel)
theorem wF_M_161 : Jvm.Cond.fieldLink "SignedMill" (161 : Nat) "SignedMill$Euclid" "x" "LSignedMill$Whole;" ∈ lw_gd := lw_in (List.mem_of_getElem? (i := 121) (by decide +kernel)) (by decide +kernel)
theorem wF_E_18 : Jvm.Cond.fieldLink "SignedMill$Euclid" (18 : Nat) "SignedMill$Euclid" "factorX" "LSignedMill$Whole;" ∈ lw_gd := lw_in (List.mem_of_getElem? (i := 122) (by decide +kernel)) (by decide +kernel)
theorem wF_M_223 : Jvm.Cond.fieldLink "SignedMill" (223 : Nat) "SignedMill$Euclid" "factorX" "LSignedMill$Whole;" ∈ lw_gd := lw_in (List.mem_of_getElem? (i := 123) (by decide +kernel)) (by decide +kernel)
theorem wF_E_21 : Jvm.Cond.fieldLink "SignedMill$Euclid" (21 : Nat) "SignedMill$Euclid" "isFactorBelow" "Z" ∈ lw_gd := lw_in (List.mem_of_getElem? (i := 124) (by decide +kernel)) (by decide +kernel)
theorem wF_M_219 : Jvm.Cond.fieldLink "SignedMill" (219 : Nat) "SignedMill$Euclid" "isFactorBelow" "Z" ∈ lw_gd := lw_in (List.mem_of_getElem? (i := 125) (by decide +kernel)) (by decide +kernel)
theorem wF_E_25 : Jvm.Cond.fieldLink "SignedMill$Euclid" (25 : Nat) "SignedMill$Euclid" "y" "LSignedMill$Whole;" ∈ lw_gd := lw_in (List.mem_of_getElem? (i := 126) (by decide +kernel)) (by decide +kernel)
theorem wF_E_28 : Jvm.Cond.fieldLink "SignedMill$Euclid" (28 : Nat) "SignedMill$Euclid" "factorY" "LSignedMill$Whole;" ∈ lw_gd := lw_in (List.mem_of_getElem? (i := 127) (by decide +kernel)) (by decide +kernel)
theorem wF_E_31 : Jvm.Cond.fieldLink "SignedMill$Euclid" (31 : Nat) "SignedMill$Euclid" "spare" "LSignedMill$Whole;" ∈ lw_gd := lw_in (List.mem_of_getElem? (i := 128) (by decide +kernel)) (by decide +kernel)
theorem wF_E_37 : Jvm.Cond.fieldLink "SignedMill$Euclid" (37 : Nat) "SignedMill$Euclid" "divider" "LSignedMill$Divider;" ∈ lw_gd := lw_in (List.mem_of_getElem? (i := 129) (by decide +kernel)) (by decide +kernel)
theorem wF_E_41 : Jvm.Cond.fieldLink "SignedMill$Euclid" (41 : Nat) "SignedMill$Euclid" "xx" "J" ∈ lw_gd := lw_in (List.mem_of_getElem? (i := 130) (by decide +kernel)) (by decide +kernel)
theorem wF_E_45 : Jvm.Cond.fieldLink "SignedMill$Euclid" (45 : Nat) "SignedMill$Euclid" "xy" "J" ∈ lw_gd := lw_in (List.mem_of_getElem? (i := 131) (by decide +kernel)) (by decide +kernel)
theorem wF_E_48 : Jvm.Cond.fieldLink "SignedMill$Euclid" (48 : Nat) "SignedMill$Euclid" "yx" "J" ∈ lw_gd := lw_in (List.mem_of_getElem? (i := 132) (by decide +kernel)) (by decide +kernel)
theorem wF_E_51 : Jvm.Cond.fieldLink "SignedMill$Euclid" (51 : Nat) "SignedMill$Euclid" "yy" "J" ∈ lw_gd := lw_in (List.mem_of_getElem? (i := 133) (by decide +kernel)) (by decide +kernel)
theorem wF_M_11 : Jvm.Cond.fieldLink "SignedMill" (11 : Nat) "SignedMill" "sizes" "[LSignedMill$Whole;" ∈ lw_gd := lw_in (List.mem_of_getElem? (i := 157) (by decide +kernel)) (by decide +kernel)
theorem wF_M_15 : Jvm.Cond.fieldLink "SignedMill" (15 : Nat) "SignedMill" "minus" "[Z" ∈ lw_gd := lw_in (List.mem_of_getElem? (i := 158) (by decide +kernel)) (by decide +kernel)
theorem wF_M_20 : Jvm.Cond.fieldLink "SignedMill" (20 : Nat) "SignedMill" "result" "LSignedMill$Whole;" ∈ lw_gd := lw_in (List.mem_of_getElem? (i := 159) (by decide +kernel)) (by decide +kernel)
theorem wF_M_24 : Jvm.Cond.fieldLink "SignedMill" (24 : Nat) "SignedMill" "other" "LSignedMill$Whole;" ∈ lw_gd := lw_in (List.mem_of_getElem? (i := 160) (by decide +kernel)) (by decide +kernel)
theorem wF_M_27 : Jvm.Cond.fieldLink "SignedMill" (27 : Nat) "SignedMill" "base" "LSignedMill$Whole;" ∈ lw_gd := lw_in (List.mem_of_getElem? (i := 161) (by decide +kernel)) (by decide +kernel)
theorem wF_M_33 : Jvm.Cond.fieldLink "SignedMill" (33 : Nat) "SignedMill" "divider" "LSignedMill$Divider;" ∈ lw_gd := lw_in (List.mem_of_getElem? (i := 162) (by decide +kernel)) (by decide +kernel)
theorem wF_M_40 : Jvm.Cond.fieldLink "SignedMill" (40 : Nat) "SignedMill" "euclid" "LSignedMill$Euclid;" ∈ lw_gd := lw_in (List.mem_of_getElem? (i := 163) (by decide +kernel)) (by decide +kernel)
theorem wL_L_15 : Jvm.Cond.methodLink "SignedMillLaw" (15 : Nat) ({ cls := "SignedMill", name := "put", desc := "(IJ)Z" } : Jvm.MethodName) ∈ lw_gd := lw_in (List.mem_of_getElem? (i := 179) (by decide +kernel)) (by decide +kernel)
theorem wI_M_put : Jvm.Cond.instanceMethod ({ cls := "SignedMill", name := "put", desc := "(IJ)Z" } : Jvm.MethodName) ∈ lw_gd := lw_in (List.mem_of_getElem? (i := 180) (by decide +kernel)) (by decide +kernel)
theorem wS_M_put : Jvm.Cond.selects "SignedMill" ({ cls := "SignedMill", name := "put", desc := "(IJ)Z" } : Jvm.MethodName) ({ cls := "SignedMill", name := "put", desc := "(IJ)Z" } : Jvm.MethodName) ∈ lw_gd := lw_in (List.mem_of_getElem? (i := 181) (by decide +kernel)) (by decide +kernel)
theorem wC_M_put : Jvm.Cond.code ({ cls := "SignedMill", name := "put", desc := "(IJ)Z" } : Jvm.MethodName) prog_1_method_2_code (4 : Nat) (Option.some Jvm.ClassFile.FieldType.boolean) ∈ lw_gd := lw_in (List.mem_of_getElem? (i := 182) (by decide +kernel)) (by decide +kernel)
theorem wL_M_44 : Jvm.Cond.methodLink "SignedMill" (44 : Nat) ({ cls := "SignedMill", name := "isRegister", desc := "(I)Z" } : Jvm.MethodName) ∈ lw_gd := lw_in (List.mem_of_getElem? (i := 183) (by decide +kernel)) (by decide +kernel)
theorem wT_M_isRegister : Jvm.Cond.static ({ cls := "SignedMill", name := "isRegister", desc := "(I)Z" } : Jvm.MethodName) ∈ lw_gd := lw_in (List.mem_of_getElem? (i := 184) (by decide +kernel)) (by decide +kernel)
theorem wC_M_isRegister : Jvm.Cond.code ({ cls := "SignedMill", name := "isRegister", desc := "(I)Z" } : Jvm.MethodName) prog_1_method_23_code (1 : Nat) (Option.some Jvm.ClassFile.FieldType.boolean) ∈ lw_gd := lw_in (List.mem_of_getElem? (i := 185) (by decide +kernel)) (by decide +kernel)
theorem wL_M_48 : Jvm.Cond.methodLink "SignedMill" (48 : Nat) ({ cls := "SignedMill$Whole", name := "load", desc := "(J)V" } : Jvm.MethodName) ∈ lw_gd := lw_in (List.mem_of_getElem? (i := 186) (by decide +kernel)) (by decide +kernel)
theorem wI_W_load : Jvm.Cond.instanceMethod ({ cls := "SignedMill$Whole", name := "load", desc := "(J)V" } : Jvm.MethodName) ∈ lw_gd := lw_in (List.mem_of_getElem? (i := 187) (by decide +kernel)) (by decide +kernel)
theorem wS_W_load : Jvm.Cond.selects "SignedMill$Whole" ({ cls := "SignedMill$Whole", name := "load", desc := "(J)V" } : Jvm.MethodName) ({ cls := "SignedMill$Whole", name := "load", desc := "(J)V" } : Jvm.MethodName) ∈ lw_gd := lw_in (List.mem_of_getElem? (i := 188) (by decide +kernel)) (by decide +kernel)
theorem wC_W_load : Jvm.Cond.code ({ cls := "SignedMill$Whole", name := "load", desc := "(J)V" } : Jvm.MethodName) prog_4_method_6_code (3 : Nat) (Option.none : Option Jvm.ClassFile.FieldType) ∈ lw_gd := lw_in (List.mem_of_getElem? (i := 189) (by decide +kernel)) (by decide +kernel)
theorem wK_W_35 : Jvm.Cond.constantLong "SignedMill$Whole" (35 : Nat) (4294967295 : Int64) ∈ lw_gd := lw_in (List.mem_of_getElem? (i := 190) (by decide +kernel)) (by decide +kernel)
theorem wL_W_37 : Jvm.Cond.methodLink "SignedMill$Whole" (37 : Nat) ({ cls := "SignedMill$Whole", name := "trim", desc := "(I)V" } : Jvm.MethodName) ∈ lw_gd := lw_in (List.mem_of_getElem? (i := 191) (by decide +kernel)) (by decide +kernel)
theorem wI_W_trim : Jvm.Cond.instanceMethod ({ cls := "SignedMill$Whole", name := "trim", desc := "(I)V" } : Jvm.MethodName) ∈ lw_gd := lw_in (List.mem_of_getElem? (i := 192) (by decide +kernel)) (by decide +kernel)
theorem wS_W_trim : Jvm.Cond.selects "SignedMill$Whole" ({ cls := "SignedMill$Whole", name := "trim", desc := "(I)V" } : Jvm.MethodName) ({ cls := "SignedMill$Whole", name := "trim", desc := "(I)V" } : Jvm.MethodName) ∈ lw_gd := lw_in (List.mem_of_getElem? (i := 193) (by decide +kernel)) (by decide +kernel)
theorem wC_W_trim : Jvm.Cond.code ({ cls := "SignedMill$Whole", name := "trim", desc := "(I)V" } : Jvm.MethodName) prog_4_method_4_code (2 : Nat) (Option.none : Option Jvm.ClassFile.FieldType) ∈ lw_gd := lw_in (List.mem_of_getElem? (i := 194) (by decide +kernel)) (by decide +kernel)
theorem wL_M_52 : Jvm.Cond.methodLink "SignedMill" (52 : Nat) ({ cls := "SignedMill", name := "keep", desc := "(IZ)Z" } : Jvm.MethodName) ∈ lw_gd := lw_in (List.mem_of_getElem? (i := 195) (by decide +kernel)) (by decide +kernel)
theorem wI_M_keep : Jvm.Cond.instanceMethod ({ cls := "SignedMill", name := "keep", desc := "(IZ)Z" } : Jvm.MethodName) ∈ lw_gd := lw_in (List.mem_of_getElem? (i := 197) (by decide +kernel)) (by decide +kernel)
theorem wC_M_keep : Jvm.Cond.code ({ cls := "SignedMill", name := "keep", desc := "(IZ)Z" } : Jvm.MethodName) prog_1_method_26_code (3 : Nat) (Option.some Jvm.ClassFile.FieldType.boolean) ∈ lw_gd := lw_in (List.mem_of_getElem? (i := 198) (by decide +kernel)) (by decide +kernel)
theorem wL_M_170 : Jvm.Cond.methodLink "SignedMill" (170 : Nat) ({ cls := "SignedMill$Whole", name := "bits", desc := "()I" } : Jvm.MethodName) ∈ lw_gd := lw_in (List.mem_of_getElem? (i := 199) (by decide +kernel)) (by decide +kernel)
theorem wI_W_bits : Jvm.Cond.instanceMethod ({ cls := "SignedMill$Whole", name := "bits", desc := "()I" } : Jvm.MethodName) ∈ lw_gd := lw_in (List.mem_of_getElem? (i := 200) (by decide +kernel)) (by decide +kernel)
theorem wS_W_bits : Jvm.Cond.selects "SignedMill$Whole" ({ cls := "SignedMill$Whole", name := "bits", desc := "()I" } : Jvm.MethodName) ({ cls := "SignedMill$Whole", name := "bits", desc := "()I" } : Jvm.MethodName) ∈ lw_gd := lw_in (List.mem_of_getElem? (i := 201) (by decide +kernel)) (by decide +kernel)
theorem wC_W_bits : Jvm.Cond.code ({ cls := "SignedMill$Whole", name := "bits", desc := "()I" } : Jvm.MethodName) prog_4_method_13_code (1 : Nat) (Option.some Jvm.ClassFile.FieldType.int) ∈ lw_gd := lw_in (List.mem_of_getElem? (i := 202) (by decide +kernel)) (by decide +kernel)
theorem wL_W_50 : Jvm.Cond.methodLink "SignedMill$Whole" (50 : Nat) ({ cls := "java/lang/Long", name := "numberOfLeadingZeros", desc := "(J)I" } : Jvm.MethodName) ∈ lw_gd := lw_in (List.mem_of_getElem? (i := 203) (by decide +kernel)) (by decide +kernel)
theorem wT_JL_numberOfLeadingZeros : Jvm.Cond.static ({ cls := "java/lang/Long", name := "numberOfLeadingZeros", desc := "(J)I" } : Jvm.MethodName) ∈ lw_gd := lw_in (List.mem_of_getElem? (i := 204) (by decide +kernel)) (by decide +kernel)
theorem wC_JL_numberOfLeadingZeros : Jvm.Cond.code ({ cls := "java/lang/Long", name := "numberOfLeadingZeros", desc := "(J)I" } : Jvm.MethodName) prog_9_method_48_code (3 : Nat) (Option.some Jvm.ClassFile.FieldType.int) ∈ lw_gd := lw_in (List.mem_of_getElem? (i := 205) (by decide +kernel)) (by decide +kernel)
theorem wL_JL_308 : Jvm.Cond.methodLink "java/lang/Long" (308 : Nat) ({ cls := "java/lang/Integer", name := "numberOfLeadingZeros", desc := "(I)I" } : Jvm.MethodName) ∈ lw_gd := lw_in (List.mem_of_getElem? (i := 206) (by decide +kernel)) (by decide +kernel)
theorem wT_JI_numberOfLeadingZeros : Jvm.Cond.static ({ cls := "java/lang/Integer", name := "numberOfLeadingZeros", desc := "(I)I" } : Jvm.MethodName) ∈ lw_gd := lw_in (List.mem_of_getElem? (i := 207) (by decide +kernel)) (by decide +kernel)
theorem wC_JI_numberOfLeadingZeros : Jvm.Cond.code ({ cls := "java/lang/Integer", name := "numberOfLeadingZeros", desc := "(I)I" } : Jvm.MethodName) prog_8_method_47_code (2 : Nat) (Option.some Jvm.ClassFile.FieldType.int) ∈ lw_gd := lw_in (List.mem_of_getElem? (i := 208) (by decide +kernel)) (by decide +kernel)
theorem wK_JI_264 : Jvm.Cond.constant "java/lang/Integer" (264 : Nat) (65536 : Int32) ∈ lw_gd := lw_in (List.mem_of_getElem? (i := 209) (by decide +kernel)) (by decide +kernel)
theorem wK_M_150 : Jvm.Cond.constant "SignedMill" (150 : Nat) (65536 : Int32) ∈ lw_gd := lw_in (List.mem_of_getElem? (i := 210) (by decide +kernel)) (by decide +kernel)
theorem wL_M_105 : Jvm.Cond.methodLink "SignedMill" (105 : Nat) ({ cls := "SignedMill", name := "settle", desc := "(ILSignedMill$Whole;Z)V" } : Jvm.MethodName) ∈ lw_gd := lw_in (List.mem_of_getElem? (i := 211) (by decide +kernel)) (by decide +kernel)
theorem wI_M_settle : Jvm.Cond.instanceMethod ({ cls := "SignedMill", name := "settle", desc := "(ILSignedMill$Whole;Z)V" } : Jvm.MethodName) ∈ lw_gd := lw_in (List.mem_of_getElem? (i := 213) (by decide +kernel)) (by decide +kernel)
theorem wC_M_settle : Jvm.Cond.code ({ cls := "SignedMill", name := "settle", desc := "(ILSignedMill$Whole;Z)V" } : Jvm.MethodName) prog_1_method_27_code (4 : Nat) (Option.none : Option Jvm.ClassFile.FieldType) ∈ lw_gd := lw_in (List.mem_of_getElem? (i := 214) (by decide +kernel)) (by decide +kernel)
theorem wL_M_74 : Jvm.Cond.methodLink "SignedMill" (74 : Nat) ({ cls := "SignedMill$Whole", name := "copy", desc := "(LSignedMill$Whole;)V" } : Jvm.MethodName) ∈ lw_gd := lw_in (List.mem_of_getElem? (i := 215) (by decide +kernel)) (by decide +kernel)
theorem wI_W_copy : Jvm.Cond.instanceMethod ({ cls := "SignedMill$Whole", name := "copy", desc := "(LSignedMill$Whole;)V" } : Jvm.MethodName) ∈ lw_gd := lw_in (List.mem_of_getElem? (i := 216) (by decide +kernel)) (by decide +kernel)
theorem wS_W_copy : Jvm.Cond.selects "SignedMill$Whole" ({ cls := "SignedMill$Whole", name := "copy", desc := "(LSignedMill$Whole;)V" } : Jvm.MethodName) ({ cls := "SignedMill$Whole", name := "copy", desc := "(LSignedMill$Whole;)V" } : Jvm.MethodName) ∈ lw_gd := lw_in (List.mem_of_getElem? (i := 217) (by decide +kernel)) (by decide +kernel)
theorem wC_W_copy : Jvm.Cond.code ({ cls := "SignedMill$Whole", name := "copy", desc := "(LSignedMill$Whole;)V" } : Jvm.MethodName) prog_4_method_8_code (2 : Nat) (Option.none : Option Jvm.ClassFile.FieldType) ∈ lw_gd := lw_in (List.mem_of_getElem? (i := 218) (by decide +kernel)) (by decide +kernel)
theorem wL_W_31 : Jvm.Cond.methodLink "SignedMill$Whole" (31 : Nat) ({ cls := "SignedMill$Whole", name := "room", desc := "(I)V" } : Jvm.MethodName) ∈ lw_gd := lw_in (List.mem_of_getElem? (i := 219) (by decide +kernel)) (by decide +kernel)
theorem wI_W_room : Jvm.Cond.instanceMethod ({ cls := "SignedMill$Whole", name := "room", desc := "(I)V" } : Jvm.MethodName) ∈ lw_gd := lw_in (List.mem_of_getElem? (i := 220) (by decide +kernel)) (by decide +kernel)
theorem wS_W_room : Jvm.Cond.selects "SignedMill$Whole" ({ cls := "SignedMill$Whole", name := "room", desc := "(I)V" } : Jvm.MethodName) ({ cls := "SignedMill$Whole", name := "room", desc := "(I)V" } : Jvm.MethodName) ∈ lw_gd := lw_in (List.mem_of_getElem? (i := 221) (by decide +kernel)) (by decide +kernel)
theorem wC_W_room : Jvm.Cond.code ({ cls := "SignedMill$Whole", name := "room", desc := "(I)V" } : Jvm.MethodName) prog_4_method_2_code (2 : Nat) (Option.none : Option Jvm.ClassFile.FieldType) ∈ lw_gd := lw_in (List.mem_of_getElem? (i := 222) (by decide +kernel)) (by decide +kernel)
theorem wL_W_19 : Jvm.Cond.methodLink "SignedMill$Whole" (19 : Nat) ({ cls := "java/lang/Math", name := "max", desc := "(II)I" } : Jvm.MethodName) ∈ lw_gd := lw_in (List.mem_of_getElem? (i := 223) (by decide +kernel)) (by decide +kernel)
theorem wT_JM_max_II : Jvm.Cond.static ({ cls := "java/lang/Math", name := "max", desc := "(II)I" } : Jvm.MethodName) ∈ lw_gd := lw_in (List.mem_of_getElem? (i := 224) (by decide +kernel)) (by decide +kernel)
theorem wC_JM_max_II : Jvm.Cond.code ({ cls := "java/lang/Math", name := "max", desc := "(II)I" } : Jvm.MethodName) prog_10_method_65_code (2 : Nat) (Option.some Jvm.ClassFile.FieldType.int) ∈ lw_gd := lw_in (List.mem_of_getElem? (i := 225) (by decide +kernel)) (by decide +kernel)
theorem wL_W_25 : Jvm.Cond.methodLink "SignedMill$Whole" (25 : Nat) ({ cls := "java/util/Arrays", name := "copyOf", desc := "([JI)[J" } : Jvm.MethodName) ∈ lw_gd := lw_in (List.mem_of_getElem? (i := 226) (by decide +kernel)) (by decide +kernel)
theorem wT_JA_copyOf : Jvm.Cond.static ({ cls := "java/util/Arrays", name := "copyOf", desc := "([JI)[J" } : Jvm.MethodName) ∈ lw_gd := lw_in (List.mem_of_getElem? (i := 227) (by decide +kernel)) (by decide +kernel)
theorem wC_JA_copyOf : Jvm.Cond.code ({ cls := "java/util/Arrays", name := "copyOf", desc := "([JI)[J" } : Jvm.MethodName) prog_12_method_124_code (3 : Nat) (Option.some (Jvm.ClassFile.FieldType.array Jvm.ClassFile.FieldType.long)) ∈ lw_gd := lw_in (List.mem_of_getElem? (i := 228) (by decide +kernel)) (by decide +kernel)
theorem wL_JA_319 : Jvm.Cond.methodLink "java/util/Arrays" (319 : Nat) ({ cls := "[J", name := "clone", desc := "()Ljava/lang/Object;" } : Jvm.MethodName) ∈ lw_gd := lw_in (List.mem_of_getElem? (i := 229) (by decide +kernel)) (by decide +kernel)
theorem wV_JO_clone : Jvm.Cond.native ({ cls := "java/lang/Object", name := "clone", desc := "()Ljava/lang/Object;" } : Jvm.MethodName) ∈ lw_gd := lw_in (List.mem_of_getElem? (i := 231) (by decide +kernel)) (by decide +kernel)
theorem wI_JO_clone : Jvm.Cond.instanceMethod ({ cls := "java/lang/Object", name := "clone", desc := "()Ljava/lang/Object;" } : Jvm.MethodName) ∈ lw_gd := lw_in (List.mem_of_getElem? (i := 232) (by decide +kernel)) (by decide +kernel)
theorem wS_AJ_clone : Jvm.Cond.selects "[J" ({ cls := "[J", name := "clone", desc := "()Ljava/lang/Object;" } : Jvm.MethodName) ({ cls := "java/lang/Object", name := "clone", desc := "()Ljava/lang/Object;" } : Jvm.MethodName) ∈ lw_gd := lw_in (List.mem_of_getElem? (i := 233) (by decide +kernel)) (by decide +kernel)
theorem wY_JA_320 : Jvm.Cond.classLink "java/util/Arrays" (320 : Nat) "[J" ∈ lw_gd := lw_in (List.mem_of_getElem? (i := 235) (by decide +kernel)) (by decide +kernel)
theorem wL_JA_304 : Jvm.Cond.methodLink "java/util/Arrays" (304 : Nat) ({ cls := "java/lang/Math", name := "min", desc := "(II)I" } : Jvm.MethodName) ∈ lw_gd := lw_in (List.mem_of_getElem? (i := 236) (by decide +kernel)) (by decide +kernel)
theorem wT_JM_min : Jvm.Cond.static ({ cls := "java/lang/Math", name := "min", desc := "(II)I" } : Jvm.MethodName) ∈ lw_gd := lw_in (List.mem_of_getElem? (i := 237) (by decide +kernel)) (by decide +kernel)
theorem wC_JM_min : Jvm.Cond.code ({ cls := "java/lang/Math", name := "min", desc := "(II)I" } : Jvm.MethodName) prog_10_method_69_code (2 : Nat) (Option.some Jvm.ClassFile.FieldType.int) ∈ lw_gd := lw_in (List.mem_of_getElem? (i := 238) (by decide +kernel)) (by decide +kernel)
theorem wL_JA_150 : Jvm.Cond.methodLink "java/util/Arrays" (150 : Nat) ({ cls := "java/lang/System", name := "arraycopy", desc := "(Ljava/lang/Object;ILjava/lang/Object;II)V" } : Jvm.MethodName) ∈ lw_gd := lw_in (List.mem_of_getElem? (i := 239) (by decide +kernel)) (by decide +kernel)
theorem wT_JS_arraycopy : Jvm.Cond.static ({ cls := "java/lang/System", name := "arraycopy", desc := "(Ljava/lang/Object;ILjava/lang/Object;II)V" } : Jvm.MethodName) ∈ lw_gd := lw_in (List.mem_of_getElem? (i := 240) (by decide +kernel)) (by decide +kernel)
theorem wV_JS_arraycopy : Jvm.Cond.native ({ cls := "java/lang/System", name := "arraycopy", desc := "(Ljava/lang/Object;ILjava/lang/Object;II)V" } : Jvm.MethodName) ∈ lw_gd := lw_in (List.mem_of_getElem? (i := 241) (by decide +kernel)) (by decide +kernel)
theorem wL_W_40 : Jvm.Cond.methodLink "SignedMill$Whole" (40 : Nat) ({ cls := "java/lang/System", name := "arraycopy", desc := "(Ljava/lang/Object;ILjava/lang/Object;II)V" } : Jvm.MethodName) ∈ lw_gd := lw_in (List.mem_of_getElem? (i := 242) (by decide +kernel)) (by decide +kernel)
theorem wL_M_89 : Jvm.Cond.methodLink "SignedMill" (89 : Nat) ({ cls := "SignedMill$Whole", name := "isZero", desc := "()Z" } : Jvm.MethodName) ∈ lw_gd := lw_in (List.mem_of_getElem? (i := 243) (by decide +kernel)) (by decide +kernel)
theorem wI_W_isZero : Jvm.Cond.instanceMethod ({ cls := "SignedMill$Whole", name := "isZero", desc := "()Z" } : Jvm.MethodName) ∈ lw_gd := lw_in (List.mem_of_getElem? (i := 244) (by decide +kernel)) (by decide +kernel)
theorem wS_W_isZero : Jvm.Cond.selects "SignedMill$Whole" ({ cls := "SignedMill$Whole", name := "isZero", desc := "()Z" } : Jvm.MethodName) ({ cls := "SignedMill$Whole", name := "isZero", desc := "()Z" } : Jvm.MethodName) ∈ lw_gd := lw_in (List.mem_of_getElem? (i := 245) (by decide +kernel)) (by decide +kernel)
theorem wC_W_isZero : Jvm.Cond.code ({ cls := "SignedMill$Whole", name := "isZero", desc := "()Z" } : Jvm.MethodName) prog_4_method_9_code (1 : Nat) (Option.some Jvm.ClassFile.FieldType.boolean) ∈ lw_gd := lw_in (List.mem_of_getElem? (i := 246) (by decide +kernel)) (by decide +kernel)
theorem wL_L_20 : Jvm.Cond.methodLink "SignedMillLaw" (20 : Nat) ({ cls := "SignedMill", name := "push", desc := "(IJ)Z" } : Jvm.MethodName) ∈ lw_gd := lw_in (List.mem_of_getElem? (i := 247) (by decide +kernel)) (by decide +kernel)
theorem wI_M_push : Jvm.Cond.instanceMethod ({ cls := "SignedMill", name := "push", desc := "(IJ)Z" } : Jvm.MethodName) ∈ lw_gd := lw_in (List.mem_of_getElem? (i := 248) (by decide +kernel)) (by decide +kernel)
theorem wS_M_push : Jvm.Cond.selects "SignedMill" ({ cls := "SignedMill", name := "push", desc := "(IJ)Z" } : Jvm.MethodName) ({ cls := "SignedMill", name := "push", desc := "(IJ)Z" } : Jvm.MethodName) ∈ lw_gd := lw_in (List.mem_of_getElem? (i := 249) (by decide +kernel)) (by decide +kernel)
theorem wC_M_push : Jvm.Cond.code ({ cls := "SignedMill", name := "push", desc := "(IJ)Z" } : Jvm.MethodName) prog_1_method_3_code (4 : Nat) (Option.some Jvm.ClassFile.FieldType.boolean) ∈ lw_gd := lw_in (List.mem_of_getElem? (i := 250) (by decide +kernel)) (by decide +kernel)
theorem wL_M_58 : Jvm.Cond.methodLink "SignedMill" (58 : Nat) ({ cls := "SignedMill$Whole", name := "raise", desc := "(LSignedMill$Whole;I)V" } : Jvm.MethodName) ∈ lw_gd := lw_in (List.mem_of_getElem? (i := 251) (by decide +kernel)) (by decide +kernel)
theorem wI_W_raise : Jvm.Cond.instanceMethod ({ cls := "SignedMill$Whole", name := "raise", desc := "(LSignedMill$Whole;I)V" } : Jvm.MethodName) ∈ lw_gd := lw_in (List.mem_of_getElem? (i := 252) (by decide +kernel)) (by decide +kernel)
theorem wS_W_raise : Jvm.Cond.selects "SignedMill$Whole" ({ cls := "SignedMill$Whole", name := "raise", desc := "(LSignedMill$Whole;I)V" } : Jvm.MethodName) ({ cls := "SignedMill$Whole", name := "raise", desc := "(LSignedMill$Whole;I)V" } : Jvm.MethodName) ∈ lw_gd := lw_in (List.mem_of_getElem? (i := 253) (by decide +kernel)) (by decide +kernel)
theorem wC_W_raise : Jvm.Cond.code ({ cls := "SignedMill$Whole", name := "raise", desc := "(LSignedMill$Whole;I)V" } : Jvm.MethodName) prog_4_method_22_code (11 : Nat) (Option.none : Option Jvm.ClassFile.FieldType) ∈ lw_gd := lw_in (List.mem_of_getElem? (i := 254) (by decide +kernel)) (by decide +kernel)
theorem wL_M_62 : Jvm.Cond.methodLink "SignedMill" (62 : Nat) ({ cls := "SignedMill$Whole", name := "sum", desc := "(LSignedMill$Whole;LSignedMill$Whole;)V" } : Jvm.MethodName) ∈ lw_gd := lw_in (List.mem_of_getElem? (i := 255) (by decide +kernel)) (by decide +kernel)
theorem wI_W_sum : Jvm.Cond.instanceMethod ({ cls := "SignedMill$Whole", name := "sum", desc := "(LSignedMill$Whole;LSignedMill$Whole;)V" } : Jvm.MethodName) ∈ lw_gd := lw_in (List.mem_of_getElem? (i := 256) (by decide +kernel)) (by decide +kernel)
theorem wS_W_sum : Jvm.Cond.selects "SignedMill$Whole" ({ cls := "SignedMill$Whole", name := "sum", desc := "(LSignedMill$Whole;LSignedMill$Whole;)V" } : Jvm.MethodName) ({ cls := "SignedMill$Whole", name := "sum", desc := "(LSignedMill$Whole;LSignedMill$Whole;)V" } : Jvm.MethodName) ∈ lw_gd := lw_in (List.mem_of_getElem? (i := 257) (by decide +kernel)) (by decide +kernel)
theorem wC_W_sum : Jvm.Cond.code ({ cls := "SignedMill$Whole", name := "sum", desc := "(LSignedMill$Whole;LSignedMill$Whole;)V" } : Jvm.MethodName) prog_4_method_18_code (12 : Nat) (Option.none : Option Jvm.ClassFile.FieldType) ∈ lw_gd := lw_in (List.mem_of_getElem? (i := 258) (by decide +kernel)) (by decide +kernel)
theorem wL_L_24 : Jvm.Cond.methodLink "SignedMillLaw" (24 : Nat) ({ cls := "SignedMill", name := "spread", desc := "(IJI)Z" } : Jvm.MethodName) ∈ lw_gd := lw_in (List.mem_of_getElem? (i := 259) (by decide +kernel)) (by decide +kernel)
theorem wI_M_spread : Jvm.Cond.instanceMethod ({ cls := "SignedMill", name := "spread", desc := "(IJI)Z" } : Jvm.MethodName) ∈ lw_gd := lw_in (List.mem_of_getElem? (i := 260) (by decide +kernel)) (by decide +kernel)
theorem wS_M_spread : Jvm.Cond.selects "SignedMill" ({ cls := "SignedMill", name := "spread", desc := "(IJI)Z" } : Jvm.MethodName) ({ cls := "SignedMill", name := "spread", desc := "(IJI)Z" } : Jvm.MethodName) ∈ lw_gd := lw_in (List.mem_of_getElem? (i := 261) (by decide +kernel)) (by decide +kernel)
theorem wC_M_spread : Jvm.Cond.code ({ cls := "SignedMill", name := "spread", desc := "(IJI)Z" } : Jvm.MethodName) prog_1_method_4_code (5 : Nat) (Option.some Jvm.ClassFile.FieldType.boolean) ∈ lw_gd := lw_in (List.mem_of_getElem? (i := 262) (by decide +kernel)) (by decide +kernel)
theorem wL_M_66 : Jvm.Cond.methodLink "SignedMill" (66 : Nat) ({ cls := "SignedMill$Whole", name := "repeat", desc := "(JI)V" } : Jvm.MethodName) ∈ lw_gd := lw_in (List.mem_of_getElem? (i := 263) (by decide +kernel)) (by decide +kernel)
theorem wI_W_repeat : Jvm.Cond.instanceMethod ({ cls := "SignedMill$Whole", name := "repeat", desc := "(JI)V" } : Jvm.MethodName) ∈ lw_gd := lw_in (List.mem_of_getElem? (i := 264) (by decide +kernel)) (by decide +kernel)
theorem wS_W_repeat : Jvm.Cond.selects "SignedMill$Whole" ({ cls := "SignedMill$Whole", name := "repeat", desc := "(JI)V" } : Jvm.MethodName) ({ cls := "SignedMill$Whole", name := "repeat", desc := "(JI)V" } : Jvm.MethodName) ∈ lw_gd := lw_in (List.mem_of_getElem? (i := 265) (by decide +kernel)) (by decide +kernel)
theorem wC_W_repeat : Jvm.Cond.code ({ cls := "SignedMill$Whole", name := "repeat", desc := "(JI)V" } : Jvm.MethodName) prog_4_method_7_code (5 : Nat) (Option.none : Option Jvm.ClassFile.FieldType) ∈ lw_gd := lw_in (List.mem_of_getElem? (i := 266) (by decide +kernel)) (by decide +kernel)
theorem wL_L_29 : Jvm.Cond.methodLink "SignedMillLaw" (29 : Nat) ({ cls := "SignedMill", name := "negate", desc := "(II)Z" } : Jvm.MethodName) ∈ lw_gd := lw_in (List.mem_of_getElem? (i := 267) (by decide +kernel)) (by decide +kernel)
theorem wI_M_negate : Jvm.Cond.instanceMethod ({ cls := "SignedMill", name := "negate", desc := "(II)Z" } : Jvm.MethodName) ∈ lw_gd := lw_in (List.mem_of_getElem? (i := 268) (by decide +kernel)) (by decide +kernel)
theorem wS_M_negate : Jvm.Cond.selects "SignedMill" ({ cls := "SignedMill", name := "negate", desc := "(II)Z" } : Jvm.MethodName) ({ cls := "SignedMill", name := "negate", desc := "(II)Z" } : Jvm.MethodName) ∈ lw_gd := lw_in (List.mem_of_getElem? (i := 269) (by decide +kernel)) (by decide +kernel)
theorem wC_M_negate : Jvm.Cond.code ({ cls := "SignedMill", name := "negate", desc := "(II)Z" } : Jvm.MethodName) prog_1_method_5_code (3 : Nat) (Option.some Jvm.ClassFile.FieldType.boolean) ∈ lw_gd := lw_in (List.mem_of_getElem? (i := 270) (by decide +kernel)) (by decide +kernel)
theorem wL_M_70 : Jvm.Cond.methodLink "SignedMill" (70 : Nat) ({ cls := "SignedMill", name := "areRegisters", desc := "(II)Z" } : Jvm.MethodName) ∈ lw_gd := lw_in (List.mem_of_getElem? (i := 271) (by decide +kernel)) (by decide +kernel)
theorem wT_M_areRegisters : Jvm.Cond.static ({ cls := "SignedMill", name := "areRegisters", desc := "(II)Z" } : Jvm.MethodName) ∈ lw_gd := lw_in (List.mem_of_getElem? (i := 272) (by decide +kernel)) (by decide +kernel)
theorem wC_M_areRegisters : Jvm.Cond.code ({ cls := "SignedMill", name := "areRegisters", desc := "(II)Z" } : Jvm.MethodName) prog_1_method_24_code (2 : Nat) (Option.some Jvm.ClassFile.FieldType.boolean) ∈ lw_gd := lw_in (List.mem_of_getElem? (i := 273) (by decide +kernel)) (by decide +kernel)
theorem wL_L_34 : Jvm.Cond.methodLink "SignedMillLaw" (34 : Nat) ({ cls := "SignedMill", name := "add", desc := "(III)Z" } : Jvm.MethodName) ∈ lw_gd := lw_in (List.mem_of_getElem? (i := 274) (by decide +kernel)) (by decide +kernel)
theorem wI_M_add : Jvm.Cond.instanceMethod ({ cls := "SignedMill", name := "add", desc := "(III)Z" } : Jvm.MethodName) ∈ lw_gd := lw_in (List.mem_of_getElem? (i := 275) (by decide +kernel)) (by decide +kernel)
theorem wS_M_add : Jvm.Cond.selects "SignedMill" ({ cls := "SignedMill", name := "add", desc := "(III)Z" } : Jvm.MethodName) ({ cls := "SignedMill", name := "add", desc := "(III)Z" } : Jvm.MethodName) ∈ lw_gd := lw_in (List.mem_of_getElem? (i := 276) (by decide +kernel)) (by decide +kernel)
theorem wC_M_add : Jvm.Cond.code ({ cls := "SignedMill", name := "add", desc := "(III)Z" } : Jvm.MethodName) prog_1_method_6_code (4 : Nat) (Option.some Jvm.ClassFile.FieldType.boolean) ∈ lw_gd := lw_in (List.mem_of_getElem? (i := 277) (by decide +kernel)) (by decide +kernel)
theorem wL_M_78 : Jvm.Cond.methodLink "SignedMill" (78 : Nat) ({ cls := "SignedMill", name := "keepSum", desc := "(IILSignedMill$Whole;Z)Z" } : Jvm.MethodName) ∈ lw_gd := lw_in (List.mem_of_getElem? (i := 278) (by decide +kernel)) (by decide +kernel)
theorem wI_M_keepSum : Jvm.Cond.instanceMethod ({ cls := "SignedMill", name := "keepSum", desc := "(IILSignedMill$Whole;Z)Z" } : Jvm.MethodName) ∈ lw_gd := lw_in (List.mem_of_getElem? (i := 280) (by decide +kernel)) (by decide +kernel)
theorem wC_M_keepSum : Jvm.Cond.code ({ cls := "SignedMill", name := "keepSum", desc := "(IILSignedMill$Whole;Z)Z" } : Jvm.MethodName) prog_1_method_28_code (5 : Nat) (Option.some Jvm.ClassFile.FieldType.boolean) ∈ lw_gd := lw_in (List.mem_of_getElem? (i := 281) (by decide +kernel)) (by decide +kernel)
theorem wL_M_182 : Jvm.Cond.methodLink "SignedMill" (182 : Nat) ({ cls := "SignedMill$Whole", name := "against", desc := "(LSignedMill$Whole;)I" } : Jvm.MethodName) ∈ lw_gd := lw_in (List.mem_of_getElem? (i := 282) (by decide +kernel)) (by decide +kernel)
theorem wI_W_against : Jvm.Cond.instanceMethod ({ cls := "SignedMill$Whole", name := "against", desc := "(LSignedMill$Whole;)I" } : Jvm.MethodName) ∈ lw_gd := lw_in (List.mem_of_getElem? (i := 283) (by decide +kernel)) (by decide +kernel)
theorem wS_W_against : Jvm.Cond.selects "SignedMill$Whole" ({ cls := "SignedMill$Whole", name := "against", desc := "(LSignedMill$Whole;)I" } : Jvm.MethodName) ({ cls := "SignedMill$Whole", name := "against", desc := "(LSignedMill$Whole;)I" } : Jvm.MethodName) ∈ lw_gd := lw_in (List.mem_of_getElem? (i := 284) (by decide +kernel)) (by decide +kernel)
theorem wC_W_against : Jvm.Cond.code ({ cls := "SignedMill$Whole", name := "against", desc := "(LSignedMill$Whole;)I" } : Jvm.MethodName) prog_4_method_17_code (3 : Nat) (Option.some Jvm.ClassFile.FieldType.int) ∈ lw_gd := lw_in (List.mem_of_getElem? (i := 285) (by decide +kernel)) (by decide +kernel)
theorem wL_M_102 : Jvm.Cond.methodLink "SignedMill" (102 : Nat) ({ cls := "SignedMill$Whole", name := "difference", desc := "(LSignedMill$Whole;LSignedMill$Whole;)V" } : Jvm.MethodName) ∈ lw_gd := lw_in (List.mem_of_getElem? (i := 286) (by decide +kernel)) (by decide +kernel)
theorem wI_W_difference : Jvm.Cond.instanceMethod ({ cls := "SignedMill$Whole", name := "difference", desc := "(LSignedMill$Whole;LSignedMill$Whole;)V" } : Jvm.MethodName) ∈ lw_gd := lw_in (List.mem_of_getElem? (i := 287) (by decide +kernel)) (by decide +kernel)
theorem wS_W_difference : Jvm.Cond.selects "SignedMill$Whole" ({ cls := "SignedMill$Whole", name := "difference", desc := "(LSignedMill$Whole;LSignedMill$Whole;)V" } : Jvm.MethodName) ({ cls := "SignedMill$Whole", name := "difference", desc := "(LSignedMill$Whole;LSignedMill$Whole;)V" } : Jvm.MethodName) ∈ lw_gd := lw_in (List.mem_of_getElem? (i := 288) (by decide +kernel)) (by decide +kernel)
theorem wC_W_difference : Jvm.Cond.code ({ cls := "SignedMill$Whole", name := "difference", desc := "(LSignedMill$Whole;LSignedMill$Whole;)V" } : Jvm.MethodName) prog_4_method_19_code (10 : Nat) (Option.none : Option Jvm.ClassFile.FieldType) ∈ lw_gd := lw_in (List.mem_of_getElem? (i := 289) (by decide +kernel)) (by decide +kernel)
theorem wL_L_39 : Jvm.Cond.methodLink "SignedMillLaw" (39 : Nat) ({ cls := "SignedMill", name := "take", desc := "(III)Z" } : Jvm.MethodName) ∈ lw_gd := lw_in (List.mem_of_getElem? (i := 290) (by decide +kernel)) (by decide +kernel)
theorem wI_M_take : Jvm.Cond.instanceMethod ({ cls := "SignedMill", name := "take", desc := "(III)Z" } : Jvm.MethodName) ∈ lw_gd := lw_in (List.mem_of_getElem? (i := 291) (by decide +kernel)) (by decide +kernel)
theorem wS_M_take : Jvm.Cond.selects "SignedMill" ({ cls := "SignedMill", name := "take", desc := "(III)Z" } : Jvm.MethodName) ({ cls := "SignedMill", name := "take", desc := "(III)Z" } : Jvm.MethodName) ∈ lw_gd := lw_in (List.mem_of_getElem? (i := 292) (by decide +kernel)) (by decide +kernel)
theorem wC_M_take : Jvm.Cond.code ({ cls := "SignedMill", name := "take", desc := "(III)Z" } : Jvm.MethodName) prog_1_method_7_code (4 : Nat) (Option.some Jvm.ClassFile.FieldType.boolean) ∈ lw_gd := lw_in (List.mem_of_getElem? (i := 293) (by decide +kernel)) (by decide +kernel)
theorem wL_L_43 : Jvm.Cond.methodLink "SignedMillLaw" (43 : Nat) ({ cls := "SignedMill", name := "times", desc := "(III)Z" } : Jvm.MethodName) ∈ lw_gd := lw_in (List.mem_of_getElem? (i := 294) (by decide +kernel)) (by decide +kernel)
theorem wI_M_times : Jvm.Cond.instanceMethod ({ cls := "SignedMill", name := "times", desc := "(III)Z" } : Jvm.MethodName) ∈ lw_gd := lw_in (List.mem_of_getElem? (i := 295) (by decide +kernel)) (by decide +kernel)
theorem wS_M_times : Jvm.Cond.selects "SignedMill" ({ cls := "SignedMill", name := "times", desc := "(III)Z" } : Jvm.MethodName) ({ cls := "SignedMill", name := "times", desc := "(III)Z" } : Jvm.MethodName) ∈ lw_gd := lw_in (List.mem_of_getElem? (i := 296) (by decide +kernel)) (by decide +kernel)
theorem wC_M_times : Jvm.Cond.code ({ cls := "SignedMill", name := "times", desc := "(III)Z" } : Jvm.MethodName) prog_1_method_8_code (4 : Nat) (Option.some Jvm.ClassFile.FieldType.boolean) ∈ lw_gd := lw_in (List.mem_of_getElem? (i := 297) (by decide +kernel)) (by decide +kernel)
theorem wL_M_82 : Jvm.Cond.methodLink "SignedMill" (82 : Nat) ({ cls := "SignedMill", name := "isProductTooLong", desc := "(LSignedMill$Whole;LSignedMill$Whole;)Z" } : Jvm.MethodName) ∈ lw_gd := lw_in (List.mem_of_getElem? (i := 298) (by decide +kernel)) (by decide +kernel)
theorem wT_M_isProductTooLong : Jvm.Cond.static ({ cls := "SignedMill", name := "isProductTooLong", desc := "(LSignedMill$Whole;LSignedMill$Whole;)Z" } : Jvm.MethodName) ∈ lw_gd := lw_in (List.mem_of_getElem? (i := 299) (by decide +kernel)) (by decide +kernel)
theorem wC_M_isProductTooLong : Jvm.Cond.code ({ cls := "SignedMill", name := "isProductTooLong", desc := "(LSignedMill$Whole;LSignedMill$Whole;)Z" } : Jvm.MethodName) prog_1_method_29_code (2 : Nat) (Option.some Jvm.ClassFile.FieldType.boolean) ∈ lw_gd := lw_in (List.mem_of_getElem? (i := 300) (by decide +kernel)) (by decide +kernel)
theorem wK_M_192 : Jvm.Cond.constant "SignedMill" (192 : Nat) (65537 : Int32) ∈ lw_gd := lw_in (List.mem_of_getElem? (i := 301) (by decide +kernel)) (by decide +kernel)
theorem wL_M_86 : Jvm.Cond.methodLink "SignedMill" (86 : Nat) ({ cls := "SignedMill$Whole", name := "product", desc := "(LSignedMill$Whole;LSignedMill$Whole;)V" } : Jvm.MethodName) ∈ lw_gd := lw_in (List.mem_of_getElem? (i := 302) (by decide +kernel)) (by decide +kernel)
theorem wI_W_product : Jvm.Cond.instanceMethod ({ cls := "SignedMill$Whole", name := "product", desc := "(LSignedMill$Whole;LSignedMill$Whole;)V" } : Jvm.MethodName) ∈ lw_gd := lw_in (List.mem_of_getElem? (i := 303) (by decide +kernel)) (by decide +kernel)
theorem wS_W_product : Jvm.Cond.selects "SignedMill$Whole" ({ cls := "SignedMill$Whole", name := "product", desc := "(LSignedMill$Whole;LSignedMill$Whole;)V" } : Jvm.MethodName) ({ cls := "SignedMill$Whole", name := "product", desc := "(LSignedMill$Whole;LSignedMill$Whole;)V" } : Jvm.MethodName) ∈ lw_gd := lw_in (List.mem_of_getElem? (i := 304) (by decide +kernel)) (by decide +kernel)
theorem wC_W_product : Jvm.Cond.code ({ cls := "SignedMill$Whole", name := "product", desc := "(LSignedMill$Whole;LSignedMill$Whole;)V" } : Jvm.MethodName) prog_4_method_20_code (5 : Nat) (Option.none : Option Jvm.ClassFile.FieldType) ∈ lw_gd := lw_in (List.mem_of_getElem? (i := 305) (by decide +kernel)) (by decide +kernel)
theorem wL_W_66 : Jvm.Cond.methodLink "SignedMill$Whole" (66 : Nat) ({ cls := "SignedMill$Whole", name := "clear", desc := "()V" } : Jvm.MethodName) ∈ lw_gd := lw_in (List.mem_of_getElem? (i := 306) (by decide +kernel)) (by decide +kernel)
theorem wI_W_clear : Jvm.Cond.instanceMethod ({ cls := "SignedMill$Whole", name := "clear", desc := "()V" } : Jvm.MethodName) ∈ lw_gd := lw_in (List.mem_of_getElem? (i := 307) (by decide +kernel)) (by decide +kernel)
theorem wS_W_clear : Jvm.Cond.selects "SignedMill$Whole" ({ cls := "SignedMill$Whole", name := "clear", desc := "()V" } : Jvm.MethodName) ({ cls := "SignedMill$Whole", name := "clear", desc := "()V" } : Jvm.MethodName) ∈ lw_gd := lw_in (List.mem_of_getElem? (i := 308) (by decide +kernel)) (by decide +kernel)
theorem wC_W_clear : Jvm.Cond.code ({ cls := "SignedMill$Whole", name := "clear", desc := "()V" } : Jvm.MethodName) prog_4_method_5_code (1 : Nat) (Option.none : Option Jvm.ClassFile.FieldType) ∈ lw_gd := lw_in (List.mem_of_getElem? (i := 309) (by decide +kernel)) (by decide +kernel)
theorem wL_W_69 : Jvm.Cond.methodLink "SignedMill$Whole" (69 : Nat) ({ cls := "SignedMill$Whole", name := "widen", desc := "(I)V" } : Jvm.MethodName) ∈ lw_gd := lw_in (List.mem_of_getElem? (i := 310) (by decide +kernel)) (by decide +kernel)
theorem wI_W_widen : Jvm.Cond.instanceMethod ({ cls := "SignedMill$Whole", name := "widen", desc := "(I)V" } : Jvm.MethodName) ∈ lw_gd := lw_in (List.mem_of_getElem? (i := 311) (by decide +kernel)) (by decide +kernel)
theorem wS_W_widen : Jvm.Cond.selects "SignedMill$Whole" ({ cls := "SignedMill$Whole", name := "widen", desc := "(I)V" } : Jvm.MethodName) ({ cls := "SignedMill$Whole", name := "widen", desc := "(I)V" } : Jvm.MethodName) ∈ lw_gd := lw_in (List.mem_of_getElem? (i := 312) (by decide +kernel)) (by decide +kernel)
theorem wC_W_widen : Jvm.Cond.code ({ cls := "SignedMill$Whole", name := "widen", desc := "(I)V" } : Jvm.MethodName) prog_4_method_3_code (3 : Nat) (Option.none : Option Jvm.ClassFile.FieldType) ∈ lw_gd := lw_in (List.mem_of_getElem? (i := 313) (by decide +kernel)) (by decide +kernel)
theorem wL_W_72 : Jvm.Cond.methodLink "SignedMill$Whole" (72 : Nat) ({ cls := "SignedMill$Whole", name := "addMultiple", desc := "(IJLSignedMill$Whole;)V" } : Jvm.MethodName) ∈ lw_gd := lw_in (List.mem_of_getElem? (i := 314) (by decide +kernel)) (by decide +kernel)
theorem wI_W_addMultiple : Jvm.Cond.instanceMethod ({ cls := "SignedMill$Whole", name := "addMultiple", desc := "(IJLSignedMill$Whole;)V" } : Jvm.MethodName) ∈ lw_gd := lw_in (List.mem_of_getElem? (i := 316) (by decide +kernel)) (by decide +kernel)
theorem wC_W_addMultiple : Jvm.Cond.code ({ cls := "SignedMill$Whole", name := "addMultiple", desc := "(IJLSignedMill$Whole;)V" } : Jvm.MethodName) prog_4_method_21_code (13 : Nat) (Option.none : Option Jvm.ClassFile.FieldType) ∈ lw_gd := lw_in (List.mem_of_getElem? (i := 317) (by decide +kernel)) (by decide +kernel)
theorem wL_L_47 : Jvm.Cond.methodLink "SignedMillLaw" (47 : Nat) ({ cls := "SignedMill", name := "divide", desc := "(IIIIZ)Z" } : Jvm.MethodName) ∈ lw_gd := lw_in (List.mem_of_getElem? (i := 318) (by decide +kernel)) (by decide +kernel)
theorem wI_M_divide : Jvm.Cond.instanceMethod ({ cls := "SignedMill", name := "divide", desc := "(IIIIZ)Z" } : Jvm.MethodName) ∈ lw_gd := lw_in (List.mem_of_getElem? (i := 319) (by decide +kernel)) (by decide +kernel)
theorem wS_M_divide : Jvm.Cond.selects "SignedMill" ({ cls := "SignedMill", name := "divide", desc := "(IIIIZ)Z" } : Jvm.MethodName) ({ cls := "SignedMill", name := "divide", desc := "(IIIIZ)Z" } : Jvm.MethodName) ∈ lw_gd := lw_in (List.mem_of_getElem? (i := 320) (by decide +kernel)) (by decide +kernel)
theorem wC_M_divide : Jvm.Cond.code ({ cls := "SignedMill", name := "divide", desc := "(IIIIZ)Z" } : Jvm.MethodName) prog_1_method_9_code (8 : Nat) (Option.some Jvm.ClassFile.FieldType.boolean) ∈ lw_gd := lw_in (List.mem_of_getElem? (i := 321) (by decide +kernel)) (by decide +kernel)
theorem wL_M_93 : Jvm.Cond.methodLink "SignedMill" (93 : Nat) ({ cls := "SignedMill$Divider", name := "run", desc := "(LSignedMill$Whole;LSignedMill$Whole;)V" } : Jvm.MethodName) ∈ lw_gd := lw_in (List.mem_of_getElem? (i := 322) (by decide +kernel)) (by decide +kernel)
theorem wI_D_run : Jvm.Cond.instanceMethod ({ cls := "SignedMill$Divider", name := "run", desc := "(LSignedMill$Whole;LSignedMill$Whole;)V" } : Jvm.MethodName) ∈ lw_gd := lw_in (List.mem_of_getElem? (i := 323) (by decide +kernel)) (by decide +kernel)
theorem wS_D_run : Jvm.Cond.selects "SignedMill$Divider" ({ cls := "SignedMill$Divider", name := "run", desc := "(LSignedMill$Whole;LSignedMill$Whole;)V" } : Jvm.MethodName) ({ cls := "SignedMill$Divider", name := "run", desc := "(LSignedMill$Whole;LSignedMill$Whole;)V" } : Jvm.MethodName) ∈ lw_gd := lw_in (List.mem_of_getElem? (i := 324) (by decide +kernel)) (by decide +kernel)
theorem wC_D_run : Jvm.Cond.code ({ cls := "SignedMill$Divider", name := "run", desc := "(LSignedMill$Whole;LSignedMill$Whole;)V" } : Jvm.MethodName) prog_2_method_2_code (7 : Nat) (Option.none : Option Jvm.ClassFile.FieldType) ∈ lw_gd := lw_in (List.mem_of_getElem? (i := 325) (by decide +kernel)) (by decide +kernel)
theorem wL_D_24 : Jvm.Cond.methodLink "SignedMill$Divider" (24 : Nat) ({ cls := "SignedMill$Whole", name := "isZero", desc := "()Z" } : Jvm.MethodName) ∈ lw_gd := lw_in (List.mem_of_getElem? (i := 326) (by decide +kernel)) (by decide +kernel)
theorem wL_D_28 : Jvm.Cond.methodLink "SignedMill$Divider" (28 : Nat) ({ cls := "SignedMill$Whole", name := "against", desc := "(LSignedMill$Whole;)I" } : Jvm.MethodName) ∈ lw_gd := lw_in (List.mem_of_getElem? (i := 327) (by decide +kernel)) (by decide +kernel)
theorem wL_D_32 : Jvm.Cond.methodLink "SignedMill$Divider" (32 : Nat) ({ cls := "SignedMill$Whole", name := "clear", desc := "()V" } : Jvm.MethodName) ∈ lw_gd := lw_in (List.mem_of_getElem? (i := 328) (by decide +kernel)) (by decide +kernel)
theorem wL_D_35 : Jvm.Cond.methodLink "SignedMill$Divider" (35 : Nat) ({ cls := "SignedMill$Whole", name := "copy", desc := "(LSignedMill$Whole;)V" } : Jvm.MethodName) ∈ lw_gd := lw_in (List.mem_of_getElem? (i := 329) (by decide +kernel)) (by decide +kernel)
theorem wL_D_43 : Jvm.Cond.methodLink "SignedMill$Divider" (43 : Nat) ({ cls := "SignedMill$Whole", name := "bits", desc := "()I" } : Jvm.MethodName) ∈ lw_gd := lw_in (List.mem_of_getElem? (i := 330) (by decide +kernel)) (by decide +kernel)
theorem wL_D_47 : Jvm.Cond.methodLink "SignedMill$Divider" (47 : Nat) ({ cls := "SignedMill$Whole", name := "raise", desc := "(LSignedMill$Whole;I)V" } : Jvm.MethodName) ∈ lw_gd := lw_in (List.mem_of_getElem? (i := 331) (by decide +kernel)) (by decide +kernel)
theorem wL_D_51 : Jvm.Cond.methodLink "SignedMill$Divider" (51 : Nat) ({ cls := "SignedMill$Whole", name := "widen", desc := "(I)V" } : Jvm.MethodName) ∈ lw_gd := lw_in (List.mem_of_getElem? (i := 332) (by decide +kernel)) (by decide +kernel)
theorem wL_D_55 : Jvm.Cond.methodLink "SignedMill$Divider" (55 : Nat) ({ cls := "SignedMill$Whole", name := "room", desc := "(I)V" } : Jvm.MethodName) ∈ lw_gd := lw_in (List.mem_of_getElem? (i := 333) (by decide +kernel)) (by decide +kernel)
theorem wL_D_62 : Jvm.Cond.methodLink "SignedMill$Divider" (62 : Nat) ({ cls := "SignedMill$Divider", name := "takeOut", desc := "(II)J" } : Jvm.MethodName) ∈ lw_gd := lw_in (List.mem_of_getElem? (i := 334) (by decide +kernel)) (by decide +kernel)
theorem wI_D_takeOut : Jvm.Cond.instanceMethod ({ cls := "SignedMill$Divider", name := "takeOut", desc := "(II)J" } : Jvm.MethodName) ∈ lw_gd := lw_in (List.mem_of_getElem? (i := 336) (by decide +kernel)) (by decide +kernel)
theorem wC_D_takeOut : Jvm.Cond.code ({ cls := "SignedMill$Divider", name := "takeOut", desc := "(II)J" } : Jvm.MethodName) prog_2_method_3_code (5 : Nat) (Option.some Jvm.ClassFile.FieldType.long) ∈ lw_gd := lw_in (List.mem_of_getElem? (i := 337) (by decide +kernel)) (by decide +kernel)
theorem wL_D_72 : Jvm.Cond.methodLink "SignedMill$Divider" (72 : Nat) ({ cls := "SignedMill$Divider", name := "guess", desc := "(II)J" } : Jvm.MethodName) ∈ lw_gd := lw_in (List.mem_of_getElem? (i := 338) (by decide +kernel)) (by decide +kernel)
theorem wI_D_guess : Jvm.Cond.instanceMethod ({ cls := "SignedMill$Divider", name := "guess", desc := "(II)J" } : Jvm.MethodName) ∈ lw_gd := lw_in (List.mem_of_getElem? (i := 340) (by decide +kernel)) (by decide +kernel)
theorem wC_D_guess : Jvm.Cond.code ({ cls := "SignedMill$Divider", name := "guess", desc := "(II)J" } : Jvm.MethodName) prog_2_method_4_code (17 : Nat) (Option.some Jvm.ClassFile.FieldType.long) ∈ lw_gd := lw_in (List.mem_of_getElem? (i := 341) (by decide +kernel)) (by decide +kernel)
theorem wK_D_83 : Jvm.Cond.constantLong "SignedMill$Divider" (83 : Nat) (4294967295 : Int64) ∈ lw_gd := lw_in (List.mem_of_getElem? (i := 342) (by decide +kernel)) (by decide +kernel)
theorem wL_D_85 : Jvm.Cond.methodLink "SignedMill$Divider" (85 : Nat) ({ cls := "SignedMill$Divider", name := "quotientOfPair", desc := "(JJ)J" } : Jvm.MethodName) ∈ lw_gd := lw_in (List.mem_of_getElem? (i := 343) (by decide +kernel)) (by decide +kernel)
theorem wT_D_quotientOfPair : Jvm.Cond.static ({ cls := "SignedMill$Divider", name := "quotientOfPair", desc := "(JJ)J" } : Jvm.MethodName) ∈ lw_gd := lw_in (List.mem_of_getElem? (i := 344) (by decide +kernel)) (by decide +kernel)
theorem wC_D_quotientOfPair : Jvm.Cond.code ({ cls := "SignedMill$Divider", name := "quotientOfPair", desc := "(JJ)J" } : Jvm.MethodName) prog_2_method_5_code (6 : Nat) (Option.some Jvm.ClassFile.FieldType.long) ∈ lw_gd := lw_in (List.mem_of_getElem? (i := 345) (by decide +kernel)) (by decide +kernel)
theorem wL_D_89 : Jvm.Cond.methodLink "SignedMill$Divider" (89 : Nat) ({ cls := "java/lang/Long", name := "compareUnsigned", desc := "(JJ)I" } : Jvm.MethodName) ∈ lw_gd := lw_in (List.mem_of_getElem? (i := 346) (by decide +kernel)) (by decide +kernel)
theorem wT_JL_compareUnsigned : Jvm.Cond.static ({ cls := "java/lang/Long", name := "compareUnsigned", desc := "(JJ)I" } : Jvm.MethodName) ∈ lw_gd := lw_in (List.mem_of_getElem? (i := 347) (by decide +kernel)) (by decide +kernel)
theorem wC_JL_compareUnsigned : Jvm.Cond.code ({ cls := "java/lang/Long", name := "compareUnsigned", desc := "(JJ)I" } : Jvm.MethodName) prog_9_method_43_code (4 : Nat) (Option.some Jvm.ClassFile.FieldType.int) ∈ lw_gd := lw_in (List.mem_of_getElem? (i := 348) (by decide +kernel)) (by decide +kernel)
theorem wK_JL_168 : Jvm.Cond.constantLong "java/lang/Long" (168 : Nat) (-9223372036854775808 : Int64) ∈ lw_gd := lw_in (List.mem_of_getElem? (i := 349) (by decide +kernel)) (by decide +kernel)
theorem wL_JL_302 : Jvm.Cond.methodLink "java/lang/Long" (302 : Nat) ({ cls := "java/lang/Long", name := "compare", desc := "(JJ)I" } : Jvm.MethodName) ∈ lw_gd := lw_in (List.mem_of_getElem? (i := 350) (by decide +kernel)) (by decide +kernel)
theorem wT_JL_compare : Jvm.Cond.static ({ cls := "java/lang/Long", name := "compare", desc := "(JJ)I" } : Jvm.MethodName) ∈ lw_gd := lw_in (List.mem_of_getElem? (i := 351) (by decide +kernel)) (by decide +kernel)
theorem wC_JL_compare : Jvm.Cond.code ({ cls := "java/lang/Long", name := "compare", desc := "(JJ)I" } : Jvm.MethodName) prog_9_method_42_code (4 : Nat) (Option.some Jvm.ClassFile.FieldType.int) ∈ lw_gd := lw_in (List.mem_of_getElem? (i := 352) (by decide +kernel)) (by decide +kernel)
theorem wL_D_75 : Jvm.Cond.methodLink "SignedMill$Divider" (75 : Nat) ({ cls := "SignedMill$Divider", name := "subtract", desc := "(IIJ)Z" } : Jvm.MethodName) ∈ lw_gd := lw_in (List.mem_of_getElem? (i := 353) (by decide +kernel)) (by decide +kernel)
theorem wI_D_subtract : Jvm.Cond.instanceMethod ({ cls := "SignedMill$Divider", name := "subtract", desc := "(IIJ)Z" } : Jvm.MethodName) ∈ lw_gd := lw_in (List.mem_of_getElem? (i := 355) (by decide +kernel)) (by decide +kernel)
theorem wC_D_subtract : Jvm.Cond.code ({ cls := "SignedMill$Divider", name := "subtract", desc := "(IIJ)Z" } : Jvm.MethodName) prog_2_method_6_code (14 : Nat) (Option.some Jvm.ClassFile.FieldType.boolean) ∈ lw_gd := lw_in (List.mem_of_getElem? (i := 356) (by decide +kernel)) (by decide +kernel)
theorem wL_D_79 : Jvm.Cond.methodLink "SignedMill$Divider" (79 : Nat) ({ cls := "SignedMill$Divider", name := "addBack", desc := "(II)V" } : Jvm.MethodName) ∈ lw_gd := lw_in (List.mem_of_getElem? (i := 357) (by decide +kernel)) (by decide +kernel)
theorem wI_D_addBack : Jvm.Cond.instanceMethod ({ cls := "SignedMill$Divider", name := "addBack", desc := "(II)V" } : Jvm.MethodName) ∈ lw_gd := lw_in (List.mem_of_getElem? (i := 359) (by decide +kernel)) (by decide +kernel)
theorem wC_D_addBack : Jvm.Cond.code ({ cls := "SignedMill$Divider", name := "addBack", desc := "(II)V" } : Jvm.MethodName) prog_2_method_7_code (10 : Nat) (Option.none : Option Jvm.ClassFile.FieldType) ∈ lw_gd := lw_in (List.mem_of_getElem? (i := 360) (by decide +kernel)) (by decide +kernel)
theorem wL_D_66 : Jvm.Cond.methodLink "SignedMill$Divider" (66 : Nat) ({ cls := "SignedMill$Whole", name := "trim", desc := "(I)V" } : Jvm.MethodName) ∈ lw_gd := lw_in (List.mem_of_getElem? (i := 361) (by decide +kernel)) (by decide +kernel)
theorem wL_D_69 : Jvm.Cond.methodLink "SignedMill$Divider" (69 : Nat) ({ cls := "SignedMill$Whole", name := "lower", desc := "(LSignedMill$Whole;I)V" } : Jvm.MethodName) ∈ lw_gd := lw_in (List.mem_of_getElem? (i := 362) (by decide +kernel)) (by decide +kernel)
theorem wI_W_lower : Jvm.Cond.instanceMethod ({ cls := "SignedMill$Whole", name := "lower", desc := "(LSignedMill$Whole;I)V" } : Jvm.MethodName) ∈ lw_gd := lw_in (List.mem_of_getElem? (i := 363) (by decide +kernel)) (by decide +kernel)
theorem wS_W_lower : Jvm.Cond.selects "SignedMill$Whole" ({ cls := "SignedMill$Whole", name := "lower", desc := "(LSignedMill$Whole;I)V" } : Jvm.MethodName) ({ cls := "SignedMill$Whole", name := "lower", desc := "(LSignedMill$Whole;I)V" } : Jvm.MethodName) ∈ lw_gd := lw_in (List.mem_of_getElem? (i := 364) (by decide +kernel)) (by decide +kernel)
theorem wC_W_lower : Jvm.Cond.code ({ cls := "SignedMill$Whole", name := "lower", desc := "(LSignedMill$Whole;I)V" } : Jvm.MethodName) prog_4_method_23_code (10 : Nat) (Option.none : Option Jvm.ClassFile.FieldType) ∈ lw_gd := lw_in (List.mem_of_getElem? (i := 365) (by decide +kernel)) (by decide +kernel)
theorem wL_L_52 : Jvm.Cond.methodLink "SignedMillLaw" (52 : Nat) ({ cls := "SignedMill", name := "logic", desc := "(IIII)Z" } : Jvm.MethodName) ∈ lw_gd := lw_in (List.mem_of_getElem? (i := 366) (by decide +kernel)) (by decide +kernel)
theorem wI_M_logic : Jvm.Cond.instanceMethod ({ cls := "SignedMill", name := "logic", desc := "(IIII)Z" } : Jvm.MethodName) ∈ lw_gd := lw_in (List.mem_of_getElem? (i := 367) (by decide +kernel)) (by decide +kernel)
theorem wS_M_logic : Jvm.Cond.selects "SignedMill" ({ cls := "SignedMill", name := "logic", desc := "(IIII)Z" } : Jvm.MethodName) ({ cls := "SignedMill", name := "logic", desc := "(IIII)Z" } : Jvm.MethodName) ∈ lw_gd := lw_in (List.mem_of_getElem? (i := 368) (by decide +kernel)) (by decide +kernel)
theorem wC_M_logic : Jvm.Cond.code ({ cls := "SignedMill", name := "logic", desc := "(IIII)Z" } : Jvm.MethodName) prog_1_method_10_code (9 : Nat) (Option.some Jvm.ClassFile.FieldType.boolean) ∈ lw_gd := lw_in (List.mem_of_getElem? (i := 369) (by decide +kernel)) (by decide +kernel)
theorem wL_M_113 : Jvm.Cond.methodLink "SignedMill" (113 : Nat) ({ cls := "java/lang/Math", name := "max", desc := "(II)I" } : Jvm.MethodName) ∈ lw_gd := lw_in (List.mem_of_getElem? (i := 370) (by decide +kernel)) (by decide +kernel)
theorem wL_M_119 : Jvm.Cond.methodLink "SignedMill" (119 : Nat) ({ cls := "SignedMill$Whole", name := "firstDigit", desc := "()I" } : Jvm.MethodName) ∈ lw_gd := lw_in (List.mem_of_getElem? (i := 371) (by decide +kernel)) (by decide +kernel)
theorem wI_W_firstDigit : Jvm.Cond.instanceMethod ({ cls := "SignedMill$Whole", name := "firstDigit", desc := "()I" } : Jvm.MethodName) ∈ lw_gd := lw_in (List.mem_of_getElem? (i := 372) (by decide +kernel)) (by decide +kernel)
theorem wS_W_firstDigit : Jvm.Cond.selects "SignedMill$Whole" ({ cls := "SignedMill$Whole", name := "firstDigit", desc := "()I" } : Jvm.MethodName) ({ cls := "SignedMill$Whole", name := "firstDigit", desc := "()I" } : Jvm.MethodName) ∈ lw_gd := lw_in (List.mem_of_getElem? (i := 373) (by decide +kernel)) (by decide +kernel)
theorem wC_W_firstDigit : Jvm.Cond.code ({ cls := "SignedMill$Whole", name := "firstDigit", desc := "()I" } : Jvm.MethodName) prog_4_method_14_code (2 : Nat) (Option.some Jvm.ClassFile.FieldType.int) ∈ lw_gd := lw_in (List.mem_of_getElem? (i := 374) (by decide +kernel)) (by decide +kernel)
theorem wL_M_123 : Jvm.Cond.methodLink "SignedMill" (123 : Nat) ({ cls := "SignedMill$Whole", name := "room", desc := "(I)V" } : Jvm.MethodName) ∈ lw_gd := lw_in (List.mem_of_getElem? (i := 375) (by decide +kernel)) (by decide +kernel)
theorem wL_M_131 : Jvm.Cond.methodLink "SignedMill" (131 : Nat) ({ cls := "SignedMill", name := "endlessDigit", desc := "(III)J" } : Jvm.MethodName) ∈ lw_gd := lw_in (List.mem_of_getElem? (i := 376) (by decide +kernel)) (by decide +kernel)
theorem wI_M_endlessDigit : Jvm.Cond.instanceMethod ({ cls := "SignedMill", name := "endlessDigit", desc := "(III)J" } : Jvm.MethodName) ∈ lw_gd := lw_in (List.mem_of_getElem? (i := 378) (by decide +kernel)) (by decide +kernel)
theorem wC_M_endlessDigit : Jvm.Cond.code ({ cls := "SignedMill", name := "endlessDigit", desc := "(III)J" } : Jvm.MethodName) prog_1_method_30_code (6 : Nat) (Option.some Jvm.ClassFile.FieldType.long) ∈ lw_gd := lw_in (List.mem_of_getElem? (i := 379) (by decide +kernel)) (by decide +kernel)
theorem wL_M_193 : Jvm.Cond.methodLink "SignedMill" (193 : Nat) ({ cls := "SignedMill$Whole", name := "digitAt", desc := "(I)J" } : Jvm.MethodName) ∈ lw_gd := lw_in (List.mem_of_getElem? (i := 380) (by decide +kernel)) (by decide +kernel)
theorem wI_W_digitAt : Jvm.Cond.instanceMethod ({ cls := "SignedMill$Whole", name := "digitAt", desc := "(I)J" } : Jvm.MethodName) ∈ lw_gd := lw_in (List.mem_of_getElem? (i := 381) (by decide +kernel)) (by decide +kernel)
theorem wS_W_digitAt : Jvm.Cond.selects "SignedMill$Whole" ({ cls := "SignedMill$Whole", name := "digitAt", desc := "(I)J" } : Jvm.MethodName) ({ cls := "SignedMill$Whole", name := "digitAt", desc := "(I)J" } : Jvm.MethodName) ∈ lw_gd := lw_in (List.mem_of_getElem? (i := 382) (by decide +kernel)) (by decide +kernel)
theorem wC_W_digitAt : Jvm.Cond.code ({ cls := "SignedMill$Whole", name := "digitAt", desc := "(I)J" } : Jvm.MethodName) prog_4_method_10_code (2 : Nat) (Option.some Jvm.ClassFile.FieldType.long) ∈ lw_gd := lw_in (List.mem_of_getElem? (i := 383) (by decide +kernel)) (by decide +kernel)
theorem wK_M_197 : Jvm.Cond.constantLong "SignedMill" (197 : Nat) (-1 : Int64) ∈ lw_gd := lw_in (List.mem_of_getElem? (i := 384) (by decide +kernel)) (by decide +kernel)
theorem wK_M_199 : Jvm.Cond.constantLong "SignedMill" (199 : Nat) (4294967295 : Int64) ∈ lw_gd := lw_in (List.mem_of_getElem? (i := 385) (by decide +kernel)) (by decide +kernel)
theorem wL_M_135 : Jvm.Cond.methodLink "SignedMill" (135 : Nat) ({ cls := "SignedMill", name := "join", desc := "(JJI)J" } : Jvm.MethodName) ∈ lw_gd := lw_in (List.mem_of_getElem? (i := 386) (by decide +kernel)) (by decide +kernel)
theorem wT_M_join : Jvm.Cond.static ({ cls := "SignedMill", name := "join", desc := "(JJI)J" } : Jvm.MethodName) ∈ lw_gd := lw_in (List.mem_of_getElem? (i := 387) (by decide +kernel)) (by decide +kernel)
theorem wC_M_join : Jvm.Cond.code ({ cls := "SignedMill", name := "join", desc := "(JJI)J" } : Jvm.MethodName) prog_1_method_31_code (5 : Nat) (Option.some Jvm.ClassFile.FieldType.long) ∈ lw_gd := lw_in (List.mem_of_getElem? (i := 388) (by decide +kernel)) (by decide +kernel)
theorem wL_M_139 : Jvm.Cond.methodLink "SignedMill" (139 : Nat) ({ cls := "SignedMill$Whole", name := "turnOver", desc := "(I)V" } : Jvm.MethodName) ∈ lw_gd := lw_in (List.mem_of_getElem? (i := 389) (by decide +kernel)) (by decide +kernel)
theorem wI_W_turnOver : Jvm.Cond.instanceMethod ({ cls := "SignedMill$Whole", name := "turnOver", desc := "(I)V" } : Jvm.MethodName) ∈ lw_gd := lw_in (List.mem_of_getElem? (i := 390) (by decide +kernel)) (by decide +kernel)
theorem wS_W_turnOver : Jvm.Cond.selects "SignedMill$Whole" ({ cls := "SignedMill$Whole", name := "turnOver", desc := "(I)V" } : Jvm.MethodName) ({ cls := "SignedMill$Whole", name := "turnOver", desc := "(I)V" } : Jvm.MethodName) ∈ lw_gd := lw_in (List.mem_of_getElem? (i := 391) (by decide +kernel)) (by decide +kernel)
theorem wC_W_turnOver : Jvm.Cond.code ({ cls := "SignedMill$Whole", name := "turnOver", desc := "(I)V" } : Jvm.MethodName) prog_4_method_24_code (7 : Nat) (Option.none : Option Jvm.ClassFile.FieldType) ∈ lw_gd := lw_in (List.mem_of_getElem? (i := 392) (by decide +kernel)) (by decide +kernel)
theorem wK_W_76 : Jvm.Cond.constantLong "SignedMill$Whole" (76 : Nat) (-1 : Int64) ∈ lw_gd := lw_in (List.mem_of_getElem? (i := 393) (by decide +kernel)) (by decide +kernel)
theorem wL_M_142 : Jvm.Cond.methodLink "SignedMill" (142 : Nat) ({ cls := "SignedMill$Whole", name := "trim", desc := "(I)V" } : Jvm.MethodName) ∈ lw_gd := lw_in (List.mem_of_getElem? (i := 394) (by decide +kernel)) (by decide +kernel)
theorem wL_L_57 : Jvm.Cond.methodLink "SignedMillLaw" (57 : Nat) ({ cls := "SignedMill", name := "shift", desc := "(III)Z" } : Jvm.MethodName) ∈ lw_gd := lw_in (List.mem_of_getElem? (i := 395) (by decide +kernel)) (by decide +kernel)
theorem wI_M_shift : Jvm.Cond.instanceMethod ({ cls := "SignedMill", name := "shift", desc := "(III)Z" } : Jvm.MethodName) ∈ lw_gd := lw_in (List.mem_of_getElem? (i := 396) (by decide +kernel)) (by decide +kernel)
theorem wS_M_shift : Jvm.Cond.selects "SignedMill" ({ cls := "SignedMill", name := "shift", desc := "(III)Z" } : Jvm.MethodName) ({ cls := "SignedMill", name := "shift", desc := "(III)Z" } : Jvm.MethodName) ∈ lw_gd := lw_in (List.mem_of_getElem? (i := 397) (by decide +kernel)) (by decide +kernel)
theorem wC_M_shift : Jvm.Cond.code ({ cls := "SignedMill", name := "shift", desc := "(III)Z" } : Jvm.MethodName) prog_1_method_11_code (4 : Nat) (Option.some Jvm.ClassFile.FieldType.boolean) ∈ lw_gd := lw_in (List.mem_of_getElem? (i := 398) (by decide +kernel)) (by decide +kernel)
theorem wL_M_145 : Jvm.Cond.methodLink "SignedMill" (145 : Nat) ({ cls := "SignedMill", name := "shiftUp", desc := "(III)Z" } : Jvm.MethodName) ∈ lw_gd := lw_in (List.mem_of_getElem? (i := 399) (by decide +kernel)) (by decide +kernel)
theorem wI_M_shiftUp : Jvm.Cond.instanceMethod ({ cls := "SignedMill", name := "shiftUp", desc := "(III)Z" } : Jvm.MethodName) ∈ lw_gd := lw_in (List.mem_of_getElem? (i := 401) (by decide +kernel)) (by decide +kernel)
theorem wC_M_shiftUp : Jvm.Cond.code ({ cls := "SignedMill", name := "shiftUp", desc := "(III)Z" } : Jvm.MethodName) prog_1_method_32_code (4 : Nat) (Option.some Jvm.ClassFile.FieldType.boolean) ∈ lw_gd := lw_in (List.mem_of_getElem? (i := 402) (by decide +kernel)) (by decide +kernel)
theorem wL_M_201 : Jvm.Cond.methodLink "SignedMill" (201 : Nat) ({ cls := "SignedMill$Whole", name := "clear", desc := "()V" } : Jvm.MethodName) ∈ lw_gd := lw_in (List.mem_of_getElem? (i := 403) (by decide +kernel)) (by decide +kernel)
theorem wK_M_149 : Jvm.Cond.constant "SignedMill" (149 : Nat) (-65536 : Int32) ∈ lw_gd := lw_in (List.mem_of_getElem? (i := 404) (by decide +kernel)) (by decide +kernel)
theorem wL_M_151 : Jvm.Cond.methodLink "SignedMill" (151 : Nat) ({ cls := "SignedMill", name := "shiftDown", desc := "(III)Z" } : Jvm.MethodName) ∈ lw_gd := lw_in (List.mem_of_getElem? (i := 405) (by decide +kernel)) (by decide +kernel)
theorem wI_M_shiftDown : Jvm.Cond.instanceMethod ({ cls := "SignedMill", name := "shiftDown", desc := "(III)Z" } : Jvm.MethodName) ∈ lw_gd := lw_in (List.mem_of_getElem? (i := 407) (by decide +kernel)) (by decide +kernel)
theorem wC_M_shiftDown : Jvm.Cond.code ({ cls := "SignedMill", name := "shiftDown", desc := "(III)Z" } : Jvm.MethodName) prog_1_method_33_code (5 : Nat) (Option.some Jvm.ClassFile.FieldType.boolean) ∈ lw_gd := lw_in (List.mem_of_getElem? (i := 408) (by decide +kernel)) (by decide +kernel)
theorem wL_M_186 : Jvm.Cond.methodLink "SignedMill" (186 : Nat) ({ cls := "SignedMill$Whole", name := "lowestOne", desc := "()I" } : Jvm.MethodName) ∈ lw_gd := lw_in (List.mem_of_getElem? (i := 409) (by decide +kernel)) (by decide +kernel)
theorem wI_W_lowestOne : Jvm.Cond.instanceMethod ({ cls := "SignedMill$Whole", name := "lowestOne", desc := "()I" } : Jvm.MethodName) ∈ lw_gd := lw_in (List.mem_of_getElem? (i := 410) (by decide +kernel)) (by decide +kernel)
theorem wS_W_lowestOne : Jvm.Cond.selects "SignedMill$Whole" ({ cls := "SignedMill$Whole", name := "lowestOne", desc := "()I" } : Jvm.MethodName) ({ cls := "SignedMill$Whole", name := "lowestOne", desc := "()I" } : Jvm.MethodName) ∈ lw_gd := lw_in (List.mem_of_getElem? (i := 411) (by decide +kernel)) (by decide +kernel)
theorem wC_W_lowestOne : Jvm.Cond.code ({ cls := "SignedMill$Whole", name := "lowestOne", desc := "()I" } : Jvm.MethodName) prog_4_method_15_code (2 : Nat) (Option.some Jvm.ClassFile.FieldType.int) ∈ lw_gd := lw_in (List.mem_of_getElem? (i := 412) (by decide +kernel)) (by decide +kernel)
theorem wL_W_56 : Jvm.Cond.methodLink "SignedMill$Whole" (56 : Nat) ({ cls := "SignedMill$Whole", name := "firstDigit", desc := "()I" } : Jvm.MethodName) ∈ lw_gd := lw_in (List.mem_of_getElem? (i := 413) (by decide +kernel)) (by decide +kernel)
theorem wL_W_60 : Jvm.Cond.methodLink "SignedMill$Whole" (60 : Nat) ({ cls := "java/lang/Long", name := "numberOfTrailingZeros", desc := "(J)I" } : Jvm.MethodName) ∈ lw_gd := lw_in (List.mem_of_getElem? (i := 414) (by decide +kernel)) (by decide +kernel)
theorem wT_JL_numberOfTrailingZeros : Jvm.Cond.static ({ cls := "java/lang/Long", name := "numberOfTrailingZeros", desc := "(J)I" } : Jvm.MethodName) ∈ lw_gd := lw_in (List.mem_of_getElem? (i := 415) (by decide +kernel)) (by decide +kernel)
theorem wC_JL_numberOfTrailingZeros : Jvm.Cond.code ({ cls := "java/lang/Long", name := "numberOfTrailingZeros", desc := "(J)I" } : Jvm.MethodName) prog_9_method_49_code (3 : Nat) (Option.some Jvm.ClassFile.FieldType.int) ∈ lw_gd := lw_in (List.mem_of_getElem? (i := 416) (by decide +kernel)) (by decide +kernel)
theorem wL_JL_311 : Jvm.Cond.methodLink "java/lang/Long" (311 : Nat) ({ cls := "java/lang/Integer", name := "numberOfTrailingZeros", desc := "(I)I" } : Jvm.MethodName) ∈ lw_gd := lw_in (List.mem_of_getElem? (i := 417) (by decide +kernel)) (by decide +kernel)
theorem wT_JI_numberOfTrailingZeros : Jvm.Cond.static ({ cls := "java/lang/Integer", name := "numberOfTrailingZeros", desc := "(I)I" } : Jvm.MethodName) ∈ lw_gd := lw_in (List.mem_of_getElem? (i := 418) (by decide +kernel)) (by decide +kernel)
theorem wC_JI_numberOfTrailingZeros : Jvm.Cond.code ({ cls := "java/lang/Integer", name := "numberOfTrailingZeros", desc := "(I)I" } : Jvm.MethodName) prog_8_method_48_code (2 : Nat) (Option.some Jvm.ClassFile.FieldType.int) ∈ lw_gd := lw_in (List.mem_of_getElem? (i := 419) (by decide +kernel)) (by decide +kernel)
theorem wL_M_204 : Jvm.Cond.methodLink "SignedMill" (204 : Nat) ({ cls := "SignedMill$Whole", name := "lower", desc := "(LSignedMill$Whole;I)V" } : Jvm.MethodName) ∈ lw_gd := lw_in (List.mem_of_getElem? (i := 420) (by decide +kernel)) (by decide +kernel)
theorem wL_L_61 : Jvm.Cond.methodLink "SignedMillLaw" (61 : Nat) ({ cls := "SignedMill", name := "change", desc := "(IIII)Z" } : Jvm.MethodName) ∈ lw_gd := lw_in (List.mem_of_getElem? (i := 421) (by decide +kernel)) (by decide +kernel)
theorem wI_M_change : Jvm.Cond.instanceMethod ({ cls := "SignedMill", name := "change", desc := "(IIII)Z" } : Jvm.MethodName) ∈ lw_gd := lw_in (List.mem_of_getElem? (i := 422) (by decide +kernel)) (by decide +kernel)
theorem wS_M_change : Jvm.Cond.selects "SignedMill" ({ cls := "SignedMill", name := "change", desc := "(IIII)Z" } : Jvm.MethodName) ({ cls := "SignedMill", name := "change", desc := "(IIII)Z" } : Jvm.MethodName) ∈ lw_gd := lw_in (List.mem_of_getElem? (i := 423) (by decide +kernel)) (by decide +kernel)
theorem wC_M_change : Jvm.Cond.code ({ cls := "SignedMill", name := "change", desc := "(IIII)Z" } : Jvm.MethodName) prog_1_method_12_code (8 : Nat) (Option.some Jvm.ClassFile.FieldType.boolean) ∈ lw_gd := lw_in (List.mem_of_getElem? (i := 424) (by decide +kernel)) (by decide +kernel)
theorem wL_L_65 : Jvm.Cond.methodLink "SignedMillLaw" (65 : Nat) ({ cls := "SignedMill", name := "power", desc := "(III)Z" } : Jvm.MethodName) ∈ lw_gd := lw_in (List.mem_of_getElem? (i := 425) (by decide +kernel)) (by decide +kernel)
theorem wI_M_power : Jvm.Cond.instanceMethod ({ cls := "SignedMill", name := "power", desc := "(III)Z" } : Jvm.MethodName) ∈ lw_gd := lw_in (List.mem_of_getElem? (i := 426) (by decide +kernel)) (by decide +kernel)
theorem wS_M_power : Jvm.Cond.selects "SignedMill" ({ cls := "SignedMill", name := "power", desc := "(III)Z" } : Jvm.MethodName) ({ cls := "SignedMill", name := "power", desc := "(III)Z" } : Jvm.MethodName) ∈ lw_gd := lw_in (List.mem_of_getElem? (i := 427) (by decide +kernel)) (by decide +kernel)
theorem wC_M_power : Jvm.Cond.code ({ cls := "SignedMill", name := "power", desc := "(III)Z" } : Jvm.MethodName) prog_1_method_13_code (4 : Nat) (Option.some Jvm.ClassFile.FieldType.boolean) ∈ lw_gd := lw_in (List.mem_of_getElem? (i := 428) (by decide +kernel)) (by decide +kernel)
theorem wL_M_154 : Jvm.Cond.methodLink "SignedMill" (154 : Nat) ({ cls := "SignedMill", name := "findPower", desc := "(LSignedMill$Whole;I)Z" } : Jvm.MethodName) ∈ lw_gd := lw_in (List.mem_of_getElem? (i := 429) (by decide +kernel)) (by decide +kernel)
theorem wI_M_findPower : Jvm.Cond.instanceMethod ({ cls := "SignedMill", name := "findPower", desc := "(LSignedMill$Whole;I)Z" } : Jvm.MethodName) ∈ lw_gd := lw_in (List.mem_of_getElem? (i := 431) (by decide +kernel)) (by decide +kernel)
theorem wC_M_findPower : Jvm.Cond.code ({ cls := "SignedMill", name := "findPower", desc := "(LSignedMill$Whole;I)Z" } : Jvm.MethodName) prog_1_method_34_code (4 : Nat) (Option.some Jvm.ClassFile.FieldType.boolean) ∈ lw_gd := lw_in (List.mem_of_getElem? (i := 432) (by decide +kernel)) (by decide +kernel)
theorem wK_M_207 : Jvm.Cond.constantLong "SignedMill" (207 : Nat) (65536 : Int64) ∈ lw_gd := lw_in (List.mem_of_getElem? (i := 433) (by decide +kernel)) (by decide +kernel)
theorem wL_M_211 : Jvm.Cond.methodLink "SignedMill" (211 : Nat) ({ cls := "java/lang/Integer", name := "numberOfLeadingZeros", desc := "(I)I" } : Jvm.MethodName) ∈ lw_gd := lw_in (List.mem_of_getElem? (i := 434) (by decide +kernel)) (by decide +kernel)
theorem wL_M_215 : Jvm.Cond.methodLink "SignedMill" (215 : Nat) ({ cls := "SignedMill", name := "multiplyResult", desc := "(LSignedMill$Whole;)Z" } : Jvm.MethodName) ∈ lw_gd := lw_in (List.mem_of_getElem? (i := 435) (by decide +kernel)) (by decide +kernel)
theorem wI_M_multiplyResult : Jvm.Cond.instanceMethod ({ cls := "SignedMill", name := "multiplyResult", desc := "(LSignedMill$Whole;)Z" } : Jvm.MethodName) ∈ lw_gd := lw_in (List.mem_of_getElem? (i := 437) (by decide +kernel)) (by decide +kernel)
theorem wC_M_multiplyResult : Jvm.Cond.code ({ cls := "SignedMill", name := "multiplyResult", desc := "(LSignedMill$Whole;)Z" } : Jvm.MethodName) prog_1_method_35_code (2 : Nat) (Option.some Jvm.ClassFile.FieldType.boolean) ∈ lw_gd := lw_in (List.mem_of_getElem? (i := 438) (by decide +kernel)) (by decide +kernel)
theorem wL_L_69 : Jvm.Cond.methodLink "SignedMillLaw" (69 : Nat) ({ cls := "SignedMill", name := "common", desc := "(III)Z" } : Jvm.MethodName) ∈ lw_gd := lw_in (List.mem_of_getElem? (i := 439) (by decide +kernel)) (by decide +kernel)
theorem wI_M_common : Jvm.Cond.instanceMethod ({ cls := "SignedMill", name := "common", desc := "(III)Z" } : Jvm.MethodName) ∈ lw_gd := lw_in (List.mem_of_getElem? (i := 440) (by decide +kernel)) (by decide +kernel)
theorem wS_M_common : Jvm.Cond.selects "SignedMill" ({ cls := "SignedMill", name := "common", desc := "(III)Z" } : Jvm.MethodName) ({ cls := "SignedMill", name := "common", desc := "(III)Z" } : Jvm.MethodName) ∈ lw_gd := lw_in (List.mem_of_getElem? (i := 441) (by decide +kernel)) (by decide +kernel)
theorem wC_M_common : Jvm.Cond.code ({ cls := "SignedMill", name := "common", desc := "(III)Z" } : Jvm.MethodName) prog_1_method_14_code (4 : Nat) (Option.some Jvm.ClassFile.FieldType.boolean) ∈ lw_gd := lw_in (List.mem_of_getElem? (i := 442) (by decide +kernel)) (by decide +kernel)
theorem wL_M_158 : Jvm.Cond.methodLink "SignedMill" (158 : Nat) ({ cls := "SignedMill$Euclid", name := "run", desc := "(LSignedMill$Whole;LSignedMill$Whole;Z)V" } : Jvm.MethodName) ∈ lw_gd := lw_in (List.mem_of_getElem? (i := 443) (by decide +kernel)) (by decide +kernel)
theorem wI_E_run : Jvm.Cond.instanceMethod ({ cls := "SignedMill$Euclid", name := "run", desc := "(LSignedMill$Whole;LSignedMill$Whole;Z)V" } : Jvm.MethodName) ∈ lw_gd := lw_in (List.mem_of_getElem? (i := 444) (by decide +kernel)) (by decide +kernel)
theorem wS_E_run : Jvm.Cond.selects "SignedMill$Euclid" ({ cls := "SignedMill$Euclid", name := "run", desc := "(LSignedMill$Whole;LSignedMill$Whole;Z)V" } : Jvm.MethodName) ({ cls := "SignedMill$Euclid", name := "run", desc := "(LSignedMill$Whole;LSignedMill$Whole;Z)V" } : Jvm.MethodName) ∈ lw_gd := lw_in (List.mem_of_getElem? (i := 445) (by decide +kernel)) (by decide +kernel)
theorem wC_E_run : Jvm.Cond.code ({ cls := "SignedMill$Euclid", name := "run", desc := "(LSignedMill$Whole;LSignedMill$Whole;Z)V" } : Jvm.MethodName) prog_3_method_2_code (6 : Nat) (Option.none : Option Jvm.ClassFile.FieldType) ∈ lw_gd := lw_in (List.mem_of_getElem? (i := 446) (by decide +kernel)) (by decide +kernel)
theorem wL_E_54 : Jvm.Cond.methodLink "SignedMill$Euclid" (54 : Nat) ({ cls := "SignedMill$Whole", name := "against", desc := "(LSignedMill$Whole;)I" } : Jvm.MethodName) ∈ lw_gd := lw_in (List.mem_of_getElem? (i := 447) (by decide +kernel)) (by decide +kernel)
theorem wL_E_58 : Jvm.Cond.methodLink "SignedMill$Euclid" (58 : Nat) ({ cls := "SignedMill$Whole", name := "copy", desc := "(LSignedMill$Whole;)V" } : Jvm.MethodName) ∈ lw_gd := lw_in (List.mem_of_getElem? (i := 448) (by decide +kernel)) (by decide +kernel)
theorem wL_E_62 : Jvm.Cond.methodLink "SignedMill$Euclid" (62 : Nat) ({ cls := "SignedMill$Whole", name := "clear", desc := "()V" } : Jvm.MethodName) ∈ lw_gd := lw_in (List.mem_of_getElem? (i := 449) (by decide +kernel)) (by decide +kernel)
theorem wL_E_65 : Jvm.Cond.methodLink "SignedMill$Euclid" (65 : Nat) ({ cls := "SignedMill$Whole", name := "load", desc := "(J)V" } : Jvm.MethodName) ∈ lw_gd := lw_in (List.mem_of_getElem? (i := 450) (by decide +kernel)) (by decide +kernel)
theorem wK_E_69 : Jvm.Cond.constant "SignedMill$Euclid" (69 : Nat) (1000000 : Int32) ∈ lw_gd := lw_in (List.mem_of_getElem? (i := 451) (by decide +kernel)) (by decide +kernel)
theorem wL_E_70 : Jvm.Cond.methodLink "SignedMill$Euclid" (70 : Nat) ({ cls := "SignedMill$Whole", name := "isZero", desc := "()Z" } : Jvm.MethodName) ∈ lw_gd := lw_in (List.mem_of_getElem? (i := 452) (by decide +kernel)) (by decide +kernel)
theorem wL_E_74 : Jvm.Cond.methodLink "SignedMill$Euclid" (74 : Nat) ({ cls := "SignedMill$Euclid", name := "foresee", desc := "()Z" } : Jvm.MethodName) ∈ lw_gd := lw_in (List.mem_of_getElem? (i := 453) (by decide +kernel)) (by decide +kernel)
theorem wI_E_foresee : Jvm.Cond.instanceMethod ({ cls := "SignedMill$Euclid", name := "foresee", desc := "()Z" } : Jvm.MethodName) ∈ lw_gd := lw_in (List.mem_of_getElem? (i := 455) (by decide +kernel)) (by decide +kernel)
theorem wC_E_foresee : Jvm.Cond.code ({ cls := "SignedMill$Euclid", name := "foresee", desc := "()Z" } : Jvm.MethodName) prog_3_method_3_code (11 : Nat) (Option.some Jvm.ClassFile.FieldType.boolean) ∈ lw_gd := lw_in (List.mem_of_getElem? (i := 456) (by decide +kernel)) (by decide +kernel)
theorem wL_E_88 : Jvm.Cond.methodLink "SignedMill$Euclid" (88 : Nat) ({ cls := "SignedMill$Whole", name := "bits", desc := "()I" } : Jvm.MethodName) ∈ lw_gd := lw_in (List.mem_of_getElem? (i := 457) (by decide +kernel)) (by decide +kernel)
theorem wL_E_92 : Jvm.Cond.methodLink "SignedMill$Euclid" (92 : Nat) ({ cls := "java/lang/Math", name := "max", desc := "(II)I" } : Jvm.MethodName) ∈ lw_gd := lw_in (List.mem_of_getElem? (i := 458) (by decide +kernel)) (by decide +kernel)
theorem wL_E_98 : Jvm.Cond.methodLink "SignedMill$Euclid" (98 : Nat) ({ cls := "SignedMill$Whole", name := "bitsFrom", desc := "(I)J" } : Jvm.MethodName) ∈ lw_gd := lw_in (List.mem_of_getElem? (i := 459) (by decide +kernel)) (by decide +kernel)
theorem wI_W_bitsFrom : Jvm.Cond.instanceMethod ({ cls := "SignedMill$Whole", name := "bitsFrom", desc := "(I)J" } : Jvm.MethodName) ∈ lw_gd := lw_in (List.mem_of_getElem? (i := 460) (by decide +kernel)) (by decide +kernel)
theorem wS_W_bitsFrom : Jvm.Cond.selects "SignedMill$Whole" ({ cls := "SignedMill$Whole", name := "bitsFrom", desc := "(I)J" } : Jvm.MethodName) ({ cls := "SignedMill$Whole", name := "bitsFrom", desc := "(I)J" } : Jvm.MethodName) ∈ lw_gd := lw_in (List.mem_of_getElem? (i := 461) (by decide +kernel)) (by decide +kernel)
theorem wC_W_bitsFrom : Jvm.Cond.code ({ cls := "SignedMill$Whole", name := "bitsFrom", desc := "(I)J" } : Jvm.MethodName) prog_4_method_12_code (6 : Nat) (Option.some Jvm.ClassFile.FieldType.long) ∈ lw_gd := lw_in (List.mem_of_getElem? (i := 462) (by decide +kernel)) (by decide +kernel)
theorem wL_W_46 : Jvm.Cond.methodLink "SignedMill$Whole" (46 : Nat) ({ cls := "SignedMill$Whole", name := "digitAt", desc := "(I)J" } : Jvm.MethodName) ∈ lw_gd := lw_in (List.mem_of_getElem? (i := 463) (by decide +kernel)) (by decide +kernel)
theorem wL_E_102 : Jvm.Cond.methodLink "SignedMill$Euclid" (102 : Nat) ({ cls := "SignedMill$Euclid", name := "turn", desc := "(J)Z" } : Jvm.MethodName) ∈ lw_gd := lw_in (List.mem_of_getElem? (i := 464) (by decide +kernel)) (by decide +kernel)
theorem wI_E_turn : Jvm.Cond.instanceMethod ({ cls := "SignedMill$Euclid", name := "turn", desc := "(J)Z" } : Jvm.MethodName) ∈ lw_gd := lw_in (List.mem_of_getElem? (i := 466) (by decide +kernel)) (by decide +kernel)
theorem wC_E_turn : Jvm.Cond.code ({ cls := "SignedMill$Euclid", name := "turn", desc := "(J)Z" } : Jvm.MethodName) prog_3_method_4_code (7 : Nat) (Option.some Jvm.ClassFile.FieldType.boolean) ∈ lw_gd := lw_in (List.mem_of_getElem? (i := 467) (by decide +kernel)) (by decide +kernel)
theorem wK_E_106 : Jvm.Cond.constantLong "SignedMill$Euclid" (106 : Nat) (1073741823 : Int64) ∈ lw_gd := lw_in (List.mem_of_getElem? (i := 468) (by decide +kernel)) (by decide +kernel)
theorem wL_E_108 : Jvm.Cond.methodLink "SignedMill$Euclid" (108 : Nat) ({ cls := "java/lang/Math", name := "abs", desc := "(J)J" } : Jvm.MethodName) ∈ lw_gd := lw_in (List.mem_of_getElem? (i := 469) (by decide +kernel)) (by decide +kernel)
theorem wT_JM_abs : Jvm.Cond.static ({ cls := "java/lang/Math", name := "abs", desc := "(J)J" } : Jvm.MethodName) ∈ lw_gd := lw_in (List.mem_of_getElem? (i := 470) (by decide +kernel)) (by decide +kernel)
theorem wC_JM_abs : Jvm.Cond.code ({ cls := "java/lang/Math", name := "abs", desc := "(J)J" } : Jvm.MethodName) prog_10_method_61_code (2 : Nat) (Option.some Jvm.ClassFile.FieldType.long) ∈ lw_gd := lw_in (List.mem_of_getElem? (i := 471) (by decide +kernel)) (by decide +kernel)
theorem wL_E_112 : Jvm.Cond.methodLink "SignedMill$Euclid" (112 : Nat) ({ cls := "java/lang/Math", name := "max", desc := "(JJ)J" } : Jvm.MethodName) ∈ lw_gd := lw_in (List.mem_of_getElem? (i := 472) (by decide +kernel)) (by decide +kernel)
theorem wT_JM_max_JJ : Jvm.Cond.static ({ cls := "java/lang/Math", name := "max", desc := "(JJ)J" } : Jvm.MethodName) ∈ lw_gd := lw_in (List.mem_of_getElem? (i := 473) (by decide +kernel)) (by decide +kernel)
theorem wC_JM_max_JJ : Jvm.Cond.code ({ cls := "java/lang/Math", name := "max", desc := "(JJ)J" } : Jvm.MethodName) prog_10_method_66_code (4 : Nat) (Option.some Jvm.ClassFile.FieldType.long) ∈ lw_gd := lw_in (List.mem_of_getElem? (i := 474) (by decide +kernel)) (by decide +kernel)
theorem wL_E_77 : Jvm.Cond.methodLink "SignedMill$Euclid" (77 : Nat) ({ cls := "SignedMill$Euclid", name := "leap", desc := "(Z)V" } : Jvm.MethodName) ∈ lw_gd := lw_in (List.mem_of_getElem? (i := 475) (by decide +kernel)) (by decide +kernel)
theorem wI_E_leap : Jvm.Cond.instanceMethod ({ cls := "SignedMill$Euclid", name := "leap", desc := "(Z)V" } : Jvm.MethodName) ∈ lw_gd := lw_in (List.mem_of_getElem? (i := 477) (by decide +kernel)) (by decide +kernel)
theorem wC_E_leap : Jvm.Cond.code ({ cls := "SignedMill$Euclid", name := "leap", desc := "(Z)V" } : Jvm.MethodName) prog_3_method_5_code (2 : Nat) (Option.none : Option Jvm.ClassFile.FieldType) ∈ lw_gd := lw_in (List.mem_of_getElem? (i := 478) (by decide +kernel)) (by decide +kernel)
theorem wL_E_115 : Jvm.Cond.methodLink "SignedMill$Euclid" (115 : Nat) ({ cls := "SignedMill$Euclid", name := "leapRemainders", desc := "()V" } : Jvm.MethodName) ∈ lw_gd := lw_in (List.mem_of_getElem? (i := 479) (by decide +kernel)) (by decide +kernel)
theorem wI_E_leapRemainders : Jvm.Cond.instanceMethod ({ cls := "SignedMill$Euclid", name := "leapRemainders", desc := "()V" } : Jvm.MethodName) ∈ lw_gd := lw_in (List.mem_of_getElem? (i := 481) (by decide +kernel)) (by decide +kernel)
theorem wC_E_leapRemainders : Jvm.Cond.code ({ cls := "SignedMill$Euclid", name := "leapRemainders", desc := "()V" } : Jvm.MethodName) prog_3_method_6_code (2 : Nat) (Option.none : Option Jvm.ClassFile.FieldType) ∈ lw_gd := lw_in (List.mem_of_getElem? (i := 482) (by decide +kernel)) (by decide +kernel)
theorem wL_E_125 : Jvm.Cond.methodLink "SignedMill$Euclid" (125 : Nat) ({ cls := "SignedMill$Whole", name := "widen", desc := "(I)V" } : Jvm.MethodName) ∈ lw_gd := lw_in (List.mem_of_getElem? (i := 483) (by decide +kernel)) (by decide +kernel)
theorem wL_E_133 : Jvm.Cond.methodLink "SignedMill$Euclid" (133 : Nat) ({ cls := "SignedMill$Euclid", name := "multiply", desc := "([J[JIJJJJ)V" } : Jvm.MethodName) ∈ lw_gd := lw_in (List.mem_of_getElem? (i := 484) (by decide +kernel)) (by decide +kernel)
theorem wT_E_multiply : Jvm.Cond.static ({ cls := "SignedMill$Euclid", name := "multiply", desc := "([J[JIJJJJ)V" } : Jvm.MethodName) ∈ lw_gd := lw_in (List.mem_of_getElem? (i := 485) (by decide +kernel)) (by decide +kernel)
theorem wC_E_multiply : Jvm.Cond.code ({ cls := "SignedMill$Euclid", name := "multiply", desc := "([J[JIJJJJ)V" } : Jvm.MethodName) prog_3_method_8_code (20 : Nat) (Option.none : Option Jvm.ClassFile.FieldType) ∈ lw_gd := lw_in (List.mem_of_getElem? (i := 486) (by decide +kernel)) (by decide +kernel)
theorem wK_E_140 : Jvm.Cond.constantLong "SignedMill$Euclid" (140 : Nat) (4294967295 : Int64) ∈ lw_gd := lw_in (List.mem_of_getElem? (i := 487) (by decide +kernel)) (by decide +kernel)
theorem wL_E_137 : Jvm.Cond.methodLink "SignedMill$Euclid" (137 : Nat) ({ cls := "SignedMill$Whole", name := "trim", desc := "(I)V" } : Jvm.MethodName) ∈ lw_gd := lw_in (List.mem_of_getElem? (i := 488) (by decide +kernel)) (by decide +kernel)
theorem wL_E_118 : Jvm.Cond.methodLink "SignedMill$Euclid" (118 : Nat) ({ cls := "SignedMill$Euclid", name := "leapFactors", desc := "()V" } : Jvm.MethodName) ∈ lw_gd := lw_in (List.mem_of_getElem? (i := 489) (by decide +kernel)) (by decide +kernel)
theorem wI_E_leapFactors : Jvm.Cond.instanceMethod ({ cls := "SignedMill$Euclid", name := "leapFactors", desc := "()V" } : Jvm.MethodName) ∈ lw_gd := lw_in (List.mem_of_getElem? (i := 491) (by decide +kernel)) (by decide +kernel)
theorem wC_E_leapFactors : Jvm.Cond.code ({ cls := "SignedMill$Euclid", name := "leapFactors", desc := "()V" } : Jvm.MethodName) prog_3_method_7_code (2 : Nat) (Option.none : Option Jvm.ClassFile.FieldType) ∈ lw_gd := lw_in (List.mem_of_getElem? (i := 492) (by decide +kernel)) (by decide +kernel)
theorem wL_E_81 : Jvm.Cond.methodLink "SignedMill$Euclid" (81 : Nat) ({ cls := "SignedMill$Divider", name := "run", desc := "(LSignedMill$Whole;LSignedMill$Whole;)V" } : Jvm.MethodName) ∈ lw_gd := lw_in (List.mem_of_getElem? (i := 493) (by decide +kernel)) (by decide +kernel)
theorem wL_E_85 : Jvm.Cond.methodLink "SignedMill$Euclid" (85 : Nat) ({ cls := "SignedMill$Euclid", name := "step", desc := "(Z)V" } : Jvm.MethodName) ∈ lw_gd := lw_in (List.mem_of_getElem? (i := 494) (by decide +kernel)) (by decide +kernel)
theorem wI_E_step : Jvm.Cond.instanceMethod ({ cls := "SignedMill$Euclid", name := "step", desc := "(Z)V" } : Jvm.MethodName) ∈ lw_gd := lw_in (List.mem_of_getElem? (i := 496) (by decide +kernel)) (by decide +kernel)
theorem wC_E_step : Jvm.Cond.code ({ cls := "SignedMill$Euclid", name := "step", desc := "(Z)V" } : Jvm.MethodName) prog_3_method_9_code (2 : Nat) (Option.none : Option Jvm.ClassFile.FieldType) ∈ lw_gd := lw_in (List.mem_of_getElem? (i := 497) (by decide +kernel)) (by decide +kernel)
theorem wL_E_148 : Jvm.Cond.methodLink "SignedMill$Euclid" (148 : Nat) ({ cls := "SignedMill$Whole", name := "product", desc := "(LSignedMill$Whole;LSignedMill$Whole;)V" } : Jvm.MethodName) ∈ lw_gd := lw_in (List.mem_of_getElem? (i := 498) (by decide +kernel)) (by decide +kernel)
theorem wL_E_151 : Jvm.Cond.methodLink "SignedMill$Euclid" (151 : Nat) ({ cls := "SignedMill$Whole", name := "sum", desc := "(LSignedMill$Whole;LSignedMill$Whole;)V" } : Jvm.MethodName) ∈ lw_gd := lw_in (List.mem_of_getElem? (i := 499) (by decide +kernel)) (by decide +kernel)
theorem wL_L_73 : Jvm.Cond.methodLink "SignedMillLaw" (73 : Nat) ({ cls := "SignedMill", name := "inverse", desc := "(III)Z" } : Jvm.MethodName) ∈ lw_gd := lw_in (List.mem_of_getElem? (i := 500) (by decide +kernel)) (by decide +kernel)
theorem wI_M_inverse : Jvm.Cond.instanceMethod ({ cls := "SignedMill", name := "inverse", desc := "(III)Z" } : Jvm.MethodName) ∈ lw_gd := lw_in (List.mem_of_getElem? (i := 501) (by decide +kernel)) (by decide +kernel)
theorem wS_M_inverse : Jvm.Cond.selects "SignedMill" ({ cls := "SignedMill", name := "inverse", desc := "(III)Z" } : Jvm.MethodName) ({ cls := "SignedMill", name := "inverse", desc := "(III)Z" } : Jvm.MethodName) ∈ lw_gd := lw_in (List.mem_of_getElem? (i := 502) (by decide +kernel)) (by decide +kernel)
theorem wC_M_inverse : Jvm.Cond.code ({ cls := "SignedMill", name := "inverse", desc := "(III)Z" } : Jvm.MethodName) prog_1_method_15_code (4 : Nat) (Option.some Jvm.ClassFile.FieldType.boolean) ∈ lw_gd := lw_in (List.mem_of_getElem? (i := 503) (by decide +kernel)) (by decide +kernel)
theorem wL_M_164 : Jvm.Cond.methodLink "SignedMill" (164 : Nat) ({ cls := "SignedMill", name := "isModulus", desc := "(I)Z" } : Jvm.MethodName) ∈ lw_gd := lw_in (List.mem_of_getElem? (i := 504) (by decide +kernel)) (by decide +kernel)
theorem wI_M_isModulus : Jvm.Cond.instanceMethod ({ cls := "SignedMill", name := "isModulus", desc := "(I)Z" } : Jvm.MethodName) ∈ lw_gd := lw_in (List.mem_of_getElem? (i := 506) (by decide +kernel)) (by decide +kernel)
theorem wC_M_isModulus : Jvm.Cond.code ({ cls := "SignedMill", name := "isModulus", desc := "(I)Z" } : Jvm.MethodName) prog_1_method_25_code (2 : Nat) (Option.some Jvm.ClassFile.FieldType.boolean) ∈ lw_gd := lw_in (List.mem_of_getElem? (i := 507) (by decide +kernel)) (by decide +kernel)
theorem wL_M_167 : Jvm.Cond.methodLink "SignedMill" (167 : Nat) ({ cls := "SignedMill", name := "findInverse", desc := "(II)Z" } : Jvm.MethodName) ∈ lw_gd := lw_in (List.mem_of_getElem? (i := 508) (by decide +kernel)) (by decide +kernel)
theorem wI_M_findInverse : Jvm.Cond.instanceMethod ({ cls := "SignedMill", name := "findInverse", desc := "(II)Z" } : Jvm.MethodName) ∈ lw_gd := lw_in (List.mem_of_getElem? (i := 510) (by decide +kernel)) (by decide +kernel)
theorem wC_M_findInverse : Jvm.Cond.code ({ cls := "SignedMill", name := "findInverse", desc := "(II)Z" } : Jvm.MethodName) prog_1_method_37_code (3 : Nat) (Option.some Jvm.ClassFile.FieldType.boolean) ∈ lw_gd := lw_in (List.mem_of_getElem? (i := 511) (by decide +kernel)) (by decide +kernel)
theorem wL_M_175 : Jvm.Cond.methodLink "SignedMill" (175 : Nat) ({ cls := "SignedMill", name := "reduce", desc := "(II)V" } : Jvm.MethodName) ∈ lw_gd := lw_in (List.mem_of_getElem? (i := 512) (by decide +kernel)) (by decide +kernel)
theorem wI_M_reduce : Jvm.Cond.instanceMethod ({ cls := "SignedMill", name := "reduce", desc := "(II)V" } : Jvm.MethodName) ∈ lw_gd := lw_in (List.mem_of_getElem? (i := 514) (by decide +kernel)) (by decide +kernel)
theorem wC_M_reduce : Jvm.Cond.code ({ cls := "SignedMill", name := "reduce", desc := "(II)V" } : Jvm.MethodName) prog_1_method_36_code (3 : Nat) (Option.none : Option Jvm.ClassFile.FieldType) ∈ lw_gd := lw_in (List.mem_of_getElem? (i := 515) (by decide +kernel)) (by decide +kernel)
theorem wL_L_77 : Jvm.Cond.methodLink "SignedMillLaw" (77 : Nat) ({ cls := "SignedMill", name := "modulo", desc := "(IIII)Z" } : Jvm.MethodName) ∈ lw_gd := lw_in (List.mem_of_getElem? (i := 516) (by decide +kernel)) (by decide +kernel)
theorem wI_M_modulo : Jvm.Cond.instanceMethod ({ cls := "SignedMill", name := "modulo", desc := "(IIII)Z" } : Jvm.MethodName) ∈ lw_gd := lw_in (List.mem_of_getElem? (i := 517) (by decide +kernel)) (by decide +kernel)
theorem wS_M_modulo : Jvm.Cond.selects "SignedMill" ({ cls := "SignedMill", name := "modulo", desc := "(IIII)Z" } : Jvm.MethodName) ({ cls := "SignedMill", name := "modulo", desc := "(IIII)Z" } : Jvm.MethodName) ∈ lw_gd := lw_in (List.mem_of_getElem? (i := 518) (by decide +kernel)) (by decide +kernel)
theorem wC_M_modulo : Jvm.Cond.code ({ cls := "SignedMill", name := "modulo", desc := "(IIII)Z" } : Jvm.MethodName) prog_1_method_16_code (7 : Nat) (Option.some Jvm.ClassFile.FieldType.boolean) ∈ lw_gd := lw_in (List.mem_of_getElem? (i := 519) (by decide +kernel)) (by decide +kernel)
theorem wK_M_173 : Jvm.Cond.constantLong "SignedMill" (173 : Nat) (4294967296 : Int64) ∈ lw_gd := lw_in (List.mem_of_getElem? (i := 520) (by decide +kernel)) (by decide +kernel)
theorem wL_M_179 : Jvm.Cond.methodLink "SignedMill" (179 : Nat) ({ cls := "SignedMill", name := "findPowerByModulus", desc := "(LSignedMill$Whole;LSignedMill$Whole;)V" } : Jvm.MethodName) ∈ lw_gd := lw_in (List.mem_of_getElem? (i := 521) (by decide +kernel)) (by decide +kernel)
theorem wI_M_findPowerByModulus : Jvm.Cond.instanceMethod ({ cls := "SignedMill", name := "findPowerByModulus", desc := "(LSignedMill$Whole;LSignedMill$Whole;)V" } : Jvm.MethodName) ∈ lw_gd := lw_in (List.mem_of_getElem? (i := 523) (by decide +kernel)) (by decide +kernel)
theorem wC_M_findPowerByModulus : Jvm.Cond.code ({ cls := "SignedMill", name := "findPowerByModulus", desc := "(LSignedMill$Whole;LSignedMill$Whole;)V" } : Jvm.MethodName) prog_1_method_38_code (5 : Nat) (Option.none : Option Jvm.ClassFile.FieldType) ∈ lw_gd := lw_in (List.mem_of_getElem? (i := 524) (by decide +kernel)) (by decide +kernel)
theorem wL_M_226 : Jvm.Cond.methodLink "SignedMill" (226 : Nat) ({ cls := "SignedMill", name := "multiplyByModulus", desc := "(LSignedMill$Whole;LSignedMill$Whole;)V" } : Jvm.MethodName) ∈ lw_gd := lw_in (List.mem_of_getElem? (i := 525) (by decide +kernel)) (by decide +kernel)
theorem wI_M_multiplyByModulus : Jvm.Cond.instanceMethod ({ cls := "SignedMill", name := "multiplyByModulus", desc := "(LSignedMill$Whole;LSignedMill$Whole;)V" } : Jvm.MethodName) ∈ lw_gd := lw_in (List.mem_of_getElem? (i := 527) (by decide +kernel)) (by decide +kernel)
theorem wC_M_multiplyByModulus : Jvm.Cond.code ({ cls := "SignedMill", name := "multiplyByModulus", desc := "(LSignedMill$Whole;LSignedMill$Whole;)V" } : Jvm.MethodName) prog_1_method_39_code (3 : Nat) (Option.none : Option Jvm.ClassFile.FieldType) ∈ lw_gd := lw_in (List.mem_of_getElem? (i := 528) (by decide +kernel)) (by decide +kernel)
theorem wL_M_229 : Jvm.Cond.methodLink "SignedMill" (229 : Nat) ({ cls := "SignedMill$Whole", name := "isOne", desc := "(I)Z" } : Jvm.MethodName) ∈ lw_gd := lw_in (List.mem_of_getElem? (i := 529) (by decide +kernel)) (by decide +kernel)
theorem wI_W_isOne : Jvm.Cond.instanceMethod ({ cls := "SignedMill$Whole", name := "isOne", desc := "(I)Z" } : Jvm.MethodName) ∈ lw_gd := lw_in (List.mem_of_getElem? (i := 530) (by decide +kernel)) (by decide +kernel)
theorem wS_W_isOne : Jvm.Cond.selects "SignedMill$Whole" ({ cls := "SignedMill$Whole", name := "isOne", desc := "(I)Z" } : Jvm.MethodName) ({ cls := "SignedMill$Whole", name := "isOne", desc := "(I)Z" } : Jvm.MethodName) ∈ lw_gd := lw_in (List.mem_of_getElem? (i := 531) (by decide +kernel)) (by decide +kernel)
theorem wC_W_isOne : Jvm.Cond.code ({ cls := "SignedMill$Whole", name := "isOne", desc := "(I)Z" } : Jvm.MethodName) prog_4_method_11_code (2 : Nat) (Option.some Jvm.ClassFile.FieldType.boolean) ∈ lw_gd := lw_in (List.mem_of_getElem? (i := 532) (by decide +kernel)) (by decide +kernel)
theorem wL_L_81 : Jvm.Cond.methodLink "SignedMillLaw" (81 : Nat) ({ cls := "SignedMill", name := "compare", desc := "(II)I" } : Jvm.MethodName) ∈ lw_gd := lw_in (List.mem_of_getElem? (i := 533) (by decide +kernel)) (by decide +kernel)
theorem wI_M_compare : Jvm.Cond.instanceMethod ({ cls := "SignedMill", name := "compare", desc := "(II)I" } : Jvm.MethodName) ∈ lw_gd := lw_in (List.mem_of_getElem? (i := 534) (by decide +kernel)) (by decide +kernel)
theorem wS_M_compare : Jvm.Cond.selects "SignedMill" ({ cls := "SignedMill", name := "compare", desc := "(II)I" } : Jvm.MethodName) ({ cls := "SignedMill", name := "compare", desc := "(II)I" } : Jvm.MethodName) ∈ lw_gd := lw_in (List.mem_of_getElem? (i := 535) (by decide +kernel)) (by decide +kernel)
theorem wC_M_compare : Jvm.Cond.code ({ cls := "SignedMill", name := "compare", desc := "(II)I" } : Jvm.MethodName) prog_1_method_17_code (4 : Nat) (Option.some Jvm.ClassFile.FieldType.int) ∈ lw_gd := lw_in (List.mem_of_getElem? (i := 536) (by decide +kernel)) (by decide +kernel)
theorem wL_L_86 : Jvm.Cond.methodLink "SignedMillLaw" (86 : Nat) ({ cls := "SignedMill", name := "sign", desc := "(I)I" } : Jvm.MethodName) ∈ lw_gd := lw_in (List.mem_of_getElem? (i := 537) (by decide +kernel)) (by decide +kernel)
theorem wI_M_sign : Jvm.Cond.instanceMethod ({ cls := "SignedMill", name := "sign", desc := "(I)I" } : Jvm.MethodName) ∈ lw_gd := lw_in (List.mem_of_getElem? (i := 538) (by decide +kernel)) (by decide +kernel)
theorem wS_M_sign : Jvm.Cond.selects "SignedMill" ({ cls := "SignedMill", name := "sign", desc := "(I)I" } : Jvm.MethodName) ({ cls := "SignedMill", name := "sign", desc := "(I)I" } : Jvm.MethodName) ∈ lw_gd := lw_in (List.mem_of_getElem? (i := 539) (by decide +kernel)) (by decide +kernel)
theorem wC_M_sign : Jvm.Cond.code ({ cls := "SignedMill", name := "sign", desc := "(I)I" } : Jvm.MethodName) prog_1_method_18_code (2 : Nat) (Option.some Jvm.ClassFile.FieldType.int) ∈ lw_gd := lw_in (List.mem_of_getElem? (i := 540) (by decide +kernel)) (by decide +kernel)
theorem wL_L_91 : Jvm.Cond.methodLink "SignedMillLaw" (91 : Nat) ({ cls := "SignedMill", name := "length", desc := "(I)I" } : Jvm.MethodName) ∈ lw_gd := lw_in (List.mem_of_getElem? (i := 541) (by decide +kernel)) (by decide +kernel)
theorem wI_M_length : Jvm.Cond.instanceMethod ({ cls := "SignedMill", name := "length", desc := "(I)I" } : Jvm.MethodName) ∈ lw_gd := lw_in (List.mem_of_getElem? (i := 542) (by decide +kernel)) (by decide +kernel)
theorem wS_M_length : Jvm.Cond.selects "SignedMill" ({ cls := "SignedMill", name := "length", desc := "(I)I" } : Jvm.MethodName) ({ cls := "SignedMill", name := "length", desc := "(I)I" } : Jvm.MethodName) ∈ lw_gd := lw_in (List.mem_of_getElem? (i := 543) (by decide +kernel)) (by decide +kernel)
theorem wC_M_length : Jvm.Cond.code ({ cls := "SignedMill", name := "length", desc := "(I)I" } : Jvm.MethodName) prog_1_method_19_code (4 : Nat) (Option.some Jvm.ClassFile.FieldType.int) ∈ lw_gd := lw_in (List.mem_of_getElem? (i := 544) (by decide +kernel)) (by decide +kernel)
theorem wL_L_95 : Jvm.Cond.methodLink "SignedMillLaw" (95 : Nat) ({ cls := "SignedMill", name := "ones", desc := "(I)I" } : Jvm.MethodName) ∈ lw_gd := lw_in (List.mem_of_getElem? (i := 545) (by decide +kernel)) (by decide +kernel)
theorem wI_M_ones : Jvm.Cond.instanceMethod ({ cls := "SignedMill", name := "ones", desc := "(I)I" } : Jvm.MethodName) ∈ lw_gd := lw_in (List.mem_of_getElem? (i := 546) (by decide +kernel)) (by decide +kernel)
theorem wS_M_ones : Jvm.Cond.selects "SignedMill" ({ cls := "SignedMill", name := "ones", desc := "(I)I" } : Jvm.MethodName) ({ cls := "SignedMill", name := "ones", desc := "(I)I" } : Jvm.MethodName) ∈ lw_gd := lw_in (List.mem_of_getElem? (i := 547) (by decide +kernel)) (by decide +kernel)
theorem wC_M_ones : Jvm.Cond.code ({ cls := "SignedMill", name := "ones", desc := "(I)I" } : Jvm.MethodName) prog_1_method_20_code (3 : Nat) (Option.some Jvm.ClassFile.FieldType.int) ∈ lw_gd := lw_in (List.mem_of_getElem? (i := 548) (by decide +kernel)) (by decide +kernel)
theorem wL_M_189 : Jvm.Cond.methodLink "SignedMill" (189 : Nat) ({ cls := "SignedMill$Whole", name := "countOnes", desc := "()I" } : Jvm.MethodName) ∈ lw_gd := lw_in (List.mem_of_getElem? (i := 549) (by decide +kernel)) (by decide +kernel)
theorem wI_W_countOnes : Jvm.Cond.instanceMethod ({ cls := "SignedMill$Whole", name := "countOnes", desc := "()I" } : Jvm.MethodName) ∈ lw_gd := lw_in (List.mem_of_getElem? (i := 550) (by decide +kernel)) (by decide +kernel)
theorem wS_W_countOnes : Jvm.Cond.selects "SignedMill$Whole" ({ cls := "SignedMill$Whole", name := "countOnes", desc := "()I" } : Jvm.MethodName) ({ cls := "SignedMill$Whole", name := "countOnes", desc := "()I" } : Jvm.MethodName) ∈ lw_gd := lw_in (List.mem_of_getElem? (i := 551) (by decide +kernel)) (by decide +kernel)
theorem wC_W_countOnes : Jvm.Cond.code ({ cls := "SignedMill$Whole", name := "countOnes", desc := "()I" } : Jvm.MethodName) prog_4_method_16_code (3 : Nat) (Option.some Jvm.ClassFile.FieldType.int) ∈ lw_gd := lw_in (List.mem_of_getElem? (i := 552) (by decide +kernel)) (by decide +kernel)
theorem wL_W_63 : Jvm.Cond.methodLink "SignedMill$Whole" (63 : Nat) ({ cls := "java/lang/Long", name := "bitCount", desc := "(J)I" } : Jvm.MethodName) ∈ lw_gd := lw_in (List.mem_of_getElem? (i := 553) (by decide +kernel)) (by decide +kernel)
theorem wT_JL_bitCount : Jvm.Cond.static ({ cls := "java/lang/Long", name := "bitCount", desc := "(J)I" } : Jvm.MethodName) ∈ lw_gd := lw_in (List.mem_of_getElem? (i := 554) (by decide +kernel)) (by decide +kernel)
theorem wC_JL_bitCount : Jvm.Cond.code ({ cls := "java/lang/Long", name := "bitCount", desc := "(J)I" } : Jvm.MethodName) prog_9_method_50_code (2 : Nat) (Option.some Jvm.ClassFile.FieldType.int) ∈ lw_gd := lw_in (List.mem_of_getElem? (i := 555) (by decide +kernel)) (by decide +kernel)
theorem wK_JL_314 : Jvm.Cond.constantLong "java/lang/Long" (314 : Nat) (6148914691236517205 : Int64) ∈ lw_gd := lw_in (List.mem_of_getElem? (i := 556) (by decide +kernel)) (by decide +kernel)
theorem wK_JL_316 : Jvm.Cond.constantLong "java/lang/Long" (316 : Nat) (3689348814741910323 : Int64) ∈ lw_gd := lw_in (List.mem_of_getElem? (i := 557) (by decide +kernel)) (by decide +kernel)
theorem wK_JL_318 : Jvm.Cond.constantLong "java/lang/Long" (318 : Nat) (1085102592571150095 : Int64) ∈ lw_gd := lw_in (List.mem_of_getElem? (i := 558) (by decide +kernel)) (by decide +kernel)
theorem wL_L_99 : Jvm.Cond.methodLink "SignedMillLaw" (99 : Nat) ({ cls := "SignedMill", name := "lowest", desc := "(I)I" } : Jvm.MethodName) ∈ lw_gd := lw_in (List.mem_of_getElem? (i := 559) (by decide +kernel)) (by decide +kernel)
theorem wI_M_lowest : Jvm.Cond.instanceMethod ({ cls := "SignedMill", name := "lowest", desc := "(I)I" } : Jvm.MethodName) ∈ lw_gd := lw_in (List.mem_of_getElem? (i := 560) (by decide +kernel)) (by decide +kernel)
theorem wS_M_lowest : Jvm.Cond.selects "SignedMill" ({ cls := "SignedMill", name := "lowest", desc := "(I)I" } : Jvm.MethodName) ({ cls := "SignedMill", name := "lowest", desc := "(I)I" } : Jvm.MethodName) ∈ lw_gd := lw_in (List.mem_of_getElem? (i := 561) (by decide +kernel)) (by decide +kernel)
theorem wC_M_lowest : Jvm.Cond.code ({ cls := "SignedMill", name := "lowest", desc := "(I)I" } : Jvm.MethodName) prog_1_method_21_code (2 : Nat) (Option.some Jvm.ClassFile.FieldType.int) ∈ lw_gd := lw_in (List.mem_of_getElem? (i := 562) (by decide +kernel)) (by decide +kernel)
theorem wL_L_103 : Jvm.Cond.methodLink "SignedMillLaw" (103 : Nat) ({ cls := "SignedMill", name := "word", desc := "(II)I" } : Jvm.MethodName) ∈ lw_gd := lw_in (List.mem_of_getElem? (i := 563) (by decide +kernel)) (by decide +kernel)
theorem wI_M_word : Jvm.Cond.instanceMethod ({ cls := "SignedMill", name := "word", desc := "(II)I" } : Jvm.MethodName) ∈ lw_gd := lw_in (List.mem_of_getElem? (i := 564) (by decide +kernel)) (by decide +kernel)
theorem wS_M_word : Jvm.Cond.selects "SignedMill" ({ cls := "SignedMill", name := "word", desc := "(II)I" } : Jvm.MethodName) ({ cls := "SignedMill", name := "word", desc := "(II)I" } : Jvm.MethodName) ∈ lw_gd := lw_in (List.mem_of_getElem? (i := 565) (by decide +kernel)) (by decide +kernel)
theorem wC_M_word : Jvm.Cond.code ({ cls := "SignedMill", name := "word", desc := "(II)I" } : Jvm.MethodName) prog_1_method_22_code (3 : Nat) (Option.some Jvm.ClassFile.FieldType.int) ∈ lw_gd := lw_in (List.mem_of_getElem? (i := 566) (by decide +kernel)) (by decide +kernel)
theorem wY_L_10 : Jvm.Cond.classLink "SignedMillLaw" (10 : Nat) "SignedMillModel" ∈ lw_gd := lw_in (List.mem_of_getElem? (i := 567) (by decide +kernel)) (by decide +kernel)
theorem wZ_R : Jvm.Cond.instantiable "SignedMillModel" (3 : Nat) ∈ lw_gd := lw_in (List.mem_of_getElem? (i := 568) (by decide +kernel)) (by decide +kernel)
theorem wL_L_12 : Jvm.Cond.methodLink "SignedMillLaw" (12 : Nat) ({ cls := "SignedMillModel", name := "<init>", desc := "()V" } : Jvm.MethodName) ∈ lw_gd := lw_in (List.mem_of_getElem? (i := 569) (by decide +kernel)) (by decide +kernel)
theorem wI_R_init : Jvm.Cond.instanceMethod ({ cls := "SignedMillModel", name := "<init>", desc := "()V" } : Jvm.MethodName) ∈ lw_gd := lw_in (List.mem_of_getElem? (i := 570) (by decide +kernel)) (by decide +kernel)
theorem wC_R_init : Jvm.Cond.code ({ cls := "SignedMillModel", name := "<init>", desc := "()V" } : Jvm.MethodName) prog_6_method_1_code (1 : Nat) (Option.none : Option Jvm.ClassFile.FieldType) ∈ lw_gd := lw_in (List.mem_of_getElem? (i := 571) (by decide +kernel)) (by decide +kernel)
theorem wL_R_1 : Jvm.Cond.methodLink "SignedMillModel" (1 : Nat) ({ cls := "java/lang/Object", name := "<init>", desc := "()V" } : Jvm.MethodName) ∈ lw_gd := lw_in (List.mem_of_getElem? (i := 572) (by decide +kernel)) (by decide +kernel)
theorem wK_R_7 : Jvm.Cond.constant "SignedMillModel" (7 : Nat) (131136 : Int32) ∈ lw_gd := lw_in (List.mem_of_getElem? (i := 573) (by decide +kernel)) (by decide +kernel)
theorem wF_R_8 : Jvm.Cond.fieldLink "SignedMillModel" (8 : Nat) "SignedMillModel" "m" "[I" ∈ lw_gd := lw_in (List.mem_of_getElem? (i := 574) (by decide +kernel)) (by decide +kernel)
theorem wF_R_14 : Jvm.Cond.fieldLink "SignedMillModel" (14 : Nat) "SignedMillModel" "n" "[I" ∈ lw_gd := lw_in (List.mem_of_getElem? (i := 575) (by decide +kernel)) (by decide +kernel)
theorem wF_R_17 : Jvm.Cond.fieldLink "SignedMillModel" (17 : Nat) "SignedMillModel" "below" "[Z" ∈ lw_gd := lw_in (List.mem_of_getElem? (i := 576) (by decide +kernel)) (by decide +kernel)
theorem wA_int : Jvm.Cond.arrayClass Jvm.ClassFile.FieldType.int ∈ lw_gd := lw_in (List.mem_of_getElem? (i := 584) (by decide +kernel)) (by decide +kernel)
theorem wL_L_19 : Jvm.Cond.methodLink "SignedMillLaw" (19 : Nat) ({ cls := "SignedMillModel", name := "put", desc := "(IJ)Z" } : Jvm.MethodName) ∈ lw_gd := lw_in (List.mem_of_getElem? (i := 585) (by decide +kernel)) (by decide +kernel)
theorem wI_R_put : Jvm.Cond.instanceMethod ({ cls := "SignedMillModel", name := "put", desc := "(IJ)Z" } : Jvm.MethodName) ∈ lw_gd := lw_in (List.mem_of_getElem? (i := 586) (by decide +kernel)) (by decide +kernel)
theorem wS_R_put : Jvm.Cond.selects "SignedMillModel" ({ cls := "SignedMillModel", name := "put", desc := "(IJ)Z" } : Jvm.MethodName) ({ cls := "SignedMillModel", name := "put", desc := "(IJ)Z" } : Jvm.MethodName) ∈ lw_gd := lw_in (List.mem_of_getElem? (i := 587) (by decide +kernel)) (by decide +kernel)
theorem wC_R_put : Jvm.Cond.code ({ cls := "SignedMillModel", name := "put", desc := "(IJ)Z" } : Jvm.MethodName) prog_6_method_21_code (4 : Nat) (Option.some Jvm.ClassFile.FieldType.boolean) ∈ lw_gd := lw_in (List.mem_of_getElem? (i := 588) (by decide +kernel)) (by decide +kernel)
theorem wL_R_67 : Jvm.Cond.methodLink "SignedMillModel" (67 : Nat) ({ cls := "SignedMillModel", name := "is", desc := "(I)Z" } : Jvm.MethodName) ∈ lw_gd := lw_in (List.mem_of_getElem? (i := 589) (by decide +kernel)) (by decide +kernel)
theorem wT_R_is : Jvm.Cond.static ({ cls := "SignedMillModel", name := "is", desc := "(I)Z" } : Jvm.MethodName) ∈ lw_gd := lw_in (List.mem_of_getElem? (i := 590) (by decide +kernel)) (by decide +kernel)
theorem wC_R_is : Jvm.Cond.code ({ cls := "SignedMillModel", name := "is", desc := "(I)Z" } : Jvm.MethodName) prog_6_method_2_code (1 : Nat) (Option.some Jvm.ClassFile.FieldType.boolean) ∈ lw_gd := lw_in (List.mem_of_getElem? (i := 591) (by decide +kernel)) (by decide +kernel)
theorem wL_R_71 : Jvm.Cond.methodLink "SignedMillModel" (71 : Nat) ({ cls := "SignedMillModel", name := "set", desc := "(IJ)V" } : Jvm.MethodName) ∈ lw_gd := lw_in (List.mem_of_getElem? (i := 592) (by decide +kernel)) (by decide +kernel)
theorem wI_R_set : Jvm.Cond.instanceMethod ({ cls := "SignedMillModel", name := "set", desc := "(IJ)V" } : Jvm.MethodName) ∈ lw_gd := lw_in (List.mem_of_getElem? (i := 594) (by decide +kernel)) (by decide +kernel)
theorem wC_R_set : Jvm.Cond.code ({ cls := "SignedMillModel", name := "set", desc := "(IJ)V" } : Jvm.MethodName) prog_6_method_7_code (5 : Nat) (Option.none : Option Jvm.ClassFile.FieldType) ∈ lw_gd := lw_in (List.mem_of_getElem? (i := 595) (by decide +kernel)) (by decide +kernel)
theorem wL_R_22 : Jvm.Cond.methodLink "SignedMillModel" (22 : Nat) ({ cls := "SignedMillModel", name := "at", desc := "(I)I" } : Jvm.MethodName) ∈ lw_gd := lw_in (List.mem_of_getElem? (i := 596) (by decide +kernel)) (by decide +kernel)
theorem wT_R_at : Jvm.Cond.static ({ cls := "SignedMillModel", name := "at", desc := "(I)I" } : Jvm.MethodName) ∈ lw_gd := lw_in (List.mem_of_getElem? (i := 597) (by decide +kernel)) (by decide +kernel)
theorem wC_R_at : Jvm.Cond.code ({ cls := "SignedMillModel", name := "at", desc := "(I)I" } : Jvm.MethodName) prog_6_method_3_code (1 : Nat) (Option.some Jvm.ClassFile.FieldType.int) ∈ lw_gd := lw_in (List.mem_of_getElem? (i := 598) (by decide +kernel)) (by decide +kernel)
theorem wK_R_21 : Jvm.Cond.constant "SignedMillModel" (21 : Nat) (65536 : Int32) ∈ lw_gd := lw_in (List.mem_of_getElem? (i := 599) (by decide +kernel)) (by decide +kernel)
theorem wK_R_26 : Jvm.Cond.constantLong "SignedMillModel" (26 : Nat) (65535 : Int64) ∈ lw_gd := lw_in (List.mem_of_getElem? (i := 600) (by decide +kernel)) (by decide +kernel)
theorem wL_R_28 : Jvm.Cond.methodLink "SignedMillModel" (28 : Nat) ({ cls := "SignedMillModel", name := "trim", desc := "(II)V" } : Jvm.MethodName) ∈ lw_gd := lw_in (List.mem_of_getElem? (i := 601) (by decide +kernel)) (by decide +kernel)
theorem wI_R_trim : Jvm.Cond.instanceMethod ({ cls := "SignedMillModel", name := "trim", desc := "(II)V" } : Jvm.MethodName) ∈ lw_gd := lw_in (List.mem_of_getElem? (i := 603) (by decide +kernel)) (by decide +kernel)
theorem wC_R_trim : Jvm.Cond.code ({ cls := "SignedMillModel", name := "trim", desc := "(II)V" } : Jvm.MethodName) prog_6_method_4_code (4 : Nat) (Option.none : Option Jvm.ClassFile.FieldType) ∈ lw_gd := lw_in (List.mem_of_getElem? (i := 604) (by decide +kernel)) (by decide +kernel)
theorem wL_R_75 : Jvm.Cond.methodLink "SignedMillModel" (75 : Nat) ({ cls := "SignedMillModel", name := "store", desc := "(IIZ)Z" } : Jvm.MethodName) ∈ lw_gd := lw_in (List.mem_of_getElem? (i := 605) (by decide +kernel)) (by decide +kernel)
theorem wI_R_store : Jvm.Cond.instanceMethod ({ cls := "SignedMillModel", name := "store", desc := "(IIZ)Z" } : Jvm.MethodName) ∈ lw_gd := lw_in (List.mem_of_getElem? (i := 607) (by decide +kernel)) (by decide +kernel)
theorem wC_R_store : Jvm.Cond.code ({ cls := "SignedMillModel", name := "store", desc := "(IIZ)Z" } : Jvm.MethodName) prog_6_method_20_code (4 : Nat) (Option.some Jvm.ClassFile.FieldType.boolean) ∈ lw_gd := lw_in (List.mem_of_getElem? (i := 608) (by decide +kernel)) (by decide +kernel)
theorem wL_R_64 : Jvm.Cond.methodLink "SignedMillModel" (64 : Nat) ({ cls := "SignedMillModel", name := "move", desc := "(II)V" } : Jvm.MethodName) ∈ lw_gd := lw_in (List.mem_of_getElem? (i := 609) (by decide +kernel)) (by decide +kernel)
theorem wI_R_move : Jvm.Cond.instanceMethod ({ cls := "SignedMillModel", name := "move", desc := "(II)V" } : Jvm.MethodName) ∈ lw_gd := lw_in (List.mem_of_getElem? (i := 611) (by decide +kernel)) (by decide +kernel)
theorem wC_R_move : Jvm.Cond.code ({ cls := "SignedMillModel", name := "move", desc := "(II)V" } : Jvm.MethodName) prog_6_method_5_code (4 : Nat) (Option.none : Option Jvm.ClassFile.FieldType) ∈ lw_gd := lw_in (List.mem_of_getElem? (i := 612) (by decide +kernel)) (by decide +kernel)
theorem wL_L_23 : Jvm.Cond.methodLink "SignedMillLaw" (23 : Nat) ({ cls := "SignedMillModel", name := "push", desc := "(IJ)Z" } : Jvm.MethodName) ∈ lw_gd := lw_in (List.mem_of_getElem? (i := 613) (by decide +kernel)) (by decide +kernel)
theorem wI_R_push : Jvm.Cond.instanceMethod ({ cls := "SignedMillModel", name := "push", desc := "(IJ)Z" } : Jvm.MethodName) ∈ lw_gd := lw_in (List.mem_of_getElem? (i := 614) (by decide +kernel)) (by decide +kernel)
theorem wS_R_push : Jvm.Cond.selects "SignedMillModel" ({ cls := "SignedMillModel", name := "push", desc := "(IJ)Z" } : Jvm.MethodName) ({ cls := "SignedMillModel", name := "push", desc := "(IJ)Z" } : Jvm.MethodName) ∈ lw_gd := lw_in (List.mem_of_getElem? (i := 615) (by decide +kernel)) (by decide +kernel)
theorem wC_R_push : Jvm.Cond.code ({ cls := "SignedMillModel", name := "push", desc := "(IJ)Z" } : Jvm.MethodName) prog_6_method_22_code (5 : Nat) (Option.some Jvm.ClassFile.FieldType.boolean) ∈ lw_gd := lw_in (List.mem_of_getElem? (i := 616) (by decide +kernel)) (by decide +kernel)
theorem wL_L_28 : Jvm.Cond.methodLink "SignedMillLaw" (28 : Nat) ({ cls := "SignedMillModel", name := "spread", desc := "(IJI)Z" } : Jvm.MethodName) ∈ lw_gd := lw_in (List.mem_of_getElem? (i := 617) (by decide +kernel)) (by decide +kernel)
theorem wI_R_spread : Jvm.Cond.instanceMethod ({ cls := "SignedMillModel", name := "spread", desc := "(IJI)Z" } : Jvm.MethodName) ∈ lw_gd := lw_in (List.mem_of_getElem? (i := 618) (by decide +kernel)) (by decide +kernel)
theorem wS_R_spread : Jvm.Cond.selects "SignedMillModel" ({ cls := "SignedMillModel", name := "spread", desc := "(IJI)Z" } : Jvm.MethodName) ({ cls := "SignedMillModel", name := "spread", desc := "(IJI)Z" } : Jvm.MethodName) ∈ lw_gd := lw_in (List.mem_of_getElem? (i := 619) (by decide +kernel)) (by decide +kernel)
theorem wC_R_spread : Jvm.Cond.code ({ cls := "SignedMillModel", name := "spread", desc := "(IJI)Z" } : Jvm.MethodName) prog_6_method_23_code (6 : Nat) (Option.some Jvm.ClassFile.FieldType.boolean) ∈ lw_gd := lw_in (List.mem_of_getElem? (i := 620) (by decide +kernel)) (by decide +kernel)
theorem wL_L_33 : Jvm.Cond.methodLink "SignedMillLaw" (33 : Nat) ({ cls := "SignedMillModel", name := "negate", desc := "(II)Z" } : Jvm.MethodName) ∈ lw_gd := lw_in (List.mem_of_getElem? (i := 621) (by decide +kernel)) (by decide +kernel)
theorem wI_R_negate : Jvm.Cond.instanceMethod ({ cls := "SignedMillModel", name := "negate", desc := "(II)Z" } : Jvm.MethodName) ∈ lw_gd := lw_in (List.mem_of_getElem? (i := 622) (by decide +kernel)) (by decide +kernel)
theorem wS_R_negate : Jvm.Cond.selects "SignedMillModel" ({ cls := "SignedMillModel", name := "negate", desc := "(II)Z" } : Jvm.MethodName) ({ cls := "SignedMillModel", name := "negate", desc := "(II)Z" } : Jvm.MethodName) ∈ lw_gd := lw_in (List.mem_of_getElem? (i := 623) (by decide +kernel)) (by decide +kernel)
theorem wC_R_negate : Jvm.Cond.code ({ cls := "SignedMillModel", name := "negate", desc := "(II)Z" } : Jvm.MethodName) prog_6_method_24_code (3 : Nat) (Option.some Jvm.ClassFile.FieldType.boolean) ∈ lw_gd := lw_in (List.mem_of_getElem? (i := 624) (by decide +kernel)) (by decide +kernel)
theorem wL_L_38 : Jvm.Cond.methodLink "SignedMillLaw" (38 : Nat) ({ cls := "SignedMillModel", name := "add", desc := "(III)Z" } : Jvm.MethodName) ∈ lw_gd := lw_in (List.mem_of_getElem? (i := 625) (by decide +kernel)) (by decide +kernel)
theorem wI_R_add : Jvm.Cond.instanceMethod ({ cls := "SignedMillModel", name := "add", desc := "(III)Z" } : Jvm.MethodName) ∈ lw_gd := lw_in (List.mem_of_getElem? (i := 626) (by decide +kernel)) (by decide +kernel)
theorem wS_R_add : Jvm.Cond.selects "SignedMillModel" ({ cls := "SignedMillModel", name := "add", desc := "(III)Z" } : Jvm.MethodName) ({ cls := "SignedMillModel", name := "add", desc := "(III)Z" } : Jvm.MethodName) ∈ lw_gd := lw_in (List.mem_of_getElem? (i := 627) (by decide +kernel)) (by decide +kernel)
theorem wC_R_add : Jvm.Cond.code ({ cls := "SignedMillModel", name := "add", desc := "(III)Z" } : Jvm.MethodName) prog_6_method_26_code (4 : Nat) (Option.some Jvm.ClassFile.FieldType.boolean) ∈ lw_gd := lw_in (List.mem_of_getElem? (i := 628) (by decide +kernel)) (by decide +kernel)
theorem wL_R_82 : Jvm.Cond.methodLink "SignedMillModel" (82 : Nat) ({ cls := "SignedMillModel", name := "added", desc := "(IIZIZ)Z" } : Jvm.MethodName) ∈ lw_gd := lw_in (List.mem_of_getElem? (i := 629) (by decide +kernel)) (by decide +kernel)
theorem wI_R_added : Jvm.Cond.instanceMethod ({ cls := "SignedMillModel", name := "added", desc := "(IIZIZ)Z" } : Jvm.MethodName) ∈ lw_gd := lw_in (List.mem_of_getElem? (i := 631) (by decide +kernel)) (by decide +kernel)
theorem wC_R_added : Jvm.Cond.code ({ cls := "SignedMillModel", name := "added", desc := "(IIZIZ)Z" } : Jvm.MethodName) prog_6_method_25_code (7 : Nat) (Option.some Jvm.ClassFile.FieldType.boolean) ∈ lw_gd := lw_in (List.mem_of_getElem? (i := 632) (by decide +kernel)) (by decide +kernel)
theorem wL_R_54 : Jvm.Cond.methodLink "SignedMillModel" (54 : Nat) ({ cls := "SignedMillModel", name := "compareRows", desc := "(II)I" } : Jvm.MethodName) ∈ lw_gd := lw_in (List.mem_of_getElem? (i := 633) (by decide +kernel)) (by decide +kernel)
theorem wI_R_compareRows : Jvm.Cond.instanceMethod ({ cls := "SignedMillModel", name := "compareRows", desc := "(II)I" } : Jvm.MethodName) ∈ lw_gd := lw_in (List.mem_of_getElem? (i := 635) (by decide +kernel)) (by decide +kernel)
theorem wC_R_compareRows : Jvm.Cond.code ({ cls := "SignedMillModel", name := "compareRows", desc := "(II)I" } : Jvm.MethodName) prog_6_method_8_code (6 : Nat) (Option.some Jvm.ClassFile.FieldType.int) ∈ lw_gd := lw_in (List.mem_of_getElem? (i := 636) (by decide +kernel)) (by decide +kernel)
theorem wL_R_79 : Jvm.Cond.methodLink "SignedMillModel" (79 : Nat) ({ cls := "SignedMillModel", name := "sum", desc := "(III)V" } : Jvm.MethodName) ∈ lw_gd := lw_in (List.mem_of_getElem? (i := 637) (by decide +kernel)) (by decide +kernel)
theorem wI_R_sum : Jvm.Cond.instanceMethod ({ cls := "SignedMillModel", name := "sum", desc := "(III)V" } : Jvm.MethodName) ∈ lw_gd := lw_in (List.mem_of_getElem? (i := 639) (by decide +kernel)) (by decide +kernel)
theorem wC_R_sum : Jvm.Cond.code ({ cls := "SignedMillModel", name := "sum", desc := "(III)V" } : Jvm.MethodName) prog_6_method_9_code (8 : Nat) (Option.none : Option Jvm.ClassFile.FieldType) ∈ lw_gd := lw_in (List.mem_of_getElem? (i := 640) (by decide +kernel)) (by decide +kernel)
theorem wL_R_32 : Jvm.Cond.methodLink "SignedMillModel" (32 : Nat) ({ cls := "SignedMillModel", name := "digit", desc := "(II)I" } : Jvm.MethodName) ∈ lw_gd := lw_in (List.mem_of_getElem? (i := 641) (by decide +kernel)) (by decide +kernel)
theorem wI_R_digit : Jvm.Cond.instanceMethod ({ cls := "SignedMillModel", name := "digit", desc := "(II)I" } : Jvm.MethodName) ∈ lw_gd := lw_in (List.mem_of_getElem? (i := 643) (by decide +kernel)) (by decide +kernel)
theorem wC_R_digit : Jvm.Cond.code ({ cls := "SignedMillModel", name := "digit", desc := "(II)I" } : Jvm.MethodName) prog_6_method_6_code (3 : Nat) (Option.some Jvm.ClassFile.FieldType.int) ∈ lw_gd := lw_in (List.mem_of_getElem? (i := 644) (by decide +kernel)) (by decide +kernel)
theorem wK_R_36 : Jvm.Cond.constant "SignedMillModel" (36 : Nat) (65535 : Int32) ∈ lw_gd := lw_in (List.mem_of_getElem? (i := 645) (by decide +kernel)) (by decide +kernel)
theorem wL_R_57 : Jvm.Cond.methodLink "SignedMillModel" (57 : Nat) ({ cls := "SignedMillModel", name := "lessen", desc := "(III)V" } : Jvm.MethodName) ∈ lw_gd := lw_in (List.mem_of_getElem? (i := 646) (by decide +kernel)) (by decide +kernel)
theorem wI_R_lessen : Jvm.Cond.instanceMethod ({ cls := "SignedMillModel", name := "lessen", desc := "(III)V" } : Jvm.MethodName) ∈ lw_gd := lw_in (List.mem_of_getElem? (i := 648) (by decide +kernel)) (by decide +kernel)
theorem wC_R_lessen : Jvm.Cond.code ({ cls := "SignedMillModel", name := "lessen", desc := "(III)V" } : Jvm.MethodName) prog_6_method_10_code (8 : Nat) (Option.none : Option Jvm.ClassFile.FieldType) ∈ lw_gd := lw_in (List.mem_of_getElem? (i := 649) (by decide +kernel)) (by decide +kernel)
theorem wL_L_42 : Jvm.Cond.methodLink "SignedMillLaw" (42 : Nat) ({ cls := "SignedMillModel", name := "take", desc := "(III)Z" } : Jvm.MethodName) ∈ lw_gd := lw_in (List.mem_of_getElem? (i := 650) (by decide +kernel)) (by decide +kernel)
theorem wI_R_take : Jvm.Cond.instanceMethod ({ cls := "SignedMillModel", name := "take", desc := "(III)Z" } : Jvm.MethodName) ∈ lw_gd := lw_in (List.mem_of_getElem? (i := 651) (by decide +kernel)) (by decide +kernel)
theorem wS_R_take : Jvm.Cond.selects "SignedMillModel" ({ cls := "SignedMillModel", name := "take", desc := "(III)Z" } : Jvm.MethodName) ({ cls := "SignedMillModel", name := "take", desc := "(III)Z" } : Jvm.MethodName) ∈ lw_gd := lw_in (List.mem_of_getElem? (i := 652) (by decide +kernel)) (by decide +kernel)
theorem wC_R_take : Jvm.Cond.code ({ cls := "SignedMillModel", name := "take", desc := "(III)Z" } : Jvm.MethodName) prog_6_method_27_code (4 : Nat) (Option.some Jvm.ClassFile.FieldType.boolean) ∈ lw_gd := lw_in (List.mem_of_getElem? (i := 653) (by decide +kernel)) (by decide +kernel)
theorem wL_L_46 : Jvm.Cond.methodLink "SignedMillLaw" (46 : Nat) ({ cls := "SignedMillModel", name := "times", desc := "(III)Z" } : Jvm.MethodName) ∈ lw_gd := lw_in (List.mem_of_getElem? (i := 654) (by decide +kernel)) (by decide +kernel)
theorem wI_R_times : Jvm.Cond.instanceMethod ({ cls := "SignedMillModel", name := "times", desc := "(III)Z" } : Jvm.MethodName) ∈ lw_gd := lw_in (List.mem_of_getElem? (i := 655) (by decide +kernel)) (by decide +kernel)
theorem wS_R_times : Jvm.Cond.selects "SignedMillModel" ({ cls := "SignedMillModel", name := "times", desc := "(III)Z" } : Jvm.MethodName) ({ cls := "SignedMillModel", name := "times", desc := "(III)Z" } : Jvm.MethodName) ∈ lw_gd := lw_in (List.mem_of_getElem? (i := 656) (by decide +kernel)) (by decide +kernel)
theorem wC_R_times : Jvm.Cond.code ({ cls := "SignedMillModel", name := "times", desc := "(III)Z" } : Jvm.MethodName) prog_6_method_28_code (4 : Nat) (Option.some Jvm.ClassFile.FieldType.boolean) ∈ lw_gd := lw_in (List.mem_of_getElem? (i := 657) (by decide +kernel)) (by decide +kernel)
theorem wL_R_86 : Jvm.Cond.methodLink "SignedMillModel" (86 : Nat) ({ cls := "SignedMillModel", name := "product", desc := "(III)V" } : Jvm.MethodName) ∈ lw_gd := lw_in (List.mem_of_getElem? (i := 658) (by decide +kernel)) (by decide +kernel)
theorem wI_R_product : Jvm.Cond.instanceMethod ({ cls := "SignedMillModel", name := "product", desc := "(III)V" } : Jvm.MethodName) ∈ lw_gd := lw_in (List.mem_of_getElem? (i := 660) (by decide +kernel)) (by decide +kernel)
theorem wC_R_product : Jvm.Cond.code ({ cls := "SignedMillModel", name := "product", desc := "(III)V" } : Jvm.MethodName) prog_6_method_11_code (13 : Nat) (Option.none : Option Jvm.ClassFile.FieldType) ∈ lw_gd := lw_in (List.mem_of_getElem? (i := 661) (by decide +kernel)) (by decide +kernel)
theorem wL_L_51 : Jvm.Cond.methodLink "SignedMillLaw" (51 : Nat) ({ cls := "SignedMillModel", name := "divide", desc := "(IIIIZ)Z" } : Jvm.MethodName) ∈ lw_gd := lw_in (List.mem_of_getElem? (i := 662) (by decide +kernel)) (by decide +kernel)
theorem wI_R_divide : Jvm.Cond.instanceMethod ({ cls := "SignedMillModel", name := "divide", desc := "(IIIIZ)Z" } : Jvm.MethodName) ∈ lw_gd := lw_in (List.mem_of_getElem? (i := 663) (by decide +kernel)) (by decide +kernel)
theorem wS_R_divide : Jvm.Cond.selects "SignedMillModel" ({ cls := "SignedMillModel", name := "divide", desc := "(IIIIZ)Z" } : Jvm.MethodName) ({ cls := "SignedMillModel", name := "divide", desc := "(IIIIZ)Z" } : Jvm.MethodName) ∈ lw_gd := lw_in (List.mem_of_getElem? (i := 664) (by decide +kernel)) (by decide +kernel)
theorem wC_R_divide : Jvm.Cond.code ({ cls := "SignedMillModel", name := "divide", desc := "(IIIIZ)Z" } : Jvm.MethodName) prog_6_method_29_code (10 : Nat) (Option.some Jvm.ClassFile.FieldType.boolean) ∈ lw_gd := lw_in (List.mem_of_getElem? (i := 665) (by decide +kernel)) (by decide +kernel)
theorem wL_R_89 : Jvm.Cond.methodLink "SignedMillModel" (89 : Nat) ({ cls := "SignedMillModel", name := "quotient", desc := "(IIII)V" } : Jvm.MethodName) ∈ lw_gd := lw_in (List.mem_of_getElem? (i := 666) (by decide +kernel)) (by decide +kernel)
theorem wI_R_quotient : Jvm.Cond.instanceMethod ({ cls := "SignedMillModel", name := "quotient", desc := "(IIII)V" } : Jvm.MethodName) ∈ lw_gd := lw_in (List.mem_of_getElem? (i := 668) (by decide +kernel)) (by decide +kernel)
theorem wC_R_quotient : Jvm.Cond.code ({ cls := "SignedMillModel", name := "quotient", desc := "(IIII)V" } : Jvm.MethodName) prog_6_method_17_code (7 : Nat) (Option.none : Option Jvm.ClassFile.FieldType) ∈ lw_gd := lw_in (List.mem_of_getElem? (i := 669) (by decide +kernel)) (by decide +kernel)
theorem wL_R_41 : Jvm.Cond.methodLink "SignedMillModel" (41 : Nat) ({ cls := "SignedMillModel", name := "bitsOf", desc := "(I)I" } : Jvm.MethodName) ∈ lw_gd := lw_in (List.mem_of_getElem? (i := 670) (by decide +kernel)) (by decide +kernel)
theorem wI_R_bitsOf : Jvm.Cond.instanceMethod ({ cls := "SignedMillModel", name := "bitsOf", desc := "(I)I" } : Jvm.MethodName) ∈ lw_gd := lw_in (List.mem_of_getElem? (i := 672) (by decide +kernel)) (by decide +kernel)
theorem wC_R_bitsOf : Jvm.Cond.code ({ cls := "SignedMillModel", name := "bitsOf", desc := "(I)I" } : Jvm.MethodName) prog_6_method_12_code (4 : Nat) (Option.some Jvm.ClassFile.FieldType.int) ∈ lw_gd := lw_in (List.mem_of_getElem? (i := 673) (by decide +kernel)) (by decide +kernel)
theorem wL_R_44 : Jvm.Cond.methodLink "SignedMillModel" (44 : Nat) ({ cls := "SignedMillModel", name := "lower", desc := "(IIJ)V" } : Jvm.MethodName) ∈ lw_gd := lw_in (List.mem_of_getElem? (i := 674) (by decide +kernel)) (by decide +kernel)
theorem wI_R_lower : Jvm.Cond.instanceMethod ({ cls := "SignedMillModel", name := "lower", desc := "(IIJ)V" } : Jvm.MethodName) ∈ lw_gd := lw_in (List.mem_of_getElem? (i := 676) (by decide +kernel)) (by decide +kernel)
theorem wC_R_lower : Jvm.Cond.code ({ cls := "SignedMillModel", name := "lower", desc := "(IIJ)V" } : Jvm.MethodName) prog_6_method_15_code (10 : Nat) (Option.none : Option Jvm.ClassFile.FieldType) ∈ lw_gd := lw_in (List.mem_of_getElem? (i := 677) (by decide +kernel)) (by decide +kernel)
theorem wK_R_37 : Jvm.Cond.constantLong "SignedMillModel" (37 : Nat) (16 : Int64) ∈ lw_gd := lw_in (List.mem_of_getElem? (i := 678) (by decide +kernel)) (by decide +kernel)
theorem wK_R_39 : Jvm.Cond.constantLong "SignedMillModel" (39 : Nat) (8192 : Int64) ∈ lw_gd := lw_in (List.mem_of_getElem? (i := 679) (by decide +kernel)) (by decide +kernel)
theorem wL_R_48 : Jvm.Cond.methodLink "SignedMillModel" (48 : Nat) ({ cls := "SignedMillModel", name := "bitOf", desc := "(II)I" } : Jvm.MethodName) ∈ lw_gd := lw_in (List.mem_of_getElem? (i := 680) (by decide +kernel)) (by decide +kernel)
theorem wI_R_bitOf : Jvm.Cond.instanceMethod ({ cls := "SignedMillModel", name := "bitOf", desc := "(II)I" } : Jvm.MethodName) ∈ lw_gd := lw_in (List.mem_of_getElem? (i := 682) (by decide +kernel)) (by decide +kernel)
theorem wC_R_bitOf : Jvm.Cond.code ({ cls := "SignedMillModel", name := "bitOf", desc := "(II)I" } : Jvm.MethodName) prog_6_method_13_code (3 : Nat) (Option.some Jvm.ClassFile.FieldType.int) ∈ lw_gd := lw_in (List.mem_of_getElem? (i := 683) (by decide +kernel)) (by decide +kernel)
theorem wL_R_51 : Jvm.Cond.methodLink "SignedMillModel" (51 : Nat) ({ cls := "SignedMillModel", name := "twice", desc := "(II)V" } : Jvm.MethodName) ∈ lw_gd := lw_in (List.mem_of_getElem? (i := 684) (by decide +kernel)) (by decide +kernel)
theorem wI_R_twice : Jvm.Cond.instanceMethod ({ cls := "SignedMillModel", name := "twice", desc := "(II)V" } : Jvm.MethodName) ∈ lw_gd := lw_in (List.mem_of_getElem? (i := 686) (by decide +kernel)) (by decide +kernel)
theorem wC_R_twice : Jvm.Cond.code ({ cls := "SignedMillModel", name := "twice", desc := "(II)V" } : Jvm.MethodName) prog_6_method_14_code (6 : Nat) (Option.none : Option Jvm.ClassFile.FieldType) ∈ lw_gd := lw_in (List.mem_of_getElem? (i := 687) (by decide +kernel)) (by decide +kernel)
theorem wL_L_56 : Jvm.Cond.methodLink "SignedMillLaw" (56 : Nat) ({ cls := "SignedMillModel", name := "logic", desc := "(IIII)Z" } : Jvm.MethodName) ∈ lw_gd := lw_in (List.mem_of_getElem? (i := 688) (by decide +kernel)) (by decide +kernel)
theorem wI_R_logic : Jvm.Cond.instanceMethod ({ cls := "SignedMillModel", name := "logic", desc := "(IIII)Z" } : Jvm.MethodName) ∈ lw_gd := lw_in (List.mem_of_getElem? (i := 689) (by decide +kernel)) (by decide +kernel)
theorem wS_R_logic : Jvm.Cond.selects "SignedMillModel" ({ cls := "SignedMillModel", name := "logic", desc := "(IIII)Z" } : Jvm.MethodName) ({ cls := "SignedMillModel", name := "logic", desc := "(IIII)Z" } : Jvm.MethodName) ∈ lw_gd := lw_in (List.mem_of_getElem? (i := 690) (by decide +kernel)) (by decide +kernel)
theorem wC_R_logic : Jvm.Cond.code ({ cls := "SignedMillModel", name := "logic", desc := "(IIII)Z" } : Jvm.MethodName) prog_6_method_33_code (13 : Nat) (Option.some Jvm.ClassFile.FieldType.boolean) ∈ lw_gd := lw_in (List.mem_of_getElem? (i := 691) (by decide +kernel)) (by decide +kernel)
theorem wL_R_93 : Jvm.Cond.methodLink "SignedMillModel" (93 : Nat) ({ cls := "SignedMillModel", name := "lowestDigit", desc := "(I)I" } : Jvm.MethodName) ∈ lw_gd := lw_in (List.mem_of_getElem? (i := 692) (by decide +kernel)) (by decide +kernel)
theorem wI_R_lowestDigit : Jvm.Cond.instanceMethod ({ cls := "SignedMillModel", name := "lowestDigit", desc := "(I)I" } : Jvm.MethodName) ∈ lw_gd := lw_in (List.mem_of_getElem? (i := 694) (by decide +kernel)) (by decide +kernel)
theorem wC_R_lowestDigit : Jvm.Cond.code ({ cls := "SignedMillModel", name := "lowestDigit", desc := "(I)I" } : Jvm.MethodName) prog_6_method_31_code (3 : Nat) (Option.some Jvm.ClassFile.FieldType.int) ∈ lw_gd := lw_in (List.mem_of_getElem? (i := 695) (by decide +kernel)) (by decide +kernel)
theorem wL_R_96 : Jvm.Cond.methodLink "SignedMillModel" (96 : Nat) ({ cls := "SignedMillModel", name := "joined", desc := "(III)I" } : Jvm.MethodName) ∈ lw_gd := lw_in (List.mem_of_getElem? (i := 696) (by decide +kernel)) (by decide +kernel)
theorem wT_R_joined : Jvm.Cond.static ({ cls := "SignedMillModel", name := "joined", desc := "(III)I" } : Jvm.MethodName) ∈ lw_gd := lw_in (List.mem_of_getElem? (i := 697) (by decide +kernel)) (by decide +kernel)
theorem wC_R_joined : Jvm.Cond.code ({ cls := "SignedMillModel", name := "joined", desc := "(III)I" } : Jvm.MethodName) prog_6_method_32_code (3 : Nat) (Option.some Jvm.ClassFile.FieldType.int) ∈ lw_gd := lw_in (List.mem_of_getElem? (i := 698) (by decide +kernel)) (by decide +kernel)
theorem wL_R_100 : Jvm.Cond.methodLink "SignedMillModel" (100 : Nat) ({ cls := "SignedMillModel", name := "bitsDigit", desc := "(III)I" } : Jvm.MethodName) ∈ lw_gd := lw_in (List.mem_of_getElem? (i := 699) (by decide +kernel)) (by decide +kernel)
theorem wI_R_bitsDigit : Jvm.Cond.instanceMethod ({ cls := "SignedMillModel", name := "bitsDigit", desc := "(III)I" } : Jvm.MethodName) ∈ lw_gd := lw_in (List.mem_of_getElem? (i := 701) (by decide +kernel)) (by decide +kernel)
theorem wC_R_bitsDigit : Jvm.Cond.code ({ cls := "SignedMillModel", name := "bitsDigit", desc := "(III)I" } : Jvm.MethodName) prog_6_method_30_code (5 : Nat) (Option.some Jvm.ClassFile.FieldType.int) ∈ lw_gd := lw_in (List.mem_of_getElem? (i := 702) (by decide +kernel)) (by decide +kernel)
theorem wL_L_60 : Jvm.Cond.methodLink "SignedMillLaw" (60 : Nat) ({ cls := "SignedMillModel", name := "shift", desc := "(III)Z" } : Jvm.MethodName) ∈ lw_gd := lw_in (List.mem_of_getElem? (i := 703) (by decide +kernel)) (by decide +kernel)
theorem wI_R_shift : Jvm.Cond.instanceMethod ({ cls := "SignedMillModel", name := "shift", desc := "(III)Z" } : Jvm.MethodName) ∈ lw_gd := lw_in (List.mem_of_getElem? (i := 704) (by decide +kernel)) (by decide +kernel)
theorem wS_R_shift : Jvm.Cond.selects "SignedMillModel" ({ cls := "SignedMillModel", name := "shift", desc := "(III)Z" } : Jvm.MethodName) ({ cls := "SignedMillModel", name := "shift", desc := "(III)Z" } : Jvm.MethodName) ∈ lw_gd := lw_in (List.mem_of_getElem? (i := 705) (by decide +kernel)) (by decide +kernel)
theorem wC_R_shift : Jvm.Cond.code ({ cls := "SignedMillModel", name := "shift", desc := "(III)Z" } : Jvm.MethodName) prog_6_method_34_code (9 : Nat) (Option.some Jvm.ClassFile.FieldType.boolean) ∈ lw_gd := lw_in (List.mem_of_getElem? (i := 706) (by decide +kernel)) (by decide +kernel)
theorem wK_R_103 : Jvm.Cond.constantLong "SignedMillModel" (103 : Nat) (65536 : Int64) ∈ lw_gd := lw_in (List.mem_of_getElem? (i := 707) (by decide +kernel)) (by decide +kernel)
theorem wL_R_105 : Jvm.Cond.methodLink "SignedMillModel" (105 : Nat) ({ cls := "SignedMillModel", name := "raise", desc := "(III)V" } : Jvm.MethodName) ∈ lw_gd := lw_in (List.mem_of_getElem? (i := 708) (by decide +kernel)) (by decide +kernel)
theorem wI_R_raise : Jvm.Cond.instanceMethod ({ cls := "SignedMillModel", name := "raise", desc := "(III)V" } : Jvm.MethodName) ∈ lw_gd := lw_in (List.mem_of_getElem? (i := 710) (by decide +kernel)) (by decide +kernel)
theorem wC_R_raise : Jvm.Cond.code ({ cls := "SignedMillModel", name := "raise", desc := "(III)V" } : Jvm.MethodName) prog_6_method_16_code (10 : Nat) (Option.none : Option Jvm.ClassFile.FieldType) ∈ lw_gd := lw_in (List.mem_of_getElem? (i := 711) (by decide +kernel)) (by decide +kernel)
theorem wL_L_64 : Jvm.Cond.methodLink "SignedMillLaw" (64 : Nat) ({ cls := "SignedMillModel", name := "change", desc := "(IIII)Z" } : Jvm.MethodName) ∈ lw_gd := lw_in (List.mem_of_getElem? (i := 712) (by decide +kernel)) (by decide +kernel)
theorem wI_R_change : Jvm.Cond.instanceMethod ({ cls := "SignedMillModel", name := "change", desc := "(IIII)Z" } : Jvm.MethodName) ∈ lw_gd := lw_in (List.mem_of_getElem? (i := 713) (by decide +kernel)) (by decide +kernel)
theorem wS_R_change : Jvm.Cond.selects "SignedMillModel" ({ cls := "SignedMillModel", name := "change", desc := "(IIII)Z" } : Jvm.MethodName) ({ cls := "SignedMillModel", name := "change", desc := "(IIII)Z" } : Jvm.MethodName) ∈ lw_gd := lw_in (List.mem_of_getElem? (i := 714) (by decide +kernel)) (by decide +kernel)
theorem wC_R_change : Jvm.Cond.code ({ cls := "SignedMillModel", name := "change", desc := "(IIII)Z" } : Jvm.MethodName) prog_6_method_36_code (7 : Nat) (Option.some Jvm.ClassFile.FieldType.boolean) ∈ lw_gd := lw_in (List.mem_of_getElem? (i := 715) (by decide +kernel)) (by decide +kernel)
theorem wL_R_108 : Jvm.Cond.methodLink "SignedMillModel" (108 : Nat) ({ cls := "SignedMillModel", name := "bitAt", desc := "(II)I" } : Jvm.MethodName) ∈ lw_gd := lw_in (List.mem_of_getElem? (i := 716) (by decide +kernel)) (by decide +kernel)
theorem wI_R_bitAt : Jvm.Cond.instanceMethod ({ cls := "SignedMillModel", name := "bitAt", desc := "(II)I" } : Jvm.MethodName) ∈ lw_gd := lw_in (List.mem_of_getElem? (i := 718) (by decide +kernel)) (by decide +kernel)
theorem wC_R_bitAt : Jvm.Cond.code ({ cls := "SignedMillModel", name := "bitAt", desc := "(II)I" } : Jvm.MethodName) prog_6_method_35_code (3 : Nat) (Option.some Jvm.ClassFile.FieldType.int) ∈ lw_gd := lw_in (List.mem_of_getElem? (i := 719) (by decide +kernel)) (by decide +kernel)
theorem wL_L_68 : Jvm.Cond.methodLink "SignedMillLaw" (68 : Nat) ({ cls := "SignedMillModel", name := "power", desc := "(III)Z" } : Jvm.MethodName) ∈ lw_gd := lw_in (List.mem_of_getElem? (i := 720) (by decide +kernel)) (by decide +kernel)
theorem wI_R_power : Jvm.Cond.instanceMethod ({ cls := "SignedMillModel", name := "power", desc := "(III)Z" } : Jvm.MethodName) ∈ lw_gd := lw_in (List.mem_of_getElem? (i := 721) (by decide +kernel)) (by decide +kernel)
theorem wS_R_power : Jvm.Cond.selects "SignedMillModel" ({ cls := "SignedMillModel", name := "power", desc := "(III)Z" } : Jvm.MethodName) ({ cls := "SignedMillModel", name := "power", desc := "(III)Z" } : Jvm.MethodName) ∈ lw_gd := lw_in (List.mem_of_getElem? (i := 722) (by decide +kernel)) (by decide +kernel)
theorem wC_R_power : Jvm.Cond.code ({ cls := "SignedMillModel", name := "power", desc := "(III)Z" } : Jvm.MethodName) prog_6_method_37_code (8 : Nat) (Option.some Jvm.ClassFile.FieldType.boolean) ∈ lw_gd := lw_in (List.mem_of_getElem? (i := 723) (by decide +kernel)) (by decide +kernel)
theorem wL_L_72 : Jvm.Cond.methodLink "SignedMillLaw" (72 : Nat) ({ cls := "SignedMillModel", name := "common", desc := "(III)Z" } : Jvm.MethodName) ∈ lw_gd := lw_in (List.mem_of_getElem? (i := 724) (by decide +kernel)) (by decide +kernel)
theorem wI_R_common : Jvm.Cond.instanceMethod ({ cls := "SignedMillModel", name := "common", desc := "(III)Z" } : Jvm.MethodName) ∈ lw_gd := lw_in (List.mem_of_getElem? (i := 725) (by decide +kernel)) (by decide +kernel)
theorem wS_R_common : Jvm.Cond.selects "SignedMillModel" ({ cls := "SignedMillModel", name := "common", desc := "(III)Z" } : Jvm.MethodName) ({ cls := "SignedMillModel", name := "common", desc := "(III)Z" } : Jvm.MethodName) ∈ lw_gd := lw_in (List.mem_of_getElem? (i := 726) (by decide +kernel)) (by decide +kernel)
theorem wC_R_common : Jvm.Cond.code ({ cls := "SignedMillModel", name := "common", desc := "(III)Z" } : Jvm.MethodName) prog_6_method_38_code (4 : Nat) (Option.some Jvm.ClassFile.FieldType.boolean) ∈ lw_gd := lw_in (List.mem_of_getElem? (i := 727) (by decide +kernel)) (by decide +kernel)
theorem wL_L_76 : Jvm.Cond.methodLink "SignedMillLaw" (76 : Nat) ({ cls := "SignedMillModel", name := "inverse", desc := "(III)Z" } : Jvm.MethodName) ∈ lw_gd := lw_in (List.mem_of_getElem? (i := 728) (by decide +kernel)) (by decide +kernel)
theorem wI_R_inverse : Jvm.Cond.instanceMethod ({ cls := "SignedMillModel", name := "inverse", desc := "(III)Z" } : Jvm.MethodName) ∈ lw_gd := lw_in (List.mem_of_getElem? (i := 729) (by decide +kernel)) (by decide +kernel)
theorem wS_R_inverse : Jvm.Cond.selects "SignedMillModel" ({ cls := "SignedMillModel", name := "inverse", desc := "(III)Z" } : Jvm.MethodName) ({ cls := "SignedMillModel", name := "inverse", desc := "(III)Z" } : Jvm.MethodName) ∈ lw_gd := lw_in (List.mem_of_getElem? (i := 730) (by decide +kernel)) (by decide +kernel)
theorem wC_R_inverse : Jvm.Cond.code ({ cls := "SignedMillModel", name := "inverse", desc := "(III)Z" } : Jvm.MethodName) prog_6_method_41_code (4 : Nat) (Option.some Jvm.ClassFile.FieldType.boolean) ∈ lw_gd := lw_in (List.mem_of_getElem? (i := 731) (by decide +kernel)) (by decide +kernel)
theorem wL_R_117 : Jvm.Cond.methodLink "SignedMillModel" (117 : Nat) ({ cls := "SignedMillModel", name := "inverted", desc := "(I)Z" } : Jvm.MethodName) ∈ lw_gd := lw_in (List.mem_of_getElem? (i := 732) (by decide +kernel)) (by decide +kernel)
theorem wI_R_inverted : Jvm.Cond.instanceMethod ({ cls := "SignedMillModel", name := "inverted", desc := "(I)Z" } : Jvm.MethodName) ∈ lw_gd := lw_in (List.mem_of_getElem? (i := 734) (by decide +kernel)) (by decide +kernel)
theorem wC_R_inverted : Jvm.Cond.code ({ cls := "SignedMillModel", name := "inverted", desc := "(I)Z" } : Jvm.MethodName) prog_6_method_39_code (5 : Nat) (Option.some Jvm.ClassFile.FieldType.boolean) ∈ lw_gd := lw_in (List.mem_of_getElem? (i := 735) (by decide +kernel)) (by decide +kernel)
theorem wL_R_111 : Jvm.Cond.methodLink "SignedMillModel" (111 : Nat) ({ cls := "SignedMillModel", name := "residue", desc := "(II)V" } : Jvm.MethodName) ∈ lw_gd := lw_in (List.mem_of_getElem? (i := 736) (by decide +kernel)) (by decide +kernel)
theorem wI_R_residue : Jvm.Cond.instanceMethod ({ cls := "SignedMillModel", name := "residue", desc := "(II)V" } : Jvm.MethodName) ∈ lw_gd := lw_in (List.mem_of_getElem? (i := 738) (by decide +kernel)) (by decide +kernel)
theorem wC_R_residue : Jvm.Cond.code ({ cls := "SignedMillModel", name := "residue", desc := "(II)V" } : Jvm.MethodName) prog_6_method_40_code (3 : Nat) (Option.none : Option Jvm.ClassFile.FieldType) ∈ lw_gd := lw_in (List.mem_of_getElem? (i := 739) (by decide +kernel)) (by decide +kernel)
theorem wL_R_114 : Jvm.Cond.methodLink "SignedMillModel" (114 : Nat) ({ cls := "SignedMillModel", name := "rest", desc := "(III)V" } : Jvm.MethodName) ∈ lw_gd := lw_in (List.mem_of_getElem? (i := 740) (by decide +kernel)) (by decide +kernel)
theorem wI_R_rest : Jvm.Cond.instanceMethod ({ cls := "SignedMillModel", name := "rest", desc := "(III)V" } : Jvm.MethodName) ∈ lw_gd := lw_in (List.mem_of_getElem? (i := 742) (by decide +kernel)) (by decide +kernel)
theorem wC_R_rest : Jvm.Cond.code ({ cls := "SignedMillModel", name := "rest", desc := "(III)V" } : Jvm.MethodName) prog_6_method_18_code (12 : Nat) (Option.none : Option Jvm.ClassFile.FieldType) ∈ lw_gd := lw_in (List.mem_of_getElem? (i := 743) (by decide +kernel)) (by decide +kernel)
theorem wL_R_61 : Jvm.Cond.methodLink "SignedMillModel" (61 : Nat) ({ cls := "SignedMillModel", name := "takeTimes", desc := "(IIJ)V" } : Jvm.MethodName) ∈ lw_gd := lw_in (List.mem_of_getElem? (i := 744) (by decide +kernel)) (by decide +kernel)
theorem wI_R_takeTimes : Jvm.Cond.instanceMethod ({ cls := "SignedMillModel", name := "takeTimes", desc := "(IIJ)V" } : Jvm.MethodName) ∈ lw_gd := lw_in (List.mem_of_getElem? (i := 746) (by decide +kernel)) (by decide +kernel)
theorem wC_R_takeTimes : Jvm.Cond.code ({ cls := "SignedMillModel", name := "takeTimes", desc := "(IIJ)V" } : Jvm.MethodName) prog_6_method_19_code (10 : Nat) (Option.none : Option Jvm.ClassFile.FieldType) ∈ lw_gd := lw_in (List.mem_of_getElem? (i := 747) (by decide +kernel)) (by decide +kernel)
theorem wL_L_80 : Jvm.Cond.methodLink "SignedMillLaw" (80 : Nat) ({ cls := "SignedMillModel", name := "modulo", desc := "(IIII)Z" } : Jvm.MethodName) ∈ lw_gd := lw_in (List.mem_of_getElem? (i := 748) (by decide +kernel)) (by decide +kernel)
theorem wI_R_modulo : Jvm.Cond.instanceMethod ({ cls := "SignedMillModel", name := "modulo", desc := "(IIII)Z" } : Jvm.MethodName) ∈ lw_gd := lw_in (List.mem_of_getElem? (i := 749) (by decide +kernel)) (by decide +kernel)
theorem wS_R_modulo : Jvm.Cond.selects "SignedMillModel" ({ cls := "SignedMillModel", name := "modulo", desc := "(IIII)Z" } : Jvm.MethodName) ({ cls := "SignedMillModel", name := "modulo", desc := "(IIII)Z" } : Jvm.MethodName) ∈ lw_gd := lw_in (List.mem_of_getElem? (i := 750) (by decide +kernel)) (by decide +kernel)
theorem wC_R_modulo : Jvm.Cond.code ({ cls := "SignedMillModel", name := "modulo", desc := "(IIII)Z" } : Jvm.MethodName) prog_6_method_42_code (6 : Nat) (Option.some Jvm.ClassFile.FieldType.boolean) ∈ lw_gd := lw_in (List.mem_of_getElem? (i := 751) (by decide +kernel)) (by decide +kernel)
theorem wK_R_120 : Jvm.Cond.constantLong "SignedMillModel" (120 : Nat) (4294967296 : Int64) ∈ lw_gd := lw_in (List.mem_of_getElem? (i := 752) (by decide +kernel)) (by decide +kernel)
theorem wL_L_85 : Jvm.Cond.methodLink "SignedMillLaw" (85 : Nat) ({ cls := "SignedMillModel", name := "compare", desc := "(II)I" } : Jvm.MethodName) ∈ lw_gd := lw_in (List.mem_of_getElem? (i := 753) (by decide +kernel)) (by decide +kernel)
theorem wI_R_compare : Jvm.Cond.instanceMethod ({ cls := "SignedMillModel", name := "compare", desc := "(II)I" } : Jvm.MethodName) ∈ lw_gd := lw_in (List.mem_of_getElem? (i := 754) (by decide +kernel)) (by decide +kernel)
theorem wS_R_compare : Jvm.Cond.selects "SignedMillModel" ({ cls := "SignedMillModel", name := "compare", desc := "(II)I" } : Jvm.MethodName) ({ cls := "SignedMillModel", name := "compare", desc := "(II)I" } : Jvm.MethodName) ∈ lw_gd := lw_in (List.mem_of_getElem? (i := 755) (by decide +kernel)) (by decide +kernel)
theorem wC_R_compare : Jvm.Cond.code ({ cls := "SignedMillModel", name := "compare", desc := "(II)I" } : Jvm.MethodName) prog_6_method_43_code (3 : Nat) (Option.some Jvm.ClassFile.FieldType.int) ∈ lw_gd := lw_in (List.mem_of_getElem? (i := 756) (by decide +kernel)) (by decide +kernel)
theorem wL_L_90 : Jvm.Cond.methodLink "SignedMillLaw" (90 : Nat) ({ cls := "SignedMillModel", name := "sign", desc := "(I)I" } : Jvm.MethodName) ∈ lw_gd := lw_in (List.mem_of_getElem? (i := 757) (by decide +kernel)) (by decide +kernel)
theorem wI_R_sign : Jvm.Cond.instanceMethod ({ cls := "SignedMillModel", name := "sign", desc := "(I)I" } : Jvm.MethodName) ∈ lw_gd := lw_in (List.mem_of_getElem? (i := 758) (by decide +kernel)) (by decide +kernel)
theorem wS_R_sign : Jvm.Cond.selects "SignedMillModel" ({ cls := "SignedMillModel", name := "sign", desc := "(I)I" } : Jvm.MethodName) ({ cls := "SignedMillModel", name := "sign", desc := "(I)I" } : Jvm.MethodName) ∈ lw_gd := lw_in (List.mem_of_getElem? (i := 759) (by decide +kernel)) (by decide +kernel)
theorem wC_R_sign : Jvm.Cond.code ({ cls := "SignedMillModel", name := "sign", desc := "(I)I" } : Jvm.MethodName) prog_6_method_44_code (2 : Nat) (Option.some Jvm.ClassFile.FieldType.int) ∈ lw_gd := lw_in (List.mem_of_getElem? (i := 760) (by decide +kernel)) (by decide +kernel)
theorem wL_L_94 : Jvm.Cond.methodLink "SignedMillLaw" (94 : Nat) ({ cls := "SignedMillModel", name := "length", desc := "(I)I" } : Jvm.MethodName) ∈ lw_gd := lw_in (List.mem_of_getElem? (i := 761) (by decide +kernel)) (by decide +kernel)
theorem wI_R_length : Jvm.Cond.instanceMethod ({ cls := "SignedMillModel", name := "length", desc := "(I)I" } : Jvm.MethodName) ∈ lw_gd := lw_in (List.mem_of_getElem? (i := 762) (by decide +kernel)) (by decide +kernel)
theorem wS_R_length : Jvm.Cond.selects "SignedMillModel" ({ cls := "SignedMillModel", name := "length", desc := "(I)I" } : Jvm.MethodName) ({ cls := "SignedMillModel", name := "length", desc := "(I)I" } : Jvm.MethodName) ∈ lw_gd := lw_in (List.mem_of_getElem? (i := 763) (by decide +kernel)) (by decide +kernel)
theorem wC_R_length : Jvm.Cond.code ({ cls := "SignedMillModel", name := "length", desc := "(I)I" } : Jvm.MethodName) prog_6_method_45_code (4 : Nat) (Option.some Jvm.ClassFile.FieldType.int) ∈ lw_gd := lw_in (List.mem_of_getElem? (i := 764) (by decide +kernel)) (by decide +kernel)
theorem wL_L_98 : Jvm.Cond.methodLink "SignedMillLaw" (98 : Nat) ({ cls := "SignedMillModel", name := "ones", desc := "(I)I" } : Jvm.MethodName) ∈ lw_gd := lw_in (List.mem_of_getElem? (i := 765) (by decide +kernel)) (by decide +kernel)
theorem wI_R_ones : Jvm.Cond.instanceMethod ({ cls := "SignedMillModel", name := "ones", desc := "(I)I" } : Jvm.MethodName) ∈ lw_gd := lw_in (List.mem_of_getElem? (i := 766) (by decide +kernel)) (by decide +kernel)
theorem wS_R_ones : Jvm.Cond.selects "SignedMillModel" ({ cls := "SignedMillModel", name := "ones", desc := "(I)I" } : Jvm.MethodName) ({ cls := "SignedMillModel", name := "ones", desc := "(I)I" } : Jvm.MethodName) ∈ lw_gd := lw_in (List.mem_of_getElem? (i := 767) (by decide +kernel)) (by decide +kernel)
theorem wC_R_ones : Jvm.Cond.code ({ cls := "SignedMillModel", name := "ones", desc := "(I)I" } : Jvm.MethodName) prog_6_method_46_code (8 : Nat) (Option.some Jvm.ClassFile.FieldType.int) ∈ lw_gd := lw_in (List.mem_of_getElem? (i := 768) (by decide +kernel)) (by decide +kernel)
theorem wL_L_102 : Jvm.Cond.methodLink "SignedMillLaw" (102 : Nat) ({ cls := "SignedMillModel", name := "lowest", desc := "(I)I" } : Jvm.MethodName) ∈ lw_gd := lw_in (List.mem_of_getElem? (i := 769) (by decide +kernel)) (by decide +kernel)
theorem wI_R_lowest : Jvm.Cond.instanceMethod ({ cls := "SignedMillModel", name := "lowest", desc := "(I)I" } : Jvm.MethodName) ∈ lw_gd := lw_in (List.mem_of_getElem? (i := 770) (by decide +kernel)) (by decide +kernel)
theorem wS_R_lowest : Jvm.Cond.selects "SignedMillModel" ({ cls := "SignedMillModel", name := "lowest", desc := "(I)I" } : Jvm.MethodName) ({ cls := "SignedMillModel", name := "lowest", desc := "(I)I" } : Jvm.MethodName) ∈ lw_gd := lw_in (List.mem_of_getElem? (i := 771) (by decide +kernel)) (by decide +kernel)
theorem wC_R_lowest : Jvm.Cond.code ({ cls := "SignedMillModel", name := "lowest", desc := "(I)I" } : Jvm.MethodName) prog_6_method_47_code (3 : Nat) (Option.some Jvm.ClassFile.FieldType.int) ∈ lw_gd := lw_in (List.mem_of_getElem? (i := 772) (by decide +kernel)) (by decide +kernel)
theorem wL_L_106 : Jvm.Cond.methodLink "SignedMillLaw" (106 : Nat) ({ cls := "SignedMillModel", name := "word", desc := "(II)I" } : Jvm.MethodName) ∈ lw_gd := lw_in (List.mem_of_getElem? (i := 773) (by decide +kernel)) (by decide +kernel)
theorem wI_R_word : Jvm.Cond.instanceMethod ({ cls := "SignedMillModel", name := "word", desc := "(II)I" } : Jvm.MethodName) ∈ lw_gd := lw_in (List.mem_of_getElem? (i := 774) (by decide +kernel)) (by decide +kernel)
theorem wS_R_word : Jvm.Cond.selects "SignedMillModel" ({ cls := "SignedMillModel", name := "word", desc := "(II)I" } : Jvm.MethodName) ({ cls := "SignedMillModel", name := "word", desc := "(II)I" } : Jvm.MethodName) ∈ lw_gd := lw_in (List.mem_of_getElem? (i := 775) (by decide +kernel)) (by decide +kernel)
theorem wC_R_word : Jvm.Cond.code ({ cls := "SignedMillModel", name := "word", desc := "(II)I" } : Jvm.MethodName) prog_6_method_48_code (4 : Nat) (Option.some Jvm.ClassFile.FieldType.int) ∈ lw_gd := lw_in (List.mem_of_getElem? (i := 776) (by decide +kernel)) (by decide +kernel)
theorem wK_L_13 : Jvm.Cond.constantLong "SignedMillLaw" (13 : Nat) (4294967295 : Int64) ∈ lw_gd := lw_in (List.mem_of_getElem? (i := 777) (by decide +kernel)) (by decide +kernel)
theorem wS_M_keep : Jvm.Cond.selects "SignedMill" ⟨"SignedMill", "keep", "(IZ)Z"⟩ ⟨"SignedMill", "keep", "(IZ)Z"⟩ ∈ lw_gd := lw_in (List.mem_of_getElem? (i := 0) (by decide +kernel)) (by decide +kernel)
theorem wS_M_settle : Jvm.Cond.selects "SignedMill" ⟨"SignedMill", "settle", "(ILSignedMill$Whole;Z)V"⟩ ⟨"SignedMill", "settle", "(ILSignedMill$Whole;Z)V"⟩ ∈ lw_gd := lw_in (List.mem_of_getElem? (i := 1) (by decide +kernel)) (by decide +kernel)
theorem wS_M_keepSum : Jvm.Cond.selects "SignedMill" ⟨"SignedMill", "keepSum", "(IILSignedMill$Whole;Z)Z"⟩ ⟨"SignedMill", "keepSum", "(IILSignedMill$Whole;Z)Z"⟩ ∈ lw_gd := lw_in (List.mem_of_getElem? (i := 2) (by decide +kernel)) (by decide +kernel)
theorem wS_W_addMultiple : Jvm.Cond.selects "SignedMill$Whole" ⟨"SignedMill$Whole", "addMultiple", "(IJLSignedMill$Whole;)V"⟩ ⟨"SignedMill$Whole", "addMultiple", "(IJLSignedMill$Whole;)V"⟩ ∈ lw_gd := lw_in (List.mem_of_getElem? (i := 3) (by decide +kernel)) (by decide +kernel)
theorem wS_D_takeOut : Jvm.Cond.selects "SignedMill$Divider" ⟨"SignedMill$Divider", "takeOut", "(II)J"⟩ ⟨"SignedMill$Divider", "takeOut", "(II)J"⟩ ∈ lw_gd := lw_in (List.mem_of_getElem? (i := 4) (by decide +kernel)) (by decide +kernel)
theorem wS_D_guess : Jvm.Cond.selects "SignedMill$Divider" ⟨"SignedMill$Divider", "guess", "(II)J"⟩ ⟨"SignedMill$Divider", "guess", "(II)J"⟩ ∈ lw_gd := lw_in (List.mem_of_getElem? (i := 5) (by decide +kernel)) (by decide +kernel)
theorem wS_D_subtract : Jvm.Cond.selects "SignedMill$Divider" ⟨"SignedMill$Divider", "subtract", "(IIJ)Z"⟩ ⟨"SignedMill$Divider", "subtract", "(IIJ)Z"⟩ ∈ lw_gd := lw_in (List.mem_of_getElem? (i := 6) (by decide +kernel)) (by decide +kernel)
theorem wS_D_addBack : Jvm.Cond.selects "SignedMill$Divider" ⟨"SignedMill$Divider", "addBack", "(II)V"⟩ ⟨"SignedMill$Divider", "addBack", "(II)V"⟩ ∈ lw_gd := lw_in (List.mem_of_getElem? (i := 7) (by decide +kernel)) (by decide +kernel)
theorem wS_M_endlessDigit : Jvm.Cond.selects "SignedMill" ⟨"SignedMill", "endlessDigit", "(III)J"⟩ ⟨"SignedMill", "endlessDigit", "(III)J"⟩ ∈ lw_gd := lw_in (List.mem_of_getElem? (i := 8) (by decide +kernel)) (by decide +kernel)
theorem wS_M_shiftUp : Jvm.Cond.selects "SignedMill" ⟨"SignedMill", "shiftUp", "(III)Z"⟩ ⟨"SignedMill", "shiftUp", "(III)Z"⟩ ∈ lw_gd := lw_in (List.mem_of_getElem? (i := 9) (by decide +kernel)) (by decide +kernel)
theorem wS_M_shiftDown : Jvm.Cond.selects "SignedMill" ⟨"SignedMill", "shiftDown", "(III)Z"⟩ ⟨"SignedMill", "shiftDown", "(III)Z"⟩ ∈ lw_gd := lw_in (List.mem_of_getElem? (i := 10) (by decide +kernel)) (by decide +kernel)
theorem wS_M_findPower : Jvm.Cond.selects "SignedMill" ⟨"SignedMill", "findPower", "(LSignedMill$Whole;I)Z"⟩ ⟨"SignedMill", "findPower", "(LSignedMill$Whole;I)Z"⟩ ∈ lw_gd := lw_in (List.mem_of_getElem? (i := 11) (by decide +kernel)) (by decide +kernel)
theorem wS_M_multiplyResult : Jvm.Cond.selects "SignedMill" ⟨"SignedMill", "multiplyResult", "(LSignedMill$Whole;)Z"⟩ ⟨"SignedMill", "multiplyResult", "(LSignedMill$Whole;)Z"⟩ ∈ lw_gd := lw_in (List.mem_of_getElem? (i := 12) (by decide +kernel)) (by decide +kernel)
theorem wS_E_foresee : Jvm.Cond.selects "SignedMill$Euclid" ⟨"SignedMill$Euclid", "foresee", "()Z"⟩ ⟨"SignedMill$Euclid", "foresee", "()Z"⟩ ∈ lw_gd := lw_in (List.mem_of_getElem? (i := 13) (by decide +kernel)) (by decide +kernel)
theorem wS_E_turn : Jvm.Cond.selects "SignedMill$Euclid" ⟨"SignedMill$Euclid", "turn", "(J)Z"⟩ ⟨"SignedMill$Euclid", "turn", "(J)Z"⟩ ∈ lw_gd := lw_in (List.mem_of_getElem? (i := 14) (by decide +kernel)) (by decide +kernel)
theorem wS_E_leap : Jvm.Cond.selects "SignedMill$Euclid" ⟨"SignedMill$Euclid", "leap", "(Z)V"⟩ ⟨"SignedMill$Euclid", "leap", "(Z)V"⟩ ∈ lw_gd := lw_in (List.mem_of_getElem? (i := 15) (by decide +kernel)) (by decide +kernel)
theorem wS_E_leapRemainders : Jvm.Cond.selects "SignedMill$Euclid" ⟨"SignedMill$Euclid", "leapRemainders", "()V"⟩ ⟨"SignedMill$Euclid", "leapRemainders", "()V"⟩ ∈ lw_gd := lw_in (List.mem_of_getElem? (i := 16) (by decide +kernel)) (by decide +kernel)
theorem wS_E_leapFactors : Jvm.Cond.selects "SignedMill$Euclid" ⟨"SignedMill$Euclid", "leapFactors", "()V"⟩ ⟨"SignedMill$Euclid", "leapFactors", "()V"⟩ ∈ lw_gd := lw_in (List.mem_of_getElem? (i := 17) (by decide +kernel)) (by decide +kernel)
theorem wS_E_step : Jvm.Cond.selects "SignedMill$Euclid" ⟨"SignedMill$Euclid", "step", "(Z)V"⟩ ⟨"SignedMill$Euclid", "step", "(Z)V"⟩ ∈ lw_gd := lw_in (List.mem_of_getElem? (i := 18) (by decide +kernel)) (by decide +kernel)
theorem wS_M_isModulus : Jvm.Cond.selects "SignedMill" ⟨"SignedMill", "isModulus", "(I)Z"⟩ ⟨"SignedMill", "isModulus", "(I)Z"⟩ ∈ lw_gd := lw_in (List.mem_of_getElem? (i := 19) (by decide +kernel)) (by decide +kernel)
theorem wS_M_findInverse : Jvm.Cond.selects "SignedMill" ⟨"SignedMill", "findInverse", "(II)Z"⟩ ⟨"SignedMill", "findInverse", "(II)Z"⟩ ∈ lw_gd := lw_in (List.mem_of_getElem? (i := 20) (by decide +kernel)) (by decide +kernel)
theorem wS_M_reduce : Jvm.Cond.selects "SignedMill" ⟨"SignedMill", "reduce", "(II)V"⟩ ⟨"SignedMill", "reduce", "(II)V"⟩ ∈ lw_gd := lw_in (List.mem_of_getElem? (i := 21) (by decide +kernel)) (by decide +kernel)
theorem wS_M_findPowerByModulus : Jvm.Cond.selects "SignedMill" ⟨"SignedMill", "findPowerByModulus", "(LSignedMill$Whole;LSignedMill$Whole;)V"⟩ ⟨"SignedMill", "findPowerByModulus", "(LSignedMill$Whole;LSignedMill$Whole;)V"⟩ ∈ lw_gd := lw_in (List.mem_of_getElem? (i := 22) (by decide +kernel)) (by decide +kernel)
theorem wS_M_multiplyByModulus : Jvm.Cond.selects "SignedMill" ⟨"SignedMill", "multiplyByModulus", "(LSignedMill$Whole;LSignedMill$Whole;)V"⟩ ⟨"SignedMill", "multiplyByModulus", "(LSignedMill$Whole;LSignedMill$Whole;)V"⟩ ∈ lw_gd := lw_in (List.mem_of_getElem? (i := 23) (by decide +kernel)) (by decide +kernel)
theorem wS_R_set : Jvm.Cond.selects "SignedMillModel" ⟨"SignedMillModel", "set", "(IJ)V"⟩ ⟨"SignedMillModel", "set", "(IJ)V"⟩ ∈ lw_gd := lw_in (List.mem_of_getElem? (i := 24) (by decide +kernel)) (by decide +kernel)
theorem wS_R_trim : Jvm.Cond.selects "SignedMillModel" ⟨"SignedMillModel", "trim", "(II)V"⟩ ⟨"SignedMillModel", "trim", "(II)V"⟩ ∈ lw_gd := lw_in (List.mem_of_getElem? (i := 25) (by decide +kernel)) (by decide +kernel)
theorem wS_R_store : Jvm.Cond.selects "SignedMillModel" ⟨"SignedMillModel", "store", "(IIZ)Z"⟩ ⟨"SignedMillModel", "store", "(IIZ)Z"⟩ ∈ lw_gd := lw_in (List.mem_of_getElem? (i := 26) (by decide +kernel)) (by decide +kernel)
theorem wS_R_move : Jvm.Cond.selects "SignedMillModel" ⟨"SignedMillModel", "move", "(II)V"⟩ ⟨"SignedMillModel", "move", "(II)V"⟩ ∈ lw_gd := lw_in (List.mem_of_getElem? (i := 27) (by decide +kernel)) (by decide +kernel)
theorem wS_R_added : Jvm.Cond.selects "SignedMillModel" ⟨"SignedMillModel", "added", "(IIZIZ)Z"⟩ ⟨"SignedMillModel", "added", "(IIZIZ)Z"⟩ ∈ lw_gd := lw_in (List.mem_of_getElem? (i := 28) (by decide +kernel)) (by decide +kernel)
theorem wS_R_compareRows : Jvm.Cond.selects "SignedMillModel" ⟨"SignedMillModel", "compareRows", "(II)I"⟩ ⟨"SignedMillModel", "compareRows", "(II)I"⟩ ∈ lw_gd := lw_in (List.mem_of_getElem? (i := 29) (by decide +kernel)) (by decide +kernel)
theorem wS_R_sum : Jvm.Cond.selects "SignedMillModel" ⟨"SignedMillModel", "sum", "(III)V"⟩ ⟨"SignedMillModel", "sum", "(III)V"⟩ ∈ lw_gd := lw_in (List.mem_of_getElem? (i := 30) (by decide +kernel)) (by decide +kernel)
theorem wS_R_digit : Jvm.Cond.selects "SignedMillModel" ⟨"SignedMillModel", "digit", "(II)I"⟩ ⟨"SignedMillModel", "digit", "(II)I"⟩ ∈ lw_gd := lw_in (List.mem_of_getElem? (i := 31) (by decide +kernel)) (by decide +kernel)
theorem wS_R_lessen : Jvm.Cond.selects "SignedMillModel" ⟨"SignedMillModel", "lessen", "(III)V"⟩ ⟨"SignedMillModel", "lessen", "(III)V"⟩ ∈ lw_gd := lw_in (List.mem_of_getElem? (i := 32) (by decide +kernel)) (by decide +kernel)
theorem wS_R_product : Jvm.Cond.selects "SignedMillModel" ⟨"SignedMillModel", "product", "(III)V"⟩ ⟨"SignedMillModel", "product", "(III)V"⟩ ∈ lw_gd := lw_in (List.mem_of_getElem? (i := 33) (by decide +kernel)) (by decide +kernel)
theorem wS_R_quotient : Jvm.Cond.selects "SignedMillModel" ⟨"SignedMillModel", "quotient", "(IIII)V"⟩ ⟨"SignedMillModel", "quotient", "(IIII)V"⟩ ∈ lw_gd := lw_in (List.mem_of_getElem? (i := 34) (by decide +kernel)) (by decide +kernel)
theorem wS_R_bitsOf : Jvm.Cond.selects "SignedMillModel" ⟨"SignedMillModel", "bitsOf", "(I)I"⟩ ⟨"SignedMillModel", "bitsOf", "(I)I"⟩ ∈ lw_gd := lw_in (List.mem_of_getElem? (i := 35) (by decide +kernel)) (by decide +kernel)
theorem wS_R_lower : Jvm.Cond.selects "SignedMillModel" ⟨"SignedMillModel", "lower", "(IIJ)V"⟩ ⟨"SignedMillModel", "lower", "(IIJ)V"⟩ ∈ lw_gd := lw_in (List.mem_of_getElem? (i := 36) (by decide +kernel)) (by decide +kernel)
theorem wS_R_bitOf : Jvm.Cond.selects "SignedMillModel" ⟨"SignedMillModel", "bitOf", "(II)I"⟩ ⟨"SignedMillModel", "bitOf", "(II)I"⟩ ∈ lw_gd := lw_in (List.mem_of_getElem? (i := 37) (by decide +kernel)) (by decide +kernel)
theorem wS_R_twice : Jvm.Cond.selects "SignedMillModel" ⟨"SignedMillModel", "twice", "(II)V"⟩ ⟨"SignedMillModel", "twice", "(II)V"⟩ ∈ lw_gd := lw_in (List.mem_of_getElem? (i := 38) (by decide +kernel)) (by decide +kernel)
theorem wS_R_lowestDigit : Jvm.Cond.selects "SignedMillModel" ⟨"SignedMillModel", "lowestDigit", "(I)I"⟩ ⟨"SignedMillModel", "lowestDigit", "(I)I"⟩ ∈ lw_gd := lw_in (List.mem_of_getElem? (i := 39) (by decide +kernel)) (by decide +kernel)
theorem wS_R_bitsDigit : Jvm.Cond.selects "SignedMillModel" ⟨"SignedMillModel", "bitsDigit", "(III)I"⟩ ⟨"SignedMillModel", "bitsDigit", "(III)I"⟩ ∈ lw_gd := lw_in (List.mem_of_getElem? (i := 40) (by decide +kernel)) (by decide +kernel)
theorem wS_R_raise : Jvm.Cond.selects "SignedMillModel" ⟨"SignedMillModel", "raise", "(III)V"⟩ ⟨"SignedMillModel", "raise", "(III)V"⟩ ∈ lw_gd := lw_in (List.mem_of_getElem? (i := 41) (by decide +kernel)) (by decide +kernel)
theorem wS_R_bitAt : Jvm.Cond.selects "SignedMillModel" ⟨"SignedMillModel", "bitAt", "(II)I"⟩ ⟨"SignedMillModel", "bitAt", "(II)I"⟩ ∈ lw_gd := lw_in (List.mem_of_getElem? (i := 42) (by decide +kernel)) (by decide +kernel)
theorem wS_R_inverted : Jvm.Cond.selects "SignedMillModel" ⟨"SignedMillModel", "inverted", "(I)Z"⟩ ⟨"SignedMillModel", "inverted", "(I)Z"⟩ ∈ lw_gd := lw_in (List.mem_of_getElem? (i := 43) (by decide +kernel)) (by decide +kernel)
theorem wS_R_residue : Jvm.Cond.selects "SignedMillModel" ⟨"SignedMillModel", "residue", "(II)V"⟩ ⟨"SignedMillModel", "residue", "(II)V"⟩ ∈ lw_gd := lw_in (List.mem_of_getElem? (i := 44) (by decide +kernel)) (by decide +kernel)
theorem wS_R_rest : Jvm.Cond.selects "SignedMillModel" ⟨"SignedMillModel", "rest", "(III)V"⟩ ⟨"SignedMillModel", "rest", "(III)V"⟩ ∈ lw_gd := lw_in (List.mem_of_getElem? (i := 45) (by decide +kernel)) (by decide +kernel)
theorem wS_R_takeTimes : Jvm.Cond.selects "SignedMillModel" ⟨"SignedMillModel", "takeTimes", "(IIJ)V"⟩ ⟨"SignedMillModel", "takeTimes", "(IIJ)V"⟩ ∈ lw_gd := lw_in (List.mem_of_getElem? (i := 46) (by decide +kernel)) (by decide +kernel)
