/-! ===== BEGIN printed: names, fields, word lists, decode rows ===== -/
def RX0 : String := "PairFinder$Body"
def TX0 : u_T := fun k => match k with
  | 0 => ("PairFinder$Body", "tight", "LPairFinder$Box;", true)
  | 1 => ("PairFinder$Body", "wide", "LPairFinder$Box;", true)
  | 2 => ("PairFinder$Body", "group", "I", false)
  | 3 => ("PairFinder$Body", "mask", "I", false)
  | 4 => ("PairFinder$Body", "there", "Z", false)
  | _ => ("PairFinder$Body", "touched", "Z", false)
def tyX0 : Nat → FieldType := fun k => match k with
  | 0 => .object "PairFinder$Box"
  | 1 => .object "PairFinder$Box"
  | 2 => .int
  | 3 => .int
  | 4 => .boolean
  | _ => .boolean
abbrev wsX00 : List Cond := u_ws RX0 TX0 6
theorem nmX0 : ∀ a, a < 6 → ∀ b, b < 6 → a ≠ b → (TX0 a).2.1 ≠ (TX0 b).2.1 := by decide +kernel
theorem tyX0_ok : ∀ k, k < 6 → parseFieldDescriptor (TX0 k).2.2.1 = some (tyX0 k) := by decide +kernel
abbrev cX0_init : ByteArray := prog_2_method_1_code
def yX0_init : MethodName := ⟨RX0, "<init>", "()V"⟩
abbrev cX0_appear : ByteArray := prog_2_method_2_code
def yX0_appear : MethodName := ⟨RX0, "appear", "(LPairFinder$Box;II)V"⟩
abbrev cX0_leave : ByteArray := prog_2_method_3_code
def yX0_leave : MethodName := ⟨RX0, "leave", "()V"⟩
abbrev cX0_setFilter : ByteArray := prog_2_method_4_code
def yX0_setFilter : MethodName := ⟨RX0, "setFilter", "(II)V"⟩
abbrev cX0_moveTo : ByteArray := prog_2_method_5_code
def yX0_moveTo : MethodName := ⟨RX0, "moveTo", "(LPairFinder$Box;FFF)Z"⟩
abbrev cX0_pairsWith : ByteArray := prog_2_method_6_code
def yX0_pairsWith : MethodName := ⟨RX0, "pairsWith", "(LPairFinder$Body;)Z"⟩
def RX1 : String := "PairFinder$Box"
def TX1 : u_T := fun k => match k with
  | _ => ("PairFinder$Box", "numbers", "[F", true)
def tyX1 : Nat → FieldType := fun k => match k with
  | _ => .array .float
abbrev wsX10 : List Cond := u_ws RX1 TX1 1
theorem nmX1 : ∀ a, a < 1 → ∀ b, b < 1 → a ≠ b → (TX1 a).2.1 ≠ (TX1 b).2.1 := by decide +kernel
theorem tyX1_ok : ∀ k, k < 1 → parseFieldDescriptor (TX1 k).2.2.1 = some (tyX1 k) := by decide +kernel
abbrev cX1_init : ByteArray := prog_3_method_1_code
def yX1_init : MethodName := ⟨RX1, "<init>", "()V"⟩
abbrev cX1_setCorner : ByteArray := prog_3_method_2_code
def yX1_setCorner : MethodName := ⟨RX1, "setCorner", "(IFFF)V"⟩
abbrev cX1_copyFrom : ByteArray := prog_3_method_3_code
def yX1_copyFrom : MethodName := ⟨RX1, "copyFrom", "(LPairFinder$Box;)V"⟩
abbrev cX1_moveBy : ByteArray := prog_3_method_4_code
def yX1_moveBy : MethodName := ⟨RX1, "moveBy", "(FFF)V"⟩
abbrev cX1_widen : ByteArray := prog_3_method_5_code
def yX1_widen : MethodName := ⟨RX1, "widen", "(FFF)V"⟩
abbrev cX1_widenAxis : ByteArray := prog_3_method_6_code
def yX1_widenAxis : MethodName := ⟨RX1, "widenAxis", "(IF)V"⟩
abbrev cX1_isBox : ByteArray := prog_3_method_7_code
def yX1_isBox : MethodName := ⟨RX1, "isBox", "()Z"⟩
abbrev cX1_isGood : ByteArray := prog_3_method_8_code
def yX1_isGood : MethodName := ⟨RX1, "isGood", "()Z"⟩
abbrev cX1_overlaps : ByteArray := prog_3_method_9_code
def yX1_overlaps : MethodName := ⟨RX1, "overlaps", "(LPairFinder$Box;)Z"⟩
abbrev cX1_liesIn : ByteArray := prog_3_method_10_code
def yX1_liesIn : MethodName := ⟨RX1, "liesIn", "(LPairFinder$Box;)Z"⟩
abbrev cX1_enterOfLine : ByteArray := prog_3_method_11_code
def yX1_enterOfLine : MethodName := ⟨RX1, "enterOfLine", "(LPairFinder$Box;)F"⟩
def RX2 : String := "PairFinder$PairSet"
def TX2 : u_T := fun k => match k with
  | 0 => ("PairFinder$PairSet", "words", "[J", true)
  | _ => ("PairFinder$PairSet", "size", "I", false)
def tyX2 : Nat → FieldType := fun k => match k with
  | 0 => .array .long
  | _ => .int
abbrev wsX20 : List Cond := u_ws RX2 TX2 2
theorem nmX2 : ∀ a, a < 2 → ∀ b, b < 2 → a ≠ b → (TX2 a).2.1 ≠ (TX2 b).2.1 := by decide +kernel
theorem tyX2_ok : ∀ k, k < 2 → parseFieldDescriptor (TX2 k).2.2.1 = some (tyX2 k) := by decide +kernel
abbrev cX2_init : ByteArray := prog_4_method_1_code
def yX2_init : MethodName := ⟨RX2, "<init>", "()V"⟩
abbrev cX2_holds : ByteArray := prog_4_method_2_code
def yX2_holds : MethodName := ⟨RX2, "holds", "(I)Z"⟩
abbrev cX2_put : ByteArray := prog_4_method_3_code
def yX2_put : MethodName := ⟨RX2, "put", "(IZ)V"⟩
abbrev cX2_copyFrom : ByteArray := prog_4_method_4_code
def yX2_copyFrom : MethodName := ⟨RX2, "copyFrom", "(LPairFinder$PairSet;)V"⟩
abbrev cX2_setToDifference : ByteArray := prog_4_method_5_code
def yX2_setToDifference : MethodName := ⟨RX2, "setToDifference", "(LPairFinder$PairSet;LPairFinder$PairSet;)V"⟩
abbrev cX2_codeAt : ByteArray := prog_4_method_6_code
def yX2_codeAt : MethodName := ⟨RX2, "codeAt", "(I)I"⟩
abbrev cX2_bitAt : ByteArray := prog_4_method_7_code
def yX2_bitAt : MethodName := ⟨RX2, "bitAt", "(JI)I"⟩
def RX3 : String := "PairFinder"
def TX3 : u_T := fun k => match k with
  | 0 => ("PairFinder", "pad", "LPairFinder$Box;", true)
  | 1 => ("PairFinder", "bodies", "[LPairFinder$Body;", true)
  | 2 => ("PairFinder", "bodiesThere", "I", false)
  | 3 => ("PairFinder", "pairs", "LPairFinder$PairSet;", false)
  | 4 => ("PairFinder", "nextPairs", "LPairFinder$PairSet;", false)
  | 5 => ("PairFinder", "begun", "LPairFinder$PairSet;", true)
  | 6 => ("PairFinder", "ended", "LPairFinder$PairSet;", true)
  | 7 => ("PairFinder", "updates", "I", false)
  | 8 => ("PairFinder", "foundBodies", "[I", true)
  | 9 => ("PairFinder", "foundFloats", "[F", true)
  | 10 => ("PairFinder", "foundSize", "I", false)
  | _ => ("PairFinder", "workBox", "LPairFinder$Box;", true)
def tyX3 : Nat → FieldType := fun k => match k with
  | 0 => .object "PairFinder$Box"
  | 1 => .array (.object "PairFinder$Body")
  | 2 => .int
  | 3 => .object "PairFinder$PairSet"
  | 4 => .object "PairFinder$PairSet"
  | 5 => .object "PairFinder$PairSet"
  | 6 => .object "PairFinder$PairSet"
  | 7 => .int
  | 8 => .array .int
  | 9 => .array .float
  | 10 => .int
  | _ => .object "PairFinder$Box"
abbrev wsX30 : List Cond := u_ws RX3 TX3 12
theorem nmX3 : ∀ a, a < 12 → ∀ b, b < 12 → a ≠ b → (TX3 a).2.1 ≠ (TX3 b).2.1 := by decide +kernel
theorem tyX3_ok : ∀ k, k < 12 → parseFieldDescriptor (TX3 k).2.2.1 = some (tyX3 k) := by decide +kernel
abbrev cX3_init : ByteArray := prog_1_method_1_code
def yX3_init : MethodName := ⟨RX3, "<init>", "()V"⟩
abbrev cX3_low : ByteArray := prog_1_method_2_code
def yX3_low : MethodName := ⟨RX3, "low", "(FFF)V"⟩
abbrev cX3_high : ByteArray := prog_1_method_3_code
def yX3_high : MethodName := ⟨RX3, "high", "(FFF)V"⟩
abbrev cX3_add : ByteArray := prog_1_method_4_code
def yX3_add : MethodName := ⟨RX3, "add", "(II)I"⟩
abbrev cX3_addRow : ByteArray := prog_1_method_5_code
def yX3_addRow : MethodName := ⟨RX3, "addRow", "(IFFFII)I"⟩
abbrev cX3_move : ByteArray := prog_1_method_6_code
def yX3_move : MethodName := ⟨RX3, "move", "(IFFF)Z"⟩
abbrev cX3_shift : ByteArray := prog_1_method_7_code
def yX3_shift : MethodName := ⟨RX3, "shift", "(IIFFF)I"⟩
abbrev cX3_filter : ByteArray := prog_1_method_8_code
def yX3_filter : MethodName := ⟨RX3, "filter", "(III)V"⟩
abbrev cX3_remove : ByteArray := prog_1_method_9_code
def yX3_remove : MethodName := ⟨RX3, "remove", "(I)I"⟩
abbrev cX3_update : ByteArray := prog_1_method_10_code
def yX3_update : MethodName := ⟨RX3, "update", "()I"⟩
abbrev cX3_pair : ByteArray := prog_1_method_11_code
def yX3_pair : MethodName := ⟨RX3, "pair", "(II)I"⟩
abbrev cX3_paired : ByteArray := prog_1_method_12_code
def yX3_paired : MethodName := ⟨RX3, "paired", "(II)Z"⟩
abbrev cX3_overlapping : ByteArray := prog_1_method_13_code
def yX3_overlapping : MethodName := ⟨RX3, "overlapping", "(I)I"⟩
abbrev cX3_meeting : ByteArray := prog_1_method_14_code
def yX3_meeting : MethodName := ⟨RX3, "meeting", "(I)I"⟩
abbrev cX3_found : ByteArray := prog_1_method_15_code
def yX3_found : MethodName := ⟨RX3, "found", "(I)I"⟩
abbrev cX3_where : ByteArray := prog_1_method_16_code
def yX3_where : MethodName := ⟨RX3, "where", "(I)F"⟩
abbrev cX3_nearest : ByteArray := prog_1_method_17_code
def yX3_nearest : MethodName := ⟨RX3, "nearest", "()I"⟩
abbrev cX3_corner : ByteArray := prog_1_method_18_code
def yX3_corner : MethodName := ⟨RX3, "corner", "(II)F"⟩
abbrev cX3_about : ByteArray := prog_1_method_19_code
def yX3_about : MethodName := ⟨RX3, "about", "(II)I"⟩
abbrev cX3_count : ByteArray := prog_1_method_20_code
def yX3_count : MethodName := ⟨RX3, "count", "(I)I"⟩
abbrev cX3_requireGood : ByteArray := prog_1_method_21_code
def yX3_requireGood : MethodName := ⟨RX3, "requireGood", "(FFF)V"⟩
abbrev cX3_requireMovement : ByteArray := prog_1_method_22_code
def yX3_requireMovement : MethodName := ⟨RX3, "requireMovement", "(FFF)V"⟩
abbrev cX3_requirePadIsBox : ByteArray := prog_1_method_23_code
def yX3_requirePadIsBox : MethodName := ⟨RX3, "requirePadIsBox", "()V"⟩
abbrev cX3_requireRoomFor : ByteArray := prog_1_method_24_code
def yX3_requireRoomFor : MethodName := ⟨RX3, "requireRoomFor", "(I)V"⟩
abbrev cX3_requireThere : ByteArray := prog_1_method_25_code
def yX3_requireThere : MethodName := ⟨RX3, "requireThere", "(I)V"⟩
abbrev cX3_requireFound : ByteArray := prog_1_method_26_code
def yX3_requireFound : MethodName := ⟨RX3, "requireFound", "(I)V"⟩
abbrev cX3_isWithin : ByteArray := prog_1_method_27_code
def yX3_isWithin : MethodName := ⟨RX3, "isWithin", "(FI)Z"⟩
abbrev cX3_isBodyNumber : ByteArray := prog_1_method_28_code
def yX3_isBodyNumber : MethodName := ⟨RX3, "isBodyNumber", "(I)Z"⟩
abbrev cX3_rowStaysGood : ByteArray := prog_1_method_29_code
def yX3_rowStaysGood : MethodName := ⟨RX3, "rowStaysGood", "(IFFF)Z"⟩
abbrev cX3_addBodies : ByteArray := prog_1_method_30_code
def yX3_addBodies : MethodName := ⟨RX3, "addBodies", "(IFFFII)I"⟩
abbrev cX3_shiftBody : ByteArray := prog_1_method_31_code
def yX3_shiftBody : MethodName := ⟨RX3, "shiftBody", "(LPairFinder$Body;FFF)Z"⟩
abbrev cX3_reviewPairsOf : ByteArray := prog_1_method_32_code
def yX3_reviewPairsOf : MethodName := ⟨RX3, "reviewPairsOf", "(I)V"⟩
abbrev cX3_arePair : ByteArray := prog_1_method_33_code
def yX3_arePair : MethodName := ⟨RX3, "arePair", "(II)Z"⟩
abbrev cX3_pairCode : ByteArray := prog_1_method_34_code
def yX3_pairCode : MethodName := ⟨RX3, "pairCode", "(II)I"⟩
abbrev cX3_pairsOf : ByteArray := prog_1_method_35_code
def yX3_pairsOf : MethodName := ⟨RX3, "pairsOf", "(I)I"⟩
abbrev cX3_touchedBodies : ByteArray := prog_1_method_36_code
def yX3_touchedBodies : MethodName := ⟨RX3, "touchedBodies", "()I"⟩
abbrev cX3_appendFound : ByteArray := prog_1_method_37_code
def yX3_appendFound : MethodName := ⟨RX3, "appendFound", "(IF)V"⟩
def RX4 : String := "PairFinderModel"
def TX4 : u_T := fun k => match k with
  | 0 => ("PairFinderModel", "thrown", "I", false)
  | 1 => ("PairFinderModel", "pad", "[F", true)
  | 2 => ("PairFinderModel", "there", "[Z", true)
  | 3 => ("PairFinderModel", "touched", "[Z", true)
  | 4 => ("PairFinderModel", "groups", "[I", true)
  | 5 => ("PairFinderModel", "masks", "[I", true)
  | 6 => ("PairFinderModel", "tight", "[F", true)
  | 7 => ("PairFinderModel", "wide", "[F", true)
  | 8 => ("PairFinderModel", "pairs", "[I", true)
  | 9 => ("PairFinderModel", "next", "[I", true)
  | 10 => ("PairFinderModel", "begun", "[I", true)
  | 11 => ("PairFinderModel", "ended", "[I", true)
  | 12 => ("PairFinderModel", "updates", "I", false)
  | 13 => ("PairFinderModel", "found", "I", false)
  | 14 => ("PairFinderModel", "list", "[I", true)
  | 15 => ("PairFinderModel", "places", "[F", true)
  | _ => ("PairFinderModel", "box", "[F", true)
def tyX4 : Nat → FieldType := fun k => match k with
  | 0 => .int
  | 1 => .array .float
  | 2 => .array .boolean
  | 3 => .array .boolean
  | 4 => .array .int
  | 5 => .array .int
  | 6 => .array .float
  | 7 => .array .float
  | 8 => .array .int
  | 9 => .array .int
  | 10 => .array .int
  | 11 => .array .int
  | 12 => .int
  | 13 => .int
  | 14 => .array .int
  | 15 => .array .float
  | _ => .array .float
abbrev wsX40 : List Cond := u_ws RX4 TX4 17
theorem nmX4 : ∀ a, a < 17 → ∀ b, b < 17 → a ≠ b → (TX4 a).2.1 ≠ (TX4 b).2.1 := by decide +kernel
theorem tyX4_ok : ∀ k, k < 17 → parseFieldDescriptor (TX4 k).2.2.1 = some (tyX4 k) := by decide +kernel
abbrev cX4_init : ByteArray := prog_6_method_1_code
def yX4_init : MethodName := ⟨RX4, "<init>", "()V"⟩
abbrev cX4_thrown : ByteArray := prog_6_method_2_code
def yX4_thrown : MethodName := ⟨RX4, "thrown", "()I"⟩
abbrev cX4_goes : ByteArray := prog_6_method_3_code
def yX4_goes : MethodName := ⟨RX4, "goes", "(ZZ)Z"⟩
abbrev cX4_good : ByteArray := prog_6_method_4_code
def yX4_good : MethodName := ⟨RX4, "good", "(F)Z"⟩
abbrev cX4_slow : ByteArray := prog_6_method_5_code
def yX4_slow : MethodName := ⟨RX4, "slow", "(FFF)Z"⟩
abbrev cX4_padIsBox : ByteArray := prog_6_method_6_code
def yX4_padIsBox : MethodName := ⟨RX4, "padIsBox", "()Z"⟩
abbrev cX4_padCorner : ByteArray := prog_6_method_7_code
def yX4_padCorner : MethodName := ⟨RX4, "padCorner", "(IFFF)V"⟩
abbrev cX4_low : ByteArray := prog_6_method_8_code
def yX4_low : MethodName := ⟨RX4, "low", "(FFF)V"⟩
abbrev cX4_high : ByteArray := prog_6_method_9_code
def yX4_high : MethodName := ⟨RX4, "high", "(FFF)V"⟩
abbrev cX4_known : ByteArray := prog_6_method_10_code
def yX4_known : MethodName := ⟨RX4, "known", "(I)Z"⟩
abbrev cX4_settle : ByteArray := prog_6_method_11_code
def yX4_settle : MethodName := ⟨RX4, "settle", "(IFFF)V"⟩
abbrev cX4_widen : ByteArray := prog_6_method_12_code
def yX4_widen : MethodName := ⟨RX4, "widen", "(IIF)V"⟩
abbrev cX4_least : ByteArray := prog_6_method_13_code
def yX4_least : MethodName := ⟨RX4, "least", "()I"⟩
abbrev cX4_put : ByteArray := prog_6_method_14_code
def yX4_put : MethodName := ⟨RX4, "put", "(II)I"⟩
abbrev cX4_takePad : ByteArray := prog_6_method_15_code
def yX4_takePad : MethodName := ⟨RX4, "takePad", "()V"⟩
abbrev cX4_goesOn : ByteArray := prog_6_method_16_code
def yX4_goesOn : MethodName := ⟨RX4, "goesOn", "(FFF)Z"⟩
abbrev cX4_bodies : ByteArray := prog_6_method_17_code
def yX4_bodies : MethodName := ⟨RX4, "bodies", "()I"⟩
abbrev cX4_add : ByteArray := prog_6_method_18_code
def yX4_add : MethodName := ⟨RX4, "add", "(II)I"⟩
abbrev cX4_addRow : ByteArray := prog_6_method_19_code
def yX4_addRow : MethodName := ⟨RX4, "addRow", "(IFFFII)I"⟩
abbrev cX4_moves : ByteArray := prog_6_method_20_code
def yX4_moves : MethodName := ⟨RX4, "moves", "(IFFF)Z"⟩
abbrev cX4_move : ByteArray := prog_6_method_21_code
def yX4_move : MethodName := ⟨RX4, "move", "(IFFF)Z"⟩
abbrev cX4_shift : ByteArray := prog_6_method_22_code
def yX4_shift : MethodName := ⟨RX4, "shift", "(IIFFF)I"⟩
abbrev cX4_filter : ByteArray := prog_6_method_23_code
def yX4_filter : MethodName := ⟨RX4, "filter", "(III)V"⟩
abbrev cX4_bit : ByteArray := prog_6_method_24_code
def yX4_bit : MethodName := ⟨RX4, "bit", "([III)Z"⟩
abbrev cX4_isPair : ByteArray := prog_6_method_25_code
def yX4_isPair : MethodName := ⟨RX4, "isPair", "(II)Z"⟩
abbrev cX4_pairsOf : ByteArray := prog_6_method_26_code
def yX4_pairsOf : MethodName := ⟨RX4, "pairsOf", "(I)I"⟩
abbrev cX4_remove : ByteArray := prog_6_method_27_code
def yX4_remove : MethodName := ⟨RX4, "remove", "(I)I"⟩
abbrev cX4_overlap : ByteArray := prog_6_method_28_code
def yX4_overlap : MethodName := ⟨RX4, "overlap", "(II)Z"⟩
abbrev cX4_through : ByteArray := prog_6_method_29_code
def yX4_through : MethodName := ⟨RX4, "through", "(II)Z"⟩
abbrev cX4_bits : ByteArray := prog_6_method_30_code
def yX4_bits : MethodName := ⟨RX4, "bits", "([I)I"⟩
abbrev cX4_look : ByteArray := prog_6_method_31_code
def yX4_look : MethodName := ⟨RX4, "look", "()V"⟩
abbrev cX4_update : ByteArray := prog_6_method_32_code
def yX4_update : MethodName := ⟨RX4, "update", "()I"⟩
abbrev cX4_nth : ByteArray := prog_6_method_33_code
def yX4_nth : MethodName := ⟨RX4, "nth", "([II)I"⟩
abbrev cX4_pair : ByteArray := prog_6_method_34_code
def yX4_pair : MethodName := ⟨RX4, "pair", "(II)I"⟩
abbrev cX4_paired : ByteArray := prog_6_method_35_code
def yX4_paired : MethodName := ⟨RX4, "paired", "(II)Z"⟩
abbrev cX4_overlapping : ByteArray := prog_6_method_36_code
def yX4_overlapping : MethodName := ⟨RX4, "overlapping", "(I)I"⟩
abbrev cX4_enters : ByteArray := prog_6_method_37_code
def yX4_enters : MethodName := ⟨RX4, "enters", "(I)F"⟩
abbrev cX4_meeting : ByteArray := prog_6_method_38_code
def yX4_meeting : MethodName := ⟨RX4, "meeting", "(I)I"⟩
abbrev cX4_found : ByteArray := prog_6_method_39_code
def yX4_found : MethodName := ⟨RX4, "found", "(I)I"⟩
abbrev cX4_where : ByteArray := prog_6_method_40_code
def yX4_where : MethodName := ⟨RX4, "where", "(I)F"⟩
abbrev cX4_nearest : ByteArray := prog_6_method_41_code
def yX4_nearest : MethodName := ⟨RX4, "nearest", "()I"⟩
abbrev cX4_corner : ByteArray := prog_6_method_42_code
def yX4_corner : MethodName := ⟨RX4, "corner", "(II)F"⟩
abbrev cX4_about : ByteArray := prog_6_method_43_code
def yX4_about : MethodName := ⟨RX4, "about", "(II)I"⟩
abbrev cX4_count : ByteArray := prog_6_method_44_code
def yX4_count : MethodName := ⟨RX4, "count", "(I)I"⟩
def RJ13 : String := "java/lang/Long"
def TJ13 : u_T := fun k => match k with
  | _ => ("", "", "", false)
def tyJ13 : Nat → FieldType := fun k => match k with
  | _ => .int
abbrev wsJ130 : List Cond := u_ws RJ13 TJ13 0
theorem nmJ13 : ∀ a, a < 0 → ∀ b, b < 0 → a ≠ b → (TJ13 a).2.1 ≠ (TJ13 b).2.1 := by decide +kernel
theorem tyJ13_ok : ∀ k, k < 0 → parseFieldDescriptor (TJ13 k).2.2.1 = some (tyJ13 k) := by decide +kernel
abbrev cJ13_bitCount_95d88 : ByteArray := prog_11_method_50_code
def yJ13_bitCount_95d88 : MethodName := ⟨RJ13, "bitCount", "(J)I"⟩
def RJ0 : String := "java/lang/String"
def TJ0 : u_T := fun k => match k with
  | _ => ("", "", "", false)
def tyJ0 : Nat → FieldType := fun k => match k with
  | _ => .int
abbrev wsJ00 : List Cond := u_ws RJ0 TJ0 0
theorem nmJ0 : ∀ a, a < 0 → ∀ b, b < 0 → a ≠ b → (TJ0 a).2.1 ≠ (TJ0 b).2.1 := by decide +kernel
theorem tyJ0_ok : ∀ k, k < 0 → parseFieldDescriptor (TJ0 k).2.2.1 = some (tyJ0 k) := by decide +kernel
def RJ10 : String := "java/lang/System"
def TJ10 : u_T := fun k => match k with
  | _ => ("", "", "", false)
def tyJ10 : Nat → FieldType := fun k => match k with
  | _ => .int
abbrev wsJ100 : List Cond := u_ws RJ10 TJ10 0
theorem nmJ10 : ∀ a, a < 0 → ∀ b, b < 0 → a ≠ b → (TJ10 a).2.1 ≠ (TJ10 b).2.1 := by decide +kernel
theorem tyJ10_ok : ∀ k, k < 0 → parseFieldDescriptor (TJ10 k).2.2.1 = some (tyJ10 k) := by decide +kernel
def RL : String := "PairFinderLaw"
abbrev cL_low : ByteArray := method_3_code
def yL_low : MethodName := ⟨RL, "low", "(LPairFinder;FFF)I"⟩
abbrev cL_high : ByteArray := method_4_code
def yL_high : MethodName := ⟨RL, "high", "(LPairFinder;FFF)I"⟩
abbrev cL_add : ByteArray := method_5_code
def yL_add : MethodName := ⟨RL, "add", "(LPairFinder;II[J)I"⟩
abbrev cL_addRow : ByteArray := method_6_code
def yL_addRow : MethodName := ⟨RL, "addRow", "(LPairFinder;IFFFII[J)I"⟩
abbrev cL_move : ByteArray := method_7_code
def yL_move : MethodName := ⟨RL, "move", "(LPairFinder;IFFF[J)I"⟩
abbrev cL_shift : ByteArray := method_8_code
def yL_shift : MethodName := ⟨RL, "shift", "(LPairFinder;IIFFF[J)I"⟩
abbrev cL_filter : ByteArray := method_9_code
def yL_filter : MethodName := ⟨RL, "filter", "(LPairFinder;III)I"⟩
abbrev cL_remove : ByteArray := method_10_code
def yL_remove : MethodName := ⟨RL, "remove", "(LPairFinder;I[J)I"⟩
abbrev cL_update : ByteArray := method_11_code
def yL_update : MethodName := ⟨RL, "update", "(LPairFinder;[J)I"⟩
abbrev cL_pair : ByteArray := method_12_code
def yL_pair : MethodName := ⟨RL, "pair", "(LPairFinder;II[J)I"⟩
abbrev cL_paired : ByteArray := method_13_code
def yL_paired : MethodName := ⟨RL, "paired", "(LPairFinder;II[J)I"⟩
abbrev cL_overlapping : ByteArray := method_14_code
def yL_overlapping : MethodName := ⟨RL, "overlapping", "(LPairFinder;I[J)I"⟩
abbrev cL_found : ByteArray := method_15_code
def yL_found : MethodName := ⟨RL, "found", "(LPairFinder;I[J)I"⟩
abbrev cL_where : ByteArray := method_16_code
def yL_where : MethodName := ⟨RL, "where", "(LPairFinder;I[D)I"⟩
abbrev cL_corner : ByteArray := method_17_code
def yL_corner : MethodName := ⟨RL, "corner", "(LPairFinder;II[D)I"⟩
abbrev cL_about : ByteArray := method_18_code
def yL_about : MethodName := ⟨RL, "about", "(LPairFinder;II[J)I"⟩
abbrev cL_count : ByteArray := method_19_code
def yL_count : MethodName := ⟨RL, "count", "(LPairFinder;I[J)I"⟩
abbrev cL_law : ByteArray := code
def yL_law : MethodName := ⟨RL, "law", "([I)Z"⟩
def wsX1_init : List Cond := .code yX1_init cX1_init 1 none :: ([.methodLink RX1 3 objectInit, .instanceMethod objectInit, .code objectInit ⟨#[0xb1]⟩ 1 none, .arrayClass .float, .fieldLink RX1 11 "PairFinder$Box" "numbers" "[F"] ++ wsX10)
def wsX0_init : List Cond := .code yX0_init cX0_init 1 none :: ([.methodLink RX0 1 objectInit, .instanceMethod objectInit, .code objectInit ⟨#[0xb1]⟩ 1 none, .classLink RX0 7 RX1, .instantiable RX1 1, .initialized RX1, .fieldLink RX0 10 "PairFinder$Body" "tight" "LPairFinder$Box;", .fieldLink RX0 16 "PairFinder$Body" "wide" "LPairFinder$Box;", .instanceMethod yX1_init, .code yX1_init cX1_init 1 none, .methodLink RX1 3 objectInit, .arrayClass .float, .fieldLink RX1 11 "PairFinder$Box" "numbers" "[F"] ++ wsX10 ++ wsX00)
def wsX1_copyFrom : List Cond := .code yX1_copyFrom cX1_copyFrom 2 none :: ([.fieldLink RX1 11 "PairFinder$Box" "numbers" "[F", .methodLink RX1 15 arraycopyName, .native arraycopyName, .static arraycopyName, .initialized "java/lang/System"] ++ wsX10)
def wsX1_widenAxis : List Cond := .code yX1_widenAxis cX1_widenAxis 5 none :: ([.fieldLink RX1 11 "PairFinder$Box" "numbers" "[F", .constantFloat RX1 25 (1048576000)] ++ wsX10)
def wsX1_widen : List Cond := .code yX1_widen cX1_widen 4 none :: ([.methodLink RX1 21 yX1_widenAxis, .instanceMethod yX1_widenAxis, .selects RX1 yX1_widenAxis yX1_widenAxis, .initialized RX1, .code yX1_widenAxis cX1_widenAxis 5 none, .fieldLink RX1 11 "PairFinder$Box" "numbers" "[F", .constantFloat RX1 25 (1048576000)] ++ wsX10)
def wsX0_setFilter : List Cond := .code yX0_setFilter cX0_setFilter 3 none :: ([.fieldLink RX0 38 "PairFinder$Body" "group" "I", .fieldLink RX0 42 "PairFinder$Body" "mask" "I", .fieldLink RX0 35 "PairFinder$Body" "touched" "Z"] ++ wsX00)
def wsX0_appear_r1 : List Cond := [Cond.fieldLink RX0 19 "PairFinder$Body" "there" "Z", Cond.fieldLink RX0 10 "PairFinder$Body" "tight" "LPairFinder$Box;", Cond.fieldLink RX0 16 "PairFinder$Body" "wide" "LPairFinder$Box;", Cond.methodLink RX0 23 yX1_copyFrom, Cond.instanceMethod yX1_copyFrom, Cond.selects RX1 yX1_copyFrom yX1_copyFrom, Cond.initialized RX1, Cond.code yX1_copyFrom cX1_copyFrom 2 none, Cond.fieldLink RX1 11 "PairFinder$Box" "numbers" "[F", Cond.methodLink RX1 15 arraycopyName, Cond.native arraycopyName, Cond.static arraycopyName, Cond.initialized "java/lang/System", Cond.methodLink RX0 27 yX1_widen, Cond.instanceMethod yX1_widen, Cond.selects RX1 yX1_widen yX1_widen, Cond.code yX1_widen cX1_widen 4 none, Cond.methodLink RX1 21 yX1_widenAxis, Cond.instanceMethod yX1_widenAxis, Cond.selects RX1 yX1_widenAxis yX1_widenAxis, Cond.code yX1_widenAxis cX1_widenAxis 5 none, Cond.constantFloat RX1 25 (1048576000), Cond.methodLink RX0 31 yX0_setFilter, Cond.instanceMethod yX0_setFilter]
def wsX0_appear_r2 : List Cond := [Cond.selects RX0 yX0_setFilter yX0_setFilter, Cond.initialized RX0, Cond.code yX0_setFilter cX0_setFilter 3 none, Cond.fieldLink RX0 38 "PairFinder$Body" "group" "I", Cond.fieldLink RX0 42 "PairFinder$Body" "mask" "I", Cond.fieldLink RX0 35 "PairFinder$Body" "touched" "Z"]
def wsX0_appear : List Cond := .code yX0_appear cX0_appear 4 none :: ((wsX0_appear_r1 ++ wsX0_appear_r2) ++ wsX00 ++ wsX10)
def wsX0_leave : List Cond := .code yX0_leave cX0_leave 1 none :: ([.fieldLink RX0 19 "PairFinder$Body" "there" "Z", .fieldLink RX0 35 "PairFinder$Body" "touched" "Z"] ++ wsX00)
def wsX1_liesIn : List Cond := .code yX1_liesIn cX1_liesIn 3 (some .boolean) :: ([.fieldLink RX1 11 "PairFinder$Box" "numbers" "[F"] ++ wsX10)
def wsX0_moveTo_r1 : List Cond := [Cond.fieldLink RX0 10 "PairFinder$Body" "tight" "LPairFinder$Box;", Cond.fieldLink RX0 16 "PairFinder$Body" "wide" "LPairFinder$Box;", Cond.fieldLink RX0 35 "PairFinder$Body" "touched" "Z", Cond.methodLink RX0 23 yX1_copyFrom, Cond.instanceMethod yX1_copyFrom, Cond.selects RX1 yX1_copyFrom yX1_copyFrom, Cond.initialized RX1, Cond.code yX1_copyFrom cX1_copyFrom 2 none, Cond.fieldLink RX1 11 "PairFinder$Box" "numbers" "[F", Cond.methodLink RX1 15 arraycopyName, Cond.native arraycopyName, Cond.static arraycopyName, Cond.initialized "java/lang/System", Cond.methodLink RX0 45 yX1_liesIn, Cond.instanceMethod yX1_liesIn, Cond.selects RX1 yX1_liesIn yX1_liesIn, Cond.code yX1_liesIn cX1_liesIn 3 (some .boolean), Cond.methodLink RX0 27 yX1_widen, Cond.instanceMethod yX1_widen, Cond.selects RX1 yX1_widen yX1_widen, Cond.code yX1_widen cX1_widen 4 none, Cond.methodLink RX1 21 yX1_widenAxis, Cond.instanceMethod yX1_widenAxis, Cond.selects RX1 yX1_widenAxis yX1_widenAxis]
def wsX0_moveTo_r2 : List Cond := [Cond.code yX1_widenAxis cX1_widenAxis 5 none, Cond.constantFloat RX1 25 (1048576000)]
def wsX0_moveTo : List Cond := .code yX0_moveTo cX0_moveTo 5 (some .boolean) :: ((wsX0_moveTo_r1 ++ wsX0_moveTo_r2) ++ wsX00 ++ wsX10)
def wsX1_overlaps : List Cond := .code yX1_overlaps cX1_overlaps 3 (some .boolean) :: ([.fieldLink RX1 11 "PairFinder$Box" "numbers" "[F"] ++ wsX10)
def wsX0_pairsWith : List Cond := .code yX0_pairsWith cX0_pairsWith 2 (some .boolean) :: ([.fieldLink RX0 19 "PairFinder$Body" "there" "Z", .fieldLink RX0 38 "PairFinder$Body" "group" "I", .fieldLink RX0 42 "PairFinder$Body" "mask" "I", .fieldLink RX0 16 "PairFinder$Body" "wide" "LPairFinder$Box;", .methodLink RX0 49 yX1_overlaps, .instanceMethod yX1_overlaps, .selects RX1 yX1_overlaps yX1_overlaps, .initialized RX1, .code yX1_overlaps cX1_overlaps 3 (some .boolean), .fieldLink RX1 11 "PairFinder$Box" "numbers" "[F"] ++ wsX00 ++ wsX10)
def wsX1_setCorner : List Cond := .code yX1_setCorner cX1_setCorner 6 none :: ([.fieldLink RX1 11 "PairFinder$Box" "numbers" "[F"] ++ wsX10)
def wsX1_moveBy : List Cond := .code yX1_moveBy cX1_moveBy 5 none :: ([.fieldLink RX1 11 "PairFinder$Box" "numbers" "[F"] ++ wsX10)
def wsX1_isBox : List Cond := .code yX1_isBox cX1_isBox 2 (some .boolean) :: ([.fieldLink RX1 11 "PairFinder$Box" "numbers" "[F"] ++ wsX10)
def wsX3_isWithin : List Cond := .code yX3_isWithin cX3_isWithin 2 (some .boolean) :: ([])
def wsX1_isGood : List Cond := .code yX1_isGood cX1_isGood 2 (some .boolean) :: ([.fieldLink RX1 11 "PairFinder$Box" "numbers" "[F", .static yX3_isWithin, .initialized RX3, .code yX3_isWithin cX3_isWithin 2 (some .boolean)] ++ wsX10)
def wsX1_enterOfLine : List Cond := .code yX1_enterOfLine cX1_enterOfLine 11 (some .float) :: ([.fieldLink RX1 11 "PairFinder$Box" "numbers" "[F", .constantFloat RX1 30 (3212836864)] ++ wsX10)
def wsX2_init : List Cond := .code yX2_init cX2_init 1 none :: ([.methodLink RX2 5 objectInit, .instanceMethod objectInit, .code objectInit ⟨#[0xb1]⟩ 1 none, .arrayClass .long, .fieldLink RX2 11 "PairFinder$PairSet" "words" "[J"] ++ wsX20)
def wsX2_holds : List Cond := .code yX2_holds cX2_holds 2 (some .boolean) :: ([.fieldLink RX2 11 "PairFinder$PairSet" "words" "[J"] ++ wsX20)
def wsX2_put : List Cond := .code yX2_put cX2_put 3 none :: ([.fieldLink RX2 11 "PairFinder$PairSet" "words" "[J", .fieldLink RX2 19 "PairFinder$PairSet" "size" "I", .methodLink RX2 15 yX2_holds, .instanceMethod yX2_holds, .selects RX2 yX2_holds yX2_holds, .initialized RX2, .code yX2_holds cX2_holds 2 (some .boolean)] ++ wsX20)
def wsX2_copyFrom : List Cond := .code yX2_copyFrom cX2_copyFrom 2 none :: ([.fieldLink RX2 11 "PairFinder$PairSet" "words" "[J", .methodLink RX2 23 arraycopyName, .native arraycopyName, .static arraycopyName, .initialized "java/lang/System", .fieldLink RX2 19 "PairFinder$PairSet" "size" "I"] ++ wsX20)
def wsJ13_bitCount_95d88 : List Cond := .code yJ13_bitCount_95d88 cJ13_bitCount_95d88 2 (some .int) :: ([.constantLong RJ13 314 (6148914691236517205), .constantLong RJ13 316 (3689348814741910323), .constantLong RJ13 318 (1085102592571150095)])
def wsX2_setToDifference : List Cond := .code yX2_setToDifference cX2_setToDifference 4 none :: ([.fieldLink RX2 19 "PairFinder$PairSet" "size" "I", .fieldLink RX2 11 "PairFinder$PairSet" "words" "[J", .constantLong RX2 29 (-1), .methodLink RX2 31 yJ13_bitCount_95d88, .static yJ13_bitCount_95d88, .initialized RJ13, .code yJ13_bitCount_95d88 cJ13_bitCount_95d88 2 (some .int), .constantLong RJ13 314 (6148914691236517205), .constantLong RJ13 316 (3689348814741910323), .constantLong RJ13 318 (1085102592571150095)] ++ wsX20)
def wsX2_bitAt : List Cond := .code yX2_bitAt cX2_bitAt 5 (some .int) :: ([])
def wsX2_codeAt : List Cond := .code yX2_codeAt cX2_codeAt 5 (some .int) :: ([.fieldLink RX2 11 "PairFinder$PairSet" "words" "[J", .methodLink RX2 31 yJ13_bitCount_95d88, .static yJ13_bitCount_95d88, .initialized RJ13, .code yJ13_bitCount_95d88 cJ13_bitCount_95d88 2 (some .int), .constantLong RJ13 314 (6148914691236517205), .constantLong RJ13 316 (3689348814741910323), .constantLong RJ13 318 (1085102592571150095), .methodLink RX2 37 yX2_bitAt, .static yX2_bitAt, .initialized RX2, .code yX2_bitAt cX2_bitAt 5 (some .int)] ++ wsX20)
def wsX3_init_r1 : List Cond := [Cond.methodLink RX3 1 objectInit, Cond.instanceMethod objectInit, Cond.code objectInit ⟨#[0xb1]⟩ 1 none, Cond.classLink RX3 7 RX1, Cond.instantiable RX1 1, Cond.initialized RX1, Cond.fieldLink RX3 10 "PairFinder" "pad" "LPairFinder$Box;", Cond.classLink RX3 16 RX0, Cond.fieldLink RX3 18 "PairFinder" "bodies" "[LPairFinder$Body;", Cond.instantiable RX0 6, Cond.initialized RX0, Cond.classLink RX3 23 RX2, Cond.instantiable RX2 2, Cond.initialized RX2, Cond.fieldLink RX3 26 "PairFinder" "pairs" "LPairFinder$PairSet;", Cond.fieldLink RX3 30 "PairFinder" "nextPairs" "LPairFinder$PairSet;", Cond.fieldLink RX3 33 "PairFinder" "begun" "LPairFinder$PairSet;", Cond.fieldLink RX3 36 "PairFinder" "ended" "LPairFinder$PairSet;", Cond.arrayClass .int, Cond.fieldLink RX3 39 "PairFinder" "foundBodies" "[I", Cond.arrayClass .float, Cond.fieldLink RX3 43 "PairFinder" "foundFloats" "[F", Cond.fieldLink RX3 47 "PairFinder" "workBox" "LPairFinder$Box;", Cond.instanceMethod yX1_init]
def wsX3_init_r2 : List Cond := [Cond.code yX1_init cX1_init 1 none, Cond.methodLink RX1 3 objectInit, Cond.fieldLink RX1 11 "PairFinder$Box" "numbers" "[F", Cond.instanceMethod yX0_init, Cond.code yX0_init cX0_init 1 none, Cond.methodLink RX0 1 objectInit, Cond.classLink RX0 7 RX1, Cond.fieldLink RX0 10 "PairFinder$Body" "tight" "LPairFinder$Box;", Cond.fieldLink RX0 16 "PairFinder$Body" "wide" "LPairFinder$Box;", Cond.instanceMethod yX2_init, Cond.code yX2_init cX2_init 1 none, Cond.methodLink RX2 5 objectInit, Cond.arrayClass .long, Cond.fieldLink RX2 11 "PairFinder$PairSet" "words" "[J"]
def wsX3_init : List Cond := .code yX3_init cX3_init 2 none :: ((wsX3_init_r1 ++ wsX3_init_r2) ++ wsX10 ++ wsX30 ++ wsX00 ++ wsX20)
def wsX3_requireGood : List Cond := .code yX3_requireGood cX3_requireGood 3 none :: ([.classLink RX3 69 "java/lang/IllegalArgumentException", .initialized "java/lang/IllegalArgumentException", .methodLink RX3 212 yX3_isWithin, .static yX3_isWithin, .initialized RX3, .code yX3_isWithin cX3_isWithin 2 (some .boolean)] ++ (vx_atS RX3 73 "java/lang/IllegalArgumentException" ["java/lang/RuntimeException", "java/lang/Exception"]).filter goodWord)
def wsX3_low : List Cond := .code yX3_low cX3_low 4 none :: ([.fieldLink RX3 10 "PairFinder" "pad" "LPairFinder$Box;", .methodLink RX3 50 yX3_requireGood, .static yX3_requireGood, .initialized RX3, .code yX3_requireGood cX3_requireGood 3 none, .classLink RX3 69 "java/lang/IllegalArgumentException", .initialized "java/lang/IllegalArgumentException", .methodLink RX3 212 yX3_isWithin, .static yX3_isWithin, .code yX3_isWithin cX3_isWithin 2 (some .boolean), .methodLink RX3 54 yX1_setCorner, .instanceMethod yX1_setCorner, .selects RX1 yX1_setCorner yX1_setCorner, .initialized RX1, .code yX1_setCorner cX1_setCorner 6 none, .fieldLink RX1 11 "PairFinder$Box" "numbers" "[F"] ++ wsX30 ++ wsX10 ++ (vx_atS RX3 73 "java/lang/IllegalArgumentException" ["java/lang/RuntimeException", "java/lang/Exception"]).filter goodWord)
def wsX3_high : List Cond := .code yX3_high cX3_high 4 none :: ([.fieldLink RX3 10 "PairFinder" "pad" "LPairFinder$Box;", .methodLink RX3 50 yX3_requireGood, .static yX3_requireGood, .initialized RX3, .code yX3_requireGood cX3_requireGood 3 none, .classLink RX3 69 "java/lang/IllegalArgumentException", .initialized "java/lang/IllegalArgumentException", .methodLink RX3 212 yX3_isWithin, .static yX3_isWithin, .code yX3_isWithin cX3_isWithin 2 (some .boolean), .methodLink RX3 54 yX1_setCorner, .instanceMethod yX1_setCorner, .selects RX1 yX1_setCorner yX1_setCorner, .initialized RX1, .code yX1_setCorner cX1_setCorner 6 none, .fieldLink RX1 11 "PairFinder$Box" "numbers" "[F"] ++ wsX30 ++ wsX10 ++ (vx_atS RX3 73 "java/lang/IllegalArgumentException" ["java/lang/RuntimeException", "java/lang/Exception"]).filter goodWord)
def wsX3_requirePadIsBox : List Cond := .code yX3_requirePadIsBox cX3_requirePadIsBox 1 none :: ([.classLink RX3 69 "java/lang/IllegalArgumentException", .initialized "java/lang/IllegalArgumentException", .fieldLink RX3 10 "PairFinder" "pad" "LPairFinder$Box;", .methodLink RX3 220 yX1_isBox, .instanceMethod yX1_isBox, .selects RX1 yX1_isBox yX1_isBox, .initialized RX1, .code yX1_isBox cX1_isBox 2 (some .boolean), .fieldLink RX1 11 "PairFinder$Box" "numbers" "[F"] ++ wsX30 ++ wsX10 ++ (vx_atS RX3 73 "java/lang/IllegalArgumentException" ["java/lang/RuntimeException", "java/lang/Exception"]).filter goodWord)
def wsX3_requireRoomFor : List Cond := .code yX3_requireRoomFor cX3_requireRoomFor 2 none :: ([.classLink RX3 145 "java/lang/IllegalStateException", .initialized "java/lang/IllegalStateException", .fieldLink RX3 128 "PairFinder" "bodiesThere" "I"] ++ wsX30 ++ (vx_atS RX3 149 "java/lang/IllegalStateException" ["java/lang/RuntimeException", "java/lang/Exception"]).filter goodWord)
def wsX3_addBodies_r1 : List Cond := [Cond.fieldLink RX3 47 "PairFinder" "workBox" "LPairFinder$Box;", Cond.fieldLink RX3 10 "PairFinder" "pad" "LPairFinder$Box;", Cond.fieldLink RX3 18 "PairFinder" "bodies" "[LPairFinder$Body;", Cond.fieldLink RX3 101 "PairFinder$Body" "there" "Z", Cond.fieldLink RX3 128 "PairFinder" "bodiesThere" "I", Cond.methodLink RX3 232 yX1_copyFrom, Cond.instanceMethod yX1_copyFrom, Cond.selects RX1 yX1_copyFrom yX1_copyFrom, Cond.initialized RX1, Cond.code yX1_copyFrom cX1_copyFrom 2 none, Cond.fieldLink RX1 11 "PairFinder$Box" "numbers" "[F", Cond.methodLink RX1 15 arraycopyName, Cond.native arraycopyName, Cond.static arraycopyName, Cond.initialized "java/lang/System", Cond.methodLink RX3 235 yX1_moveBy, Cond.instanceMethod yX1_moveBy, Cond.selects RX1 yX1_moveBy yX1_moveBy, Cond.code yX1_moveBy cX1_moveBy 5 none, Cond.methodLink RX3 241 yX0_appear, Cond.instanceMethod yX0_appear, Cond.selects RX0 yX0_appear yX0_appear, Cond.initialized RX0, Cond.code yX0_appear cX0_appear 4 none]
def wsX3_addBodies_r2 : List Cond := [Cond.fieldLink RX0 19 "PairFinder$Body" "there" "Z", Cond.fieldLink RX0 10 "PairFinder$Body" "tight" "LPairFinder$Box;", Cond.fieldLink RX0 16 "PairFinder$Body" "wide" "LPairFinder$Box;", Cond.methodLink RX0 23 yX1_copyFrom, Cond.methodLink RX0 27 yX1_widen, Cond.instanceMethod yX1_widen, Cond.selects RX1 yX1_widen yX1_widen, Cond.code yX1_widen cX1_widen 4 none, Cond.methodLink RX1 21 yX1_widenAxis, Cond.instanceMethod yX1_widenAxis, Cond.selects RX1 yX1_widenAxis yX1_widenAxis, Cond.code yX1_widenAxis cX1_widenAxis 5 none, Cond.constantFloat RX1 25 (1048576000), Cond.methodLink RX0 31 yX0_setFilter, Cond.instanceMethod yX0_setFilter, Cond.selects RX0 yX0_setFilter yX0_setFilter, Cond.code yX0_setFilter cX0_setFilter 3 none, Cond.fieldLink RX0 38 "PairFinder$Body" "group" "I", Cond.fieldLink RX0 42 "PairFinder$Body" "mask" "I", Cond.fieldLink RX0 35 "PairFinder$Body" "touched" "Z"]
def wsX3_addBodies : List Cond := .code yX3_addBodies cX3_addBodies 10 (some .int) :: ((wsX3_addBodies_r1 ++ wsX3_addBodies_r2) ++ wsX30 ++ wsX00 ++ wsX10)
def wsX3_add_r1 : List Cond := [Cond.methodLink RX3 58 yX3_requirePadIsBox, Cond.instanceMethod yX3_requirePadIsBox, Cond.selects RX3 yX3_requirePadIsBox yX3_requirePadIsBox, Cond.initialized RX3, Cond.code yX3_requirePadIsBox cX3_requirePadIsBox 1 none, Cond.classLink RX3 69 "java/lang/IllegalArgumentException", Cond.initialized "java/lang/IllegalArgumentException", Cond.fieldLink RX3 10 "PairFinder" "pad" "LPairFinder$Box;", Cond.methodLink RX3 220 yX1_isBox, Cond.instanceMethod yX1_isBox, Cond.selects RX1 yX1_isBox yX1_isBox, Cond.initialized RX1, Cond.code yX1_isBox cX1_isBox 2 (some .boolean), Cond.fieldLink RX1 11 "PairFinder$Box" "numbers" "[F", Cond.methodLink RX3 61 yX3_requireRoomFor, Cond.instanceMethod yX3_requireRoomFor, Cond.selects RX3 yX3_requireRoomFor yX3_requireRoomFor, Cond.code yX3_requireRoomFor cX3_requireRoomFor 2 none, Cond.classLink RX3 145 "java/lang/IllegalStateException", Cond.initialized "java/lang/IllegalStateException", Cond.fieldLink RX3 128 "PairFinder" "bodiesThere" "I", Cond.methodLink RX3 65 yX3_addBodies, Cond.instanceMethod yX3_addBodies, Cond.selects RX3 yX3_addBodies yX3_addBodies]
def wsX3_add_r2 : List Cond := [Cond.code yX3_addBodies cX3_addBodies 10 (some .int), Cond.fieldLink RX3 47 "PairFinder" "workBox" "LPairFinder$Box;", Cond.fieldLink RX3 18 "PairFinder" "bodies" "[LPairFinder$Body;", Cond.fieldLink RX3 101 "PairFinder$Body" "there" "Z", Cond.methodLink RX3 232 yX1_copyFrom, Cond.instanceMethod yX1_copyFrom, Cond.selects RX1 yX1_copyFrom yX1_copyFrom, Cond.code yX1_copyFrom cX1_copyFrom 2 none, Cond.methodLink RX1 15 arraycopyName, Cond.native arraycopyName, Cond.static arraycopyName, Cond.initialized "java/lang/System", Cond.methodLink RX3 235 yX1_moveBy, Cond.instanceMethod yX1_moveBy, Cond.selects RX1 yX1_moveBy yX1_moveBy, Cond.code yX1_moveBy cX1_moveBy 5 none, Cond.methodLink RX3 241 yX0_appear, Cond.instanceMethod yX0_appear, Cond.selects RX0 yX0_appear yX0_appear, Cond.initialized RX0, Cond.code yX0_appear cX0_appear 4 none, Cond.fieldLink RX0 19 "PairFinder$Body" "there" "Z", Cond.fieldLink RX0 10 "PairFinder$Body" "tight" "LPairFinder$Box;", Cond.fieldLink RX0 16 "PairFinder$Body" "wide" "LPairFinder$Box;"]
def wsX3_add_r3 : List Cond := [Cond.methodLink RX0 23 yX1_copyFrom, Cond.methodLink RX0 27 yX1_widen, Cond.instanceMethod yX1_widen, Cond.selects RX1 yX1_widen yX1_widen, Cond.code yX1_widen cX1_widen 4 none, Cond.methodLink RX1 21 yX1_widenAxis, Cond.instanceMethod yX1_widenAxis, Cond.selects RX1 yX1_widenAxis yX1_widenAxis, Cond.code yX1_widenAxis cX1_widenAxis 5 none, Cond.constantFloat RX1 25 (1048576000), Cond.methodLink RX0 31 yX0_setFilter, Cond.instanceMethod yX0_setFilter, Cond.selects RX0 yX0_setFilter yX0_setFilter, Cond.code yX0_setFilter cX0_setFilter 3 none, Cond.fieldLink RX0 38 "PairFinder$Body" "group" "I", Cond.fieldLink RX0 42 "PairFinder$Body" "mask" "I", Cond.fieldLink RX0 35 "PairFinder$Body" "touched" "Z"]
def wsX3_add : List Cond := .code yX3_add cX3_add 3 (some .int) :: ((wsX3_add_r1 ++ (wsX3_add_r2 ++ wsX3_add_r3)) ++ wsX30 ++ wsX10 ++ wsX00 ++ (vx_atS RX3 73 "java/lang/IllegalArgumentException" ["java/lang/RuntimeException", "java/lang/Exception"]).filter goodWord ++ (vx_atS RX3 149 "java/lang/IllegalStateException" ["java/lang/RuntimeException", "java/lang/Exception"]).filter goodWord)
def wsX3_requireMovement : List Cond := .code yX3_requireMovement cX3_requireMovement 3 none :: ([.classLink RX3 69 "java/lang/IllegalArgumentException", .initialized "java/lang/IllegalArgumentException", .methodLink RX3 212 yX3_isWithin, .static yX3_isWithin, .initialized RX3, .code yX3_isWithin cX3_isWithin 2 (some .boolean)] ++ (vx_atS RX3 73 "java/lang/IllegalArgumentException" ["java/lang/RuntimeException", "java/lang/Exception"]).filter goodWord)
def wsX3_rowStaysGood : List Cond := .code yX3_rowStaysGood cX3_rowStaysGood 6 (some .boolean) :: ([.fieldLink RX3 47 "PairFinder" "workBox" "LPairFinder$Box;", .fieldLink RX3 10 "PairFinder" "pad" "LPairFinder$Box;", .methodLink RX3 232 yX1_copyFrom, .instanceMethod yX1_copyFrom, .selects RX1 yX1_copyFrom yX1_copyFrom, .initialized RX1, .code yX1_copyFrom cX1_copyFrom 2 none, .fieldLink RX1 11 "PairFinder$Box" "numbers" "[F", .methodLink RX1 15 arraycopyName, .native arraycopyName, .static arraycopyName, .initialized "java/lang/System", .methodLink RX3 235 yX1_moveBy, .instanceMethod yX1_moveBy, .selects RX1 yX1_moveBy yX1_moveBy, .code yX1_moveBy cX1_moveBy 5 none, .methodLink RX3 238 yX1_isGood, .instanceMethod yX1_isGood, .selects RX1 yX1_isGood yX1_isGood, .code yX1_isGood cX1_isGood 2 (some .boolean), .static yX3_isWithin, .initialized RX3, .code yX3_isWithin cX3_isWithin 2 (some .boolean)] ++ wsX30 ++ wsX10)
def wsX3_addRow_r1 : List Cond := [Cond.classLink RX3 69 "java/lang/IllegalArgumentException", Cond.initialized "java/lang/IllegalArgumentException", Cond.methodLink RX3 58 yX3_requirePadIsBox, Cond.instanceMethod yX3_requirePadIsBox, Cond.selects RX3 yX3_requirePadIsBox yX3_requirePadIsBox, Cond.initialized RX3, Cond.code yX3_requirePadIsBox cX3_requirePadIsBox 1 none, Cond.fieldLink RX3 10 "PairFinder" "pad" "LPairFinder$Box;", Cond.methodLink RX3 220 yX1_isBox, Cond.instanceMethod yX1_isBox, Cond.selects RX1 yX1_isBox yX1_isBox, Cond.initialized RX1, Cond.code yX1_isBox cX1_isBox 2 (some .boolean), Cond.fieldLink RX1 11 "PairFinder$Box" "numbers" "[F", Cond.methodLink RX3 76 yX3_requireMovement, Cond.static yX3_requireMovement, Cond.code yX3_requireMovement cX3_requireMovement 3 none, Cond.methodLink RX3 212 yX3_isWithin, Cond.static yX3_isWithin, Cond.code yX3_isWithin cX3_isWithin 2 (some .boolean), Cond.methodLink RX3 79 yX3_rowStaysGood, Cond.instanceMethod yX3_rowStaysGood, Cond.selects RX3 yX3_rowStaysGood yX3_rowStaysGood, Cond.code yX3_rowStaysGood cX3_rowStaysGood 6 (some .boolean)]
def wsX3_addRow_r2 : List Cond := [Cond.fieldLink RX3 47 "PairFinder" "workBox" "LPairFinder$Box;", Cond.methodLink RX3 232 yX1_copyFrom, Cond.instanceMethod yX1_copyFrom, Cond.selects RX1 yX1_copyFrom yX1_copyFrom, Cond.code yX1_copyFrom cX1_copyFrom 2 none, Cond.methodLink RX1 15 arraycopyName, Cond.native arraycopyName, Cond.static arraycopyName, Cond.initialized "java/lang/System", Cond.methodLink RX3 235 yX1_moveBy, Cond.instanceMethod yX1_moveBy, Cond.selects RX1 yX1_moveBy yX1_moveBy, Cond.code yX1_moveBy cX1_moveBy 5 none, Cond.methodLink RX3 238 yX1_isGood, Cond.instanceMethod yX1_isGood, Cond.selects RX1 yX1_isGood yX1_isGood, Cond.code yX1_isGood cX1_isGood 2 (some .boolean), Cond.methodLink RX3 61 yX3_requireRoomFor, Cond.instanceMethod yX3_requireRoomFor, Cond.selects RX3 yX3_requireRoomFor yX3_requireRoomFor, Cond.code yX3_requireRoomFor cX3_requireRoomFor 2 none, Cond.classLink RX3 145 "java/lang/IllegalStateException", Cond.initialized "java/lang/IllegalStateException", Cond.fieldLink RX3 128 "PairFinder" "bodiesThere" "I"]
def wsX3_addRow_r3 : List Cond := [Cond.methodLink RX3 65 yX3_addBodies, Cond.instanceMethod yX3_addBodies, Cond.selects RX3 yX3_addBodies yX3_addBodies, Cond.code yX3_addBodies cX3_addBodies 10 (some .int), Cond.fieldLink RX3 18 "PairFinder" "bodies" "[LPairFinder$Body;", Cond.fieldLink RX3 101 "PairFinder$Body" "there" "Z", Cond.methodLink RX3 241 yX0_appear, Cond.instanceMethod yX0_appear, Cond.selects RX0 yX0_appear yX0_appear, Cond.initialized RX0, Cond.code yX0_appear cX0_appear 4 none, Cond.fieldLink RX0 19 "PairFinder$Body" "there" "Z", Cond.fieldLink RX0 10 "PairFinder$Body" "tight" "LPairFinder$Box;", Cond.fieldLink RX0 16 "PairFinder$Body" "wide" "LPairFinder$Box;", Cond.methodLink RX0 23 yX1_copyFrom, Cond.methodLink RX0 27 yX1_widen, Cond.instanceMethod yX1_widen, Cond.selects RX1 yX1_widen yX1_widen, Cond.code yX1_widen cX1_widen 4 none, Cond.methodLink RX1 21 yX1_widenAxis, Cond.instanceMethod yX1_widenAxis, Cond.selects RX1 yX1_widenAxis yX1_widenAxis, Cond.code yX1_widenAxis cX1_widenAxis 5 none, Cond.constantFloat RX1 25 (1048576000)]
def wsX3_addRow_r4 : List Cond := [Cond.methodLink RX0 31 yX0_setFilter, Cond.instanceMethod yX0_setFilter, Cond.selects RX0 yX0_setFilter yX0_setFilter, Cond.code yX0_setFilter cX0_setFilter 3 none, Cond.fieldLink RX0 38 "PairFinder$Body" "group" "I", Cond.fieldLink RX0 42 "PairFinder$Body" "mask" "I", Cond.fieldLink RX0 35 "PairFinder$Body" "touched" "Z"]
def wsX3_addRow : List Cond := .code yX3_addRow cX3_addRow 7 (some .int) :: ((wsX3_addRow_r1 ++ (wsX3_addRow_r2 ++ (wsX3_addRow_r3 ++ wsX3_addRow_r4))) ++ wsX30 ++ wsX10 ++ wsX00 ++ (vx_atS RX3 73 "java/lang/IllegalArgumentException" ["java/lang/RuntimeException", "java/lang/Exception"]).filter goodWord ++ (vx_atS RX3 149 "java/lang/IllegalStateException" ["java/lang/RuntimeException", "java/lang/Exception"]).filter goodWord)
def wsX3_isBodyNumber : List Cond := .code yX3_isBodyNumber cX3_isBodyNumber 1 (some .boolean) :: ([])
def wsX3_requireThere : List Cond := .code yX3_requireThere cX3_requireThere 2 none :: ([.classLink RX3 96 "java/lang/IndexOutOfBoundsException", .initialized "java/lang/IndexOutOfBoundsException", .fieldLink RX3 18 "PairFinder" "bodies" "[LPairFinder$Body;", .fieldLink RX3 101 "PairFinder$Body" "there" "Z", .methodLink RX3 92 yX3_isBodyNumber, .static yX3_isBodyNumber, .initialized RX3, .code yX3_isBodyNumber cX3_isBodyNumber 1 (some .boolean)] ++ wsX30 ++ wsX00 ++ (vx_atS RX3 100 "java/lang/IndexOutOfBoundsException" ["java/lang/RuntimeException", "java/lang/Exception"]).filter goodWord)
def wsX3_move_r1 : List Cond := [Cond.fieldLink RX3 18 "PairFinder" "bodies" "[LPairFinder$Body;", Cond.fieldLink RX3 10 "PairFinder" "pad" "LPairFinder$Box;", Cond.methodLink RX3 85 yX3_requireThere, Cond.instanceMethod yX3_requireThere, Cond.selects RX3 yX3_requireThere yX3_requireThere, Cond.initialized RX3, Cond.code yX3_requireThere cX3_requireThere 2 none, Cond.classLink RX3 96 "java/lang/IndexOutOfBoundsException", Cond.initialized "java/lang/IndexOutOfBoundsException", Cond.fieldLink RX3 101 "PairFinder$Body" "there" "Z", Cond.methodLink RX3 92 yX3_isBodyNumber, Cond.static yX3_isBodyNumber, Cond.code yX3_isBodyNumber cX3_isBodyNumber 1 (some .boolean), Cond.methodLink RX3 58 yX3_requirePadIsBox, Cond.instanceMethod yX3_requirePadIsBox, Cond.selects RX3 yX3_requirePadIsBox yX3_requirePadIsBox, Cond.code yX3_requirePadIsBox cX3_requirePadIsBox 1 none, Cond.classLink RX3 69 "java/lang/IllegalArgumentException", Cond.initialized "java/lang/IllegalArgumentException", Cond.methodLink RX3 220 yX1_isBox, Cond.instanceMethod yX1_isBox, Cond.selects RX1 yX1_isBox yX1_isBox, Cond.initialized RX1, Cond.code yX1_isBox cX1_isBox 2 (some .boolean)]
def wsX3_move_r2 : List Cond := [Cond.fieldLink RX1 11 "PairFinder$Box" "numbers" "[F", Cond.methodLink RX3 76 yX3_requireMovement, Cond.static yX3_requireMovement, Cond.code yX3_requireMovement cX3_requireMovement 3 none, Cond.methodLink RX3 212 yX3_isWithin, Cond.static yX3_isWithin, Cond.code yX3_isWithin cX3_isWithin 2 (some .boolean), Cond.methodLink RX3 88 yX0_moveTo, Cond.instanceMethod yX0_moveTo, Cond.selects RX0 yX0_moveTo yX0_moveTo, Cond.initialized RX0, Cond.code yX0_moveTo cX0_moveTo 5 (some .boolean), Cond.fieldLink RX0 10 "PairFinder$Body" "tight" "LPairFinder$Box;", Cond.fieldLink RX0 16 "PairFinder$Body" "wide" "LPairFinder$Box;", Cond.fieldLink RX0 35 "PairFinder$Body" "touched" "Z", Cond.methodLink RX0 23 yX1_copyFrom, Cond.instanceMethod yX1_copyFrom, Cond.selects RX1 yX1_copyFrom yX1_copyFrom, Cond.code yX1_copyFrom cX1_copyFrom 2 none, Cond.methodLink RX1 15 arraycopyName, Cond.native arraycopyName, Cond.static arraycopyName, Cond.initialized "java/lang/System", Cond.methodLink RX0 45 yX1_liesIn]
def wsX3_move_r3 : List Cond := [Cond.instanceMethod yX1_liesIn, Cond.selects RX1 yX1_liesIn yX1_liesIn, Cond.code yX1_liesIn cX1_liesIn 3 (some .boolean), Cond.methodLink RX0 27 yX1_widen, Cond.instanceMethod yX1_widen, Cond.selects RX1 yX1_widen yX1_widen, Cond.code yX1_widen cX1_widen 4 none, Cond.methodLink RX1 21 yX1_widenAxis, Cond.instanceMethod yX1_widenAxis, Cond.selects RX1 yX1_widenAxis yX1_widenAxis, Cond.code yX1_widenAxis cX1_widenAxis 5 none, Cond.constantFloat RX1 25 (1048576000)]
def wsX3_move : List Cond := .code yX3_move cX3_move 5 (some .boolean) :: ((wsX3_move_r1 ++ (wsX3_move_r2 ++ wsX3_move_r3)) ++ wsX30 ++ wsX00 ++ wsX10 ++ (vx_atS RX3 100 "java/lang/IndexOutOfBoundsException" ["java/lang/RuntimeException", "java/lang/Exception"]).filter goodWord ++ (vx_atS RX3 73 "java/lang/IllegalArgumentException" ["java/lang/RuntimeException", "java/lang/Exception"]).filter goodWord)
def wsX3_shiftBody_r1 : List Cond := [Cond.fieldLink RX3 47 "PairFinder" "workBox" "LPairFinder$Box;", Cond.fieldLink RX3 195 "PairFinder$Body" "tight" "LPairFinder$Box;", Cond.methodLink RX3 232 yX1_copyFrom, Cond.instanceMethod yX1_copyFrom, Cond.selects RX1 yX1_copyFrom yX1_copyFrom, Cond.initialized RX1, Cond.code yX1_copyFrom cX1_copyFrom 2 none, Cond.fieldLink RX1 11 "PairFinder$Box" "numbers" "[F", Cond.methodLink RX1 15 arraycopyName, Cond.native arraycopyName, Cond.static arraycopyName, Cond.initialized "java/lang/System", Cond.methodLink RX3 235 yX1_moveBy, Cond.instanceMethod yX1_moveBy, Cond.selects RX1 yX1_moveBy yX1_moveBy, Cond.code yX1_moveBy cX1_moveBy 5 none, Cond.methodLink RX3 238 yX1_isGood, Cond.instanceMethod yX1_isGood, Cond.selects RX1 yX1_isGood yX1_isGood, Cond.code yX1_isGood cX1_isGood 2 (some .boolean), Cond.static yX3_isWithin, Cond.initialized RX3, Cond.code yX3_isWithin cX3_isWithin 2 (some .boolean), Cond.methodLink RX3 88 yX0_moveTo]
def wsX3_shiftBody_r2 : List Cond := [Cond.instanceMethod yX0_moveTo, Cond.selects RX0 yX0_moveTo yX0_moveTo, Cond.initialized RX0, Cond.code yX0_moveTo cX0_moveTo 5 (some .boolean), Cond.fieldLink RX0 10 "PairFinder$Body" "tight" "LPairFinder$Box;", Cond.fieldLink RX0 16 "PairFinder$Body" "wide" "LPairFinder$Box;", Cond.fieldLink RX0 35 "PairFinder$Body" "touched" "Z", Cond.methodLink RX0 23 yX1_copyFrom, Cond.methodLink RX0 45 yX1_liesIn, Cond.instanceMethod yX1_liesIn, Cond.selects RX1 yX1_liesIn yX1_liesIn, Cond.code yX1_liesIn cX1_liesIn 3 (some .boolean), Cond.methodLink RX0 27 yX1_widen, Cond.instanceMethod yX1_widen, Cond.selects RX1 yX1_widen yX1_widen, Cond.code yX1_widen cX1_widen 4 none, Cond.methodLink RX1 21 yX1_widenAxis, Cond.instanceMethod yX1_widenAxis, Cond.selects RX1 yX1_widenAxis yX1_widenAxis, Cond.code yX1_widenAxis cX1_widenAxis 5 none, Cond.constantFloat RX1 25 (1048576000)]
def wsX3_shiftBody : List Cond := .code yX3_shiftBody cX3_shiftBody 5 (some .boolean) :: ((wsX3_shiftBody_r1 ++ wsX3_shiftBody_r2) ++ wsX30 ++ wsX00 ++ wsX10)
def wsX3_shift_r1 : List Cond := [Cond.classLink RX3 96 "java/lang/IndexOutOfBoundsException", Cond.initialized "java/lang/IndexOutOfBoundsException", Cond.fieldLink RX3 18 "PairFinder" "bodies" "[LPairFinder$Body;", Cond.fieldLink RX3 101 "PairFinder$Body" "there" "Z", Cond.methodLink RX3 92 yX3_isBodyNumber, Cond.static yX3_isBodyNumber, Cond.initialized RX3, Cond.code yX3_isBodyNumber cX3_isBodyNumber 1 (some .boolean), Cond.methodLink RX3 76 yX3_requireMovement, Cond.static yX3_requireMovement, Cond.code yX3_requireMovement cX3_requireMovement 3 none, Cond.classLink RX3 69 "java/lang/IllegalArgumentException", Cond.initialized "java/lang/IllegalArgumentException", Cond.methodLink RX3 212 yX3_isWithin, Cond.static yX3_isWithin, Cond.code yX3_isWithin cX3_isWithin 2 (some .boolean), Cond.methodLink RX3 105 yX3_shiftBody, Cond.instanceMethod yX3_shiftBody, Cond.selects RX3 yX3_shiftBody yX3_shiftBody, Cond.code yX3_shiftBody cX3_shiftBody 5 (some .boolean), Cond.fieldLink RX3 47 "PairFinder" "workBox" "LPairFinder$Box;", Cond.fieldLink RX3 195 "PairFinder$Body" "tight" "LPairFinder$Box;", Cond.methodLink RX3 232 yX1_copyFrom, Cond.instanceMethod yX1_copyFrom]
def wsX3_shift_r2 : List Cond := [Cond.selects RX1 yX1_copyFrom yX1_copyFrom, Cond.initialized RX1, Cond.code yX1_copyFrom cX1_copyFrom 2 none, Cond.fieldLink RX1 11 "PairFinder$Box" "numbers" "[F", Cond.methodLink RX1 15 arraycopyName, Cond.native arraycopyName, Cond.static arraycopyName, Cond.initialized "java/lang/System", Cond.methodLink RX3 235 yX1_moveBy, Cond.instanceMethod yX1_moveBy, Cond.selects RX1 yX1_moveBy yX1_moveBy, Cond.code yX1_moveBy cX1_moveBy 5 none, Cond.methodLink RX3 238 yX1_isGood, Cond.instanceMethod yX1_isGood, Cond.selects RX1 yX1_isGood yX1_isGood, Cond.code yX1_isGood cX1_isGood 2 (some .boolean), Cond.methodLink RX3 88 yX0_moveTo, Cond.instanceMethod yX0_moveTo, Cond.selects RX0 yX0_moveTo yX0_moveTo, Cond.initialized RX0, Cond.code yX0_moveTo cX0_moveTo 5 (some .boolean), Cond.fieldLink RX0 10 "PairFinder$Body" "tight" "LPairFinder$Box;", Cond.fieldLink RX0 16 "PairFinder$Body" "wide" "LPairFinder$Box;", Cond.fieldLink RX0 35 "PairFinder$Body" "touched" "Z"]
def wsX3_shift_r3 : List Cond := [Cond.methodLink RX0 23 yX1_copyFrom, Cond.methodLink RX0 45 yX1_liesIn, Cond.instanceMethod yX1_liesIn, Cond.selects RX1 yX1_liesIn yX1_liesIn, Cond.code yX1_liesIn cX1_liesIn 3 (some .boolean), Cond.methodLink RX0 27 yX1_widen, Cond.instanceMethod yX1_widen, Cond.selects RX1 yX1_widen yX1_widen, Cond.code yX1_widen cX1_widen 4 none, Cond.methodLink RX1 21 yX1_widenAxis, Cond.instanceMethod yX1_widenAxis, Cond.selects RX1 yX1_widenAxis yX1_widenAxis, Cond.code yX1_widenAxis cX1_widenAxis 5 none, Cond.constantFloat RX1 25 (1048576000)]
def wsX3_shift : List Cond := .code yX3_shift cX3_shift 8 (some .int) :: ((wsX3_shift_r1 ++ (wsX3_shift_r2 ++ wsX3_shift_r3)) ++ wsX30 ++ wsX00 ++ wsX10 ++ (vx_atS RX3 100 "java/lang/IndexOutOfBoundsException" ["java/lang/RuntimeException", "java/lang/Exception"]).filter goodWord ++ (vx_atS RX3 73 "java/lang/IllegalArgumentException" ["java/lang/RuntimeException", "java/lang/Exception"]).filter goodWord)
def wsX3_filter : List Cond := .code yX3_filter cX3_filter 4 none :: ([.fieldLink RX3 18 "PairFinder" "bodies" "[LPairFinder$Body;", .methodLink RX3 85 yX3_requireThere, .instanceMethod yX3_requireThere, .selects RX3 yX3_requireThere yX3_requireThere, .initialized RX3, .code yX3_requireThere cX3_requireThere 2 none, .classLink RX3 96 "java/lang/IndexOutOfBoundsException", .initialized "java/lang/IndexOutOfBoundsException", .fieldLink RX3 101 "PairFinder$Body" "there" "Z", .methodLink RX3 92 yX3_isBodyNumber, .static yX3_isBodyNumber, .code yX3_isBodyNumber cX3_isBodyNumber 1 (some .boolean), .methodLink RX3 109 yX0_setFilter, .instanceMethod yX0_setFilter, .selects RX0 yX0_setFilter yX0_setFilter, .initialized RX0, .code yX0_setFilter cX0_setFilter 3 none, .fieldLink RX0 38 "PairFinder$Body" "group" "I", .fieldLink RX0 42 "PairFinder$Body" "mask" "I", .fieldLink RX0 35 "PairFinder$Body" "touched" "Z"] ++ wsX30 ++ wsX00 ++ (vx_atS RX3 100 "java/lang/IndexOutOfBoundsException" ["java/lang/RuntimeException", "java/lang/Exception"]).filter goodWord)
def wsX3_pairCode : List Cond := .code yX3_pairCode cX3_pairCode 2 (some .int) :: ([])
def wsX3_arePair : List Cond := .code yX3_arePair cX3_arePair 3 (some .boolean) :: ([.fieldLink RX3 26 "PairFinder" "pairs" "LPairFinder$PairSet;", .methodLink RX3 117 yX3_pairCode, .static yX3_pairCode, .initialized RX3, .code yX3_pairCode cX3_pairCode 2 (some .int), .methodLink RX3 249 yX2_holds, .instanceMethod yX2_holds, .selects RX2 yX2_holds yX2_holds, .initialized RX2, .code yX2_holds cX2_holds 2 (some .boolean), .fieldLink RX2 11 "PairFinder$PairSet" "words" "[J"] ++ wsX30 ++ wsX20)
def wsX3_remove_r1 : List Cond := [Cond.fieldLink RX3 26 "PairFinder" "pairs" "LPairFinder$PairSet;", Cond.fieldLink RX3 18 "PairFinder" "bodies" "[LPairFinder$Body;", Cond.fieldLink RX3 128 "PairFinder" "bodiesThere" "I", Cond.methodLink RX3 85 yX3_requireThere, Cond.instanceMethod yX3_requireThere, Cond.selects RX3 yX3_requireThere yX3_requireThere, Cond.initialized RX3, Cond.code yX3_requireThere cX3_requireThere 2 none, Cond.classLink RX3 96 "java/lang/IndexOutOfBoundsException", Cond.initialized "java/lang/IndexOutOfBoundsException", Cond.fieldLink RX3 101 "PairFinder$Body" "there" "Z", Cond.methodLink RX3 92 yX3_isBodyNumber, Cond.static yX3_isBodyNumber, Cond.code yX3_isBodyNumber cX3_isBodyNumber 1 (some .boolean), Cond.methodLink RX3 113 yX3_arePair, Cond.instanceMethod yX3_arePair, Cond.selects RX3 yX3_arePair yX3_arePair, Cond.code yX3_arePair cX3_arePair 3 (some .boolean), Cond.methodLink RX3 117 yX3_pairCode, Cond.static yX3_pairCode, Cond.code yX3_pairCode cX3_pairCode 2 (some .int), Cond.methodLink RX3 249 yX2_holds, Cond.instanceMethod yX2_holds, Cond.selects RX2 yX2_holds yX2_holds]
def wsX3_remove_r2 : List Cond := [Cond.initialized RX2, Cond.code yX2_holds cX2_holds 2 (some .boolean), Cond.fieldLink RX2 11 "PairFinder$PairSet" "words" "[J", Cond.methodLink RX3 121 yX2_put, Cond.instanceMethod yX2_put, Cond.selects RX2 yX2_put yX2_put, Cond.code yX2_put cX2_put 3 none, Cond.fieldLink RX2 19 "PairFinder$PairSet" "size" "I", Cond.methodLink RX2 15 yX2_holds, Cond.methodLink RX3 125 yX0_leave, Cond.instanceMethod yX0_leave, Cond.selects RX0 yX0_leave yX0_leave, Cond.initialized RX0, Cond.code yX0_leave cX0_leave 1 none, Cond.fieldLink RX0 19 "PairFinder$Body" "there" "Z", Cond.fieldLink RX0 35 "PairFinder$Body" "touched" "Z"]
def wsX3_remove : List Cond := .code yX3_remove cX3_remove 4 (some .int) :: ((wsX3_remove_r1 ++ wsX3_remove_r2) ++ wsX30 ++ wsX00 ++ wsX20 ++ (vx_atS RX3 100 "java/lang/IndexOutOfBoundsException" ["java/lang/RuntimeException", "java/lang/Exception"]).filter goodWord)
def wsX3_reviewPairsOf_r1 : List Cond := [Cond.fieldLink RX3 18 "PairFinder" "bodies" "[LPairFinder$Body;", Cond.fieldLink RX3 136 "PairFinder$Body" "touched" "Z", Cond.fieldLink RX3 30 "PairFinder" "nextPairs" "LPairFinder$PairSet;", Cond.methodLink RX3 117 yX3_pairCode, Cond.static yX3_pairCode, Cond.initialized RX3, Cond.code yX3_pairCode cX3_pairCode 2 (some .int), Cond.methodLink RX3 245 yX0_pairsWith, Cond.instanceMethod yX0_pairsWith, Cond.selects RX0 yX0_pairsWith yX0_pairsWith, Cond.initialized RX0, Cond.code yX0_pairsWith cX0_pairsWith 2 (some .boolean), Cond.fieldLink RX0 19 "PairFinder$Body" "there" "Z", Cond.fieldLink RX0 38 "PairFinder$Body" "group" "I", Cond.fieldLink RX0 42 "PairFinder$Body" "mask" "I", Cond.fieldLink RX0 16 "PairFinder$Body" "wide" "LPairFinder$Box;", Cond.methodLink RX0 49 yX1_overlaps, Cond.instanceMethod yX1_overlaps, Cond.selects RX1 yX1_overlaps yX1_overlaps, Cond.initialized RX1, Cond.code yX1_overlaps cX1_overlaps 3 (some .boolean), Cond.fieldLink RX1 11 "PairFinder$Box" "numbers" "[F", Cond.methodLink RX3 121 yX2_put, Cond.instanceMethod yX2_put]
def wsX3_reviewPairsOf_r2 : List Cond := [Cond.selects RX2 yX2_put yX2_put, Cond.initialized RX2, Cond.code yX2_put cX2_put 3 none, Cond.fieldLink RX2 11 "PairFinder$PairSet" "words" "[J", Cond.fieldLink RX2 19 "PairFinder$PairSet" "size" "I", Cond.methodLink RX2 15 yX2_holds, Cond.instanceMethod yX2_holds, Cond.selects RX2 yX2_holds yX2_holds, Cond.code yX2_holds cX2_holds 2 (some .boolean)]
def wsX3_reviewPairsOf : List Cond := .code yX3_reviewPairsOf cX3_reviewPairsOf 5 none :: ((wsX3_reviewPairsOf_r1 ++ wsX3_reviewPairsOf_r2) ++ wsX30 ++ wsX00 ++ wsX10 ++ wsX20)
def wsX3_update_r1 : List Cond := [Cond.classLink RX3 145 "java/lang/IllegalStateException", Cond.initialized "java/lang/IllegalStateException", Cond.fieldLink RX3 30 "PairFinder" "nextPairs" "LPairFinder$PairSet;", Cond.fieldLink RX3 26 "PairFinder" "pairs" "LPairFinder$PairSet;", Cond.fieldLink RX3 18 "PairFinder" "bodies" "[LPairFinder$Body;", Cond.fieldLink RX3 136 "PairFinder$Body" "touched" "Z", Cond.fieldLink RX3 142 "PairFinder$PairSet" "size" "I", Cond.fieldLink RX3 33 "PairFinder" "begun" "LPairFinder$PairSet;", Cond.fieldLink RX3 36 "PairFinder" "ended" "LPairFinder$PairSet;", Cond.fieldLink RX3 154 "PairFinder" "updates" "I", Cond.methodLink RX3 132 yX2_copyFrom, Cond.instanceMethod yX2_copyFrom, Cond.selects RX2 yX2_copyFrom yX2_copyFrom, Cond.initialized RX2, Cond.code yX2_copyFrom cX2_copyFrom 2 none, Cond.fieldLink RX2 11 "PairFinder$PairSet" "words" "[J", Cond.methodLink RX2 23 arraycopyName, Cond.native arraycopyName, Cond.static arraycopyName, Cond.initialized "java/lang/System", Cond.fieldLink RX2 19 "PairFinder$PairSet" "size" "I", Cond.methodLink RX3 139 yX3_reviewPairsOf, Cond.instanceMethod yX3_reviewPairsOf, Cond.selects RX3 yX3_reviewPairsOf yX3_reviewPairsOf]
def wsX3_update_r2 : List Cond := [Cond.initialized RX3, Cond.code yX3_reviewPairsOf cX3_reviewPairsOf 5 none, Cond.methodLink RX3 117 yX3_pairCode, Cond.static yX3_pairCode, Cond.code yX3_pairCode cX3_pairCode 2 (some .int), Cond.methodLink RX3 245 yX0_pairsWith, Cond.instanceMethod yX0_pairsWith, Cond.selects RX0 yX0_pairsWith yX0_pairsWith, Cond.initialized RX0, Cond.code yX0_pairsWith cX0_pairsWith 2 (some .boolean), Cond.fieldLink RX0 19 "PairFinder$Body" "there" "Z", Cond.fieldLink RX0 38 "PairFinder$Body" "group" "I", Cond.fieldLink RX0 42 "PairFinder$Body" "mask" "I", Cond.fieldLink RX0 16 "PairFinder$Body" "wide" "LPairFinder$Box;", Cond.methodLink RX0 49 yX1_overlaps, Cond.instanceMethod yX1_overlaps, Cond.selects RX1 yX1_overlaps yX1_overlaps, Cond.initialized RX1, Cond.code yX1_overlaps cX1_overlaps 3 (some .boolean), Cond.fieldLink RX1 11 "PairFinder$Box" "numbers" "[F", Cond.methodLink RX3 121 yX2_put, Cond.instanceMethod yX2_put, Cond.selects RX2 yX2_put yX2_put, Cond.code yX2_put cX2_put 3 none]
def wsX3_update_r3 : List Cond := [Cond.methodLink RX2 15 yX2_holds, Cond.instanceMethod yX2_holds, Cond.selects RX2 yX2_holds yX2_holds, Cond.code yX2_holds cX2_holds 2 (some .boolean), Cond.methodLink RX3 150 yX2_setToDifference, Cond.instanceMethod yX2_setToDifference, Cond.selects RX2 yX2_setToDifference yX2_setToDifference, Cond.code yX2_setToDifference cX2_setToDifference 4 none, Cond.constantLong RX2 29 (-1), Cond.methodLink RX2 31 yJ13_bitCount_95d88, Cond.static yJ13_bitCount_95d88, Cond.initialized RJ13, Cond.code yJ13_bitCount_95d88 cJ13_bitCount_95d88 2 (some .int), Cond.constantLong RJ13 314 (6148914691236517205), Cond.constantLong RJ13 316 (3689348814741910323), Cond.constantLong RJ13 318 (1085102592571150095)]
def wsX3_update : List Cond := .code yX3_update cX3_update 3 (some .int) :: ((wsX3_update_r1 ++ (wsX3_update_r2 ++ wsX3_update_r3)) ++ wsX30 ++ wsX00 ++ wsX20 ++ wsX10 ++ (vx_atS RX3 149 "java/lang/IllegalStateException" ["java/lang/RuntimeException", "java/lang/Exception"]).filter goodWord)
def wsX3_pair : List Cond := .code yX3_pair cX3_pair 4 (some .int) :: ([.classLink RX3 96 "java/lang/IndexOutOfBoundsException", .initialized "java/lang/IndexOutOfBoundsException", .fieldLink RX3 26 "PairFinder" "pairs" "LPairFinder$PairSet;", .fieldLink RX3 33 "PairFinder" "begun" "LPairFinder$PairSet;", .fieldLink RX3 36 "PairFinder" "ended" "LPairFinder$PairSet;", .fieldLink RX3 142 "PairFinder$PairSet" "size" "I", .methodLink RX3 161 yX2_codeAt, .instanceMethod yX2_codeAt, .selects RX2 yX2_codeAt yX2_codeAt, .initialized RX2, .code yX2_codeAt cX2_codeAt 5 (some .int), .fieldLink RX2 11 "PairFinder$PairSet" "words" "[J", .methodLink RX2 31 yJ13_bitCount_95d88, .static yJ13_bitCount_95d88, .initialized RJ13, .code yJ13_bitCount_95d88 cJ13_bitCount_95d88 2 (some .int), .constantLong RJ13 314 (6148914691236517205), .constantLong RJ13 316 (3689348814741910323), .constantLong RJ13 318 (1085102592571150095), .methodLink RX2 37 yX2_bitAt, .static yX2_bitAt, .code yX2_bitAt cX2_bitAt 5 (some .int)] ++ wsX30 ++ wsX20 ++ (vx_atS RX3 100 "java/lang/IndexOutOfBoundsException" ["java/lang/RuntimeException", "java/lang/Exception"]).filter goodWord)
def wsX3_paired_r1 : List Cond := [Cond.methodLink RX3 85 yX3_requireThere, Cond.instanceMethod yX3_requireThere, Cond.selects RX3 yX3_requireThere yX3_requireThere, Cond.initialized RX3, Cond.code yX3_requireThere cX3_requireThere 2 none, Cond.classLink RX3 96 "java/lang/IndexOutOfBoundsException", Cond.initialized "java/lang/IndexOutOfBoundsException", Cond.fieldLink RX3 18 "PairFinder" "bodies" "[LPairFinder$Body;", Cond.fieldLink RX3 101 "PairFinder$Body" "there" "Z", Cond.methodLink RX3 92 yX3_isBodyNumber, Cond.static yX3_isBodyNumber, Cond.code yX3_isBodyNumber cX3_isBodyNumber 1 (some .boolean), Cond.methodLink RX3 113 yX3_arePair, Cond.instanceMethod yX3_arePair, Cond.selects RX3 yX3_arePair yX3_arePair, Cond.code yX3_arePair cX3_arePair 3 (some .boolean), Cond.fieldLink RX3 26 "PairFinder" "pairs" "LPairFinder$PairSet;", Cond.methodLink RX3 117 yX3_pairCode, Cond.static yX3_pairCode, Cond.code yX3_pairCode cX3_pairCode 2 (some .int), Cond.methodLink RX3 249 yX2_holds, Cond.instanceMethod yX2_holds, Cond.selects RX2 yX2_holds yX2_holds, Cond.initialized RX2]
def wsX3_paired_r2 : List Cond := [Cond.code yX2_holds cX2_holds 2 (some .boolean), Cond.fieldLink RX2 11 "PairFinder$PairSet" "words" "[J"]
def wsX3_paired : List Cond := .code yX3_paired cX3_paired 3 (some .boolean) :: ((wsX3_paired_r1 ++ wsX3_paired_r2) ++ wsX30 ++ wsX00 ++ wsX20 ++ (vx_atS RX3 100 "java/lang/IndexOutOfBoundsException" ["java/lang/RuntimeException", "java/lang/Exception"]).filter goodWord)
def wsX3_appendFound : List Cond := .code yX3_appendFound cX3_appendFound 3 none :: ([.fieldLink RX3 165 "PairFinder" "foundSize" "I", .fieldLink RX3 39 "PairFinder" "foundBodies" "[I", .fieldLink RX3 43 "PairFinder" "foundFloats" "[F"] ++ wsX30)
def wsX3_overlapping_r1 : List Cond := [Cond.fieldLink RX3 165 "PairFinder" "foundSize" "I", Cond.fieldLink RX3 18 "PairFinder" "bodies" "[LPairFinder$Body;", Cond.fieldLink RX3 101 "PairFinder$Body" "there" "Z", Cond.fieldLink RX3 168 "PairFinder$Body" "group" "I", Cond.fieldLink RX3 171 "PairFinder$Body" "wide" "LPairFinder$Box;", Cond.fieldLink RX3 10 "PairFinder" "pad" "LPairFinder$Box;", Cond.methodLink RX3 58 yX3_requirePadIsBox, Cond.instanceMethod yX3_requirePadIsBox, Cond.selects RX3 yX3_requirePadIsBox yX3_requirePadIsBox, Cond.initialized RX3, Cond.code yX3_requirePadIsBox cX3_requirePadIsBox 1 none, Cond.classLink RX3 69 "java/lang/IllegalArgumentException", Cond.initialized "java/lang/IllegalArgumentException", Cond.methodLink RX3 220 yX1_isBox, Cond.instanceMethod yX1_isBox, Cond.selects RX1 yX1_isBox yX1_isBox, Cond.initialized RX1, Cond.code yX1_isBox cX1_isBox 2 (some .boolean), Cond.fieldLink RX1 11 "PairFinder$Box" "numbers" "[F", Cond.methodLink RX3 174 yX1_overlaps, Cond.instanceMethod yX1_overlaps, Cond.selects RX1 yX1_overlaps yX1_overlaps, Cond.code yX1_overlaps cX1_overlaps 3 (some .boolean), Cond.methodLink RX3 178 yX3_appendFound]
def wsX3_overlapping_r2 : List Cond := [Cond.instanceMethod yX3_appendFound, Cond.selects RX3 yX3_appendFound yX3_appendFound, Cond.code yX3_appendFound cX3_appendFound 3 none, Cond.fieldLink RX3 39 "PairFinder" "foundBodies" "[I", Cond.fieldLink RX3 43 "PairFinder" "foundFloats" "[F"]
def wsX3_overlapping : List Cond := .code yX3_overlapping cX3_overlapping 4 (some .int) :: ((wsX3_overlapping_r1 ++ wsX3_overlapping_r2) ++ wsX30 ++ wsX00 ++ wsX10 ++ (vx_atS RX3 73 "java/lang/IllegalArgumentException" ["java/lang/RuntimeException", "java/lang/Exception"]).filter goodWord)
def wsX3_meeting : List Cond := .code yX3_meeting cX3_meeting 5 (some .int) :: ([.fieldLink RX3 165 "PairFinder" "foundSize" "I", .fieldLink RX3 18 "PairFinder" "bodies" "[LPairFinder$Body;", .fieldLink RX3 101 "PairFinder$Body" "there" "Z", .fieldLink RX3 168 "PairFinder$Body" "group" "I", .fieldLink RX3 171 "PairFinder$Body" "wide" "LPairFinder$Box;", .fieldLink RX3 10 "PairFinder" "pad" "LPairFinder$Box;", .constantFloat RX3 186 (3212836864), .methodLink RX3 182 yX1_enterOfLine, .instanceMethod yX1_enterOfLine, .selects RX1 yX1_enterOfLine yX1_enterOfLine, .initialized RX1, .code yX1_enterOfLine cX1_enterOfLine 11 (some .float), .fieldLink RX1 11 "PairFinder$Box" "numbers" "[F", .constantFloat RX1 30 (3212836864), .methodLink RX3 178 yX3_appendFound, .instanceMethod yX3_appendFound, .selects RX3 yX3_appendFound yX3_appendFound, .initialized RX3, .code yX3_appendFound cX3_appendFound 3 none, .fieldLink RX3 39 "PairFinder" "foundBodies" "[I", .fieldLink RX3 43 "PairFinder" "foundFloats" "[F"] ++ wsX30 ++ wsX00 ++ wsX10)
def wsX3_requireFound : List Cond := .code yX3_requireFound cX3_requireFound 2 none :: ([.classLink RX3 96 "java/lang/IndexOutOfBoundsException", .initialized "java/lang/IndexOutOfBoundsException", .fieldLink RX3 165 "PairFinder" "foundSize" "I"] ++ wsX30 ++ (vx_atS RX3 100 "java/lang/IndexOutOfBoundsException" ["java/lang/RuntimeException", "java/lang/Exception"]).filter goodWord)
def wsX3_found : List Cond := .code yX3_found cX3_found 2 (some .int) :: ([.fieldLink RX3 39 "PairFinder" "foundBodies" "[I", .methodLink RX3 187 yX3_requireFound, .instanceMethod yX3_requireFound, .selects RX3 yX3_requireFound yX3_requireFound, .initialized RX3, .code yX3_requireFound cX3_requireFound 2 none, .classLink RX3 96 "java/lang/IndexOutOfBoundsException", .initialized "java/lang/IndexOutOfBoundsException", .fieldLink RX3 165 "PairFinder" "foundSize" "I"] ++ wsX30 ++ (vx_atS RX3 100 "java/lang/IndexOutOfBoundsException" ["java/lang/RuntimeException", "java/lang/Exception"]).filter goodWord)
def wsX3_where : List Cond := .code yX3_where cX3_where 2 (some .float) :: ([.fieldLink RX3 43 "PairFinder" "foundFloats" "[F", .methodLink RX3 187 yX3_requireFound, .instanceMethod yX3_requireFound, .selects RX3 yX3_requireFound yX3_requireFound, .initialized RX3, .code yX3_requireFound cX3_requireFound 2 none, .classLink RX3 96 "java/lang/IndexOutOfBoundsException", .initialized "java/lang/IndexOutOfBoundsException", .fieldLink RX3 165 "PairFinder" "foundSize" "I"] ++ wsX30 ++ (vx_atS RX3 100 "java/lang/IndexOutOfBoundsException" ["java/lang/RuntimeException", "java/lang/Exception"]).filter goodWord)
def wsX3_nearest : List Cond := .code yX3_nearest cX3_nearest 3 (some .int) :: ([.fieldLink RX3 165 "PairFinder" "foundSize" "I", .fieldLink RX3 43 "PairFinder" "foundFloats" "[F", .fieldLink RX3 39 "PairFinder" "foundBodies" "[I"] ++ wsX30)
def wsX3_corner : List Cond := .code yX3_corner cX3_corner 3 (some .float) :: ([.classLink RX3 96 "java/lang/IndexOutOfBoundsException", .initialized "java/lang/IndexOutOfBoundsException", .fieldLink RX3 18 "PairFinder" "bodies" "[LPairFinder$Body;", .fieldLink RX3 171 "PairFinder$Body" "wide" "LPairFinder$Box;", .fieldLink RX3 192 "PairFinder$Box" "numbers" "[F", .fieldLink RX3 195 "PairFinder$Body" "tight" "LPairFinder$Box;", .methodLink RX3 85 yX3_requireThere, .instanceMethod yX3_requireThere, .selects RX3 yX3_requireThere yX3_requireThere, .initialized RX3, .code yX3_requireThere cX3_requireThere 2 none, .fieldLink RX3 101 "PairFinder$Body" "there" "Z", .methodLink RX3 92 yX3_isBodyNumber, .static yX3_isBodyNumber, .code yX3_isBodyNumber cX3_isBodyNumber 1 (some .boolean)] ++ wsX30 ++ wsX00 ++ wsX10 ++ (vx_atS RX3 100 "java/lang/IndexOutOfBoundsException" ["java/lang/RuntimeException", "java/lang/Exception"]).filter goodWord)
def wsX3_pairsOf : List Cond := .code yX3_pairsOf cX3_pairsOf 4 (some .int) :: ([.methodLink RX3 113 yX3_arePair, .instanceMethod yX3_arePair, .selects RX3 yX3_arePair yX3_arePair, .initialized RX3, .code yX3_arePair cX3_arePair 3 (some .boolean), .fieldLink RX3 26 "PairFinder" "pairs" "LPairFinder$PairSet;", .methodLink RX3 117 yX3_pairCode, .static yX3_pairCode, .code yX3_pairCode cX3_pairCode 2 (some .int), .methodLink RX3 249 yX2_holds, .instanceMethod yX2_holds, .selects RX2 yX2_holds yX2_holds, .initialized RX2, .code yX2_holds cX2_holds 2 (some .boolean), .fieldLink RX2 11 "PairFinder$PairSet" "words" "[J"] ++ wsX30 ++ wsX20)
def wsX3_about_r1 : List Cond := [Cond.classLink RX3 96 "java/lang/IndexOutOfBoundsException", Cond.initialized "java/lang/IndexOutOfBoundsException", Cond.fieldLink RX3 18 "PairFinder" "bodies" "[LPairFinder$Body;", Cond.fieldLink RX3 168 "PairFinder$Body" "group" "I", Cond.fieldLink RX3 198 "PairFinder$Body" "mask" "I", Cond.fieldLink RX3 136 "PairFinder$Body" "touched" "Z", Cond.methodLink RX3 85 yX3_requireThere, Cond.instanceMethod yX3_requireThere, Cond.selects RX3 yX3_requireThere yX3_requireThere, Cond.initialized RX3, Cond.code yX3_requireThere cX3_requireThere 2 none, Cond.fieldLink RX3 101 "PairFinder$Body" "there" "Z", Cond.methodLink RX3 92 yX3_isBodyNumber, Cond.static yX3_isBodyNumber, Cond.code yX3_isBodyNumber cX3_isBodyNumber 1 (some .boolean), Cond.methodLink RX3 201 yX3_pairsOf, Cond.instanceMethod yX3_pairsOf, Cond.selects RX3 yX3_pairsOf yX3_pairsOf, Cond.code yX3_pairsOf cX3_pairsOf 4 (some .int), Cond.methodLink RX3 113 yX3_arePair, Cond.instanceMethod yX3_arePair, Cond.selects RX3 yX3_arePair yX3_arePair, Cond.code yX3_arePair cX3_arePair 3 (some .boolean), Cond.fieldLink RX3 26 "PairFinder" "pairs" "LPairFinder$PairSet;"]
def wsX3_about_r2 : List Cond := [Cond.methodLink RX3 117 yX3_pairCode, Cond.static yX3_pairCode, Cond.code yX3_pairCode cX3_pairCode 2 (some .int), Cond.methodLink RX3 249 yX2_holds, Cond.instanceMethod yX2_holds, Cond.selects RX2 yX2_holds yX2_holds, Cond.initialized RX2, Cond.code yX2_holds cX2_holds 2 (some .boolean), Cond.fieldLink RX2 11 "PairFinder$PairSet" "words" "[J"]
def wsX3_about : List Cond := .code yX3_about cX3_about 3 (some .int) :: ((wsX3_about_r1 ++ wsX3_about_r2) ++ wsX30 ++ wsX00 ++ wsX20 ++ (vx_atS RX3 100 "java/lang/IndexOutOfBoundsException" ["java/lang/RuntimeException", "java/lang/Exception"]).filter goodWord)
def wsX3_touchedBodies : List Cond := .code yX3_touchedBodies cX3_touchedBodies 3 (some .int) :: ([.fieldLink RX3 18 "PairFinder" "bodies" "[LPairFinder$Body;", .fieldLink RX3 136 "PairFinder$Body" "touched" "Z"] ++ wsX30 ++ wsX00)
def wsX3_count : List Cond := .code yX3_count cX3_count 2 (some .int) :: ([.classLink RX3 96 "java/lang/IndexOutOfBoundsException", .initialized "java/lang/IndexOutOfBoundsException", .fieldLink RX3 128 "PairFinder" "bodiesThere" "I", .fieldLink RX3 26 "PairFinder" "pairs" "LPairFinder$PairSet;", .fieldLink RX3 142 "PairFinder$PairSet" "size" "I", .fieldLink RX3 33 "PairFinder" "begun" "LPairFinder$PairSet;", .fieldLink RX3 36 "PairFinder" "ended" "LPairFinder$PairSet;", .fieldLink RX3 154 "PairFinder" "updates" "I", .fieldLink RX3 165 "PairFinder" "foundSize" "I", .methodLink RX3 206 yX3_touchedBodies, .instanceMethod yX3_touchedBodies, .selects RX3 yX3_touchedBodies yX3_touchedBodies, .initialized RX3, .code yX3_touchedBodies cX3_touchedBodies 3 (some .int), .fieldLink RX3 18 "PairFinder" "bodies" "[LPairFinder$Body;", .fieldLink RX3 136 "PairFinder$Body" "touched" "Z"] ++ wsX30 ++ wsX20 ++ wsX00 ++ (vx_atS RX3 100 "java/lang/IndexOutOfBoundsException" ["java/lang/RuntimeException", "java/lang/Exception"]).filter goodWord)
def wsX4_init : List Cond := .code yX4_init cX4_init 1 none :: ([.methodLink RX4 1 objectInit, .instanceMethod objectInit, .code objectInit ⟨#[0xb1]⟩ 1 none, .arrayClass .float, .fieldLink RX4 7 "PairFinderModel" "pad" "[F", .arrayClass .boolean, .fieldLink RX4 13 "PairFinderModel" "there" "[Z", .fieldLink RX4 17 "PairFinderModel" "touched" "[Z", .arrayClass .int, .fieldLink RX4 20 "PairFinderModel" "groups" "[I", .fieldLink RX4 24 "PairFinderModel" "masks" "[I", .fieldLink RX4 27 "PairFinderModel" "tight" "[F", .fieldLink RX4 30 "PairFinderModel" "wide" "[F", .fieldLink RX4 33 "PairFinderModel" "pairs" "[I", .fieldLink RX4 36 "PairFinderModel" "next" "[I", .fieldLink RX4 39 "PairFinderModel" "begun" "[I", .fieldLink RX4 42 "PairFinderModel" "ended" "[I", .fieldLink RX4 45 "PairFinderModel" "list" "[I", .fieldLink RX4 48 "PairFinderModel" "places" "[F", .fieldLink RX4 51 "PairFinderModel" "box" "[F"] ++ wsX40)
def wsX4_thrown : List Cond := .code yX4_thrown cX4_thrown 1 (some .int) :: ([.fieldLink RX4 54 "PairFinderModel" "thrown" "I"] ++ wsX40)
def wsX4_goes : List Cond := .code yX4_goes cX4_goes 3 (some .boolean) :: ([.fieldLink RX4 54 "PairFinderModel" "thrown" "I"] ++ wsX40)
def wsX4_good : List Cond := .code yX4_good cX4_good 1 (some .boolean) :: ([.constantFloat RX4 58 (1182793728), .constantFloat RX4 59 (3330277376)])
def wsX4_slow : List Cond := .code yX4_slow cX4_slow 3 (some .boolean) :: ([.constantFloat RX4 60 (1132462080), .constantFloat RX4 61 (3279945728)])
def wsX4_padIsBox : List Cond := .code yX4_padIsBox cX4_padIsBox 1 (some .boolean) :: ([.fieldLink RX4 7 "PairFinderModel" "pad" "[F"] ++ wsX40)
def wsX4_padCorner : List Cond := .code yX4_padCorner cX4_padCorner 5 none :: ([.fieldLink RX4 7 "PairFinderModel" "pad" "[F", .methodLink RX4 62 yX4_good, .static yX4_good, .initialized RX4, .code yX4_good cX4_good 1 (some .boolean), .constantFloat RX4 58 (1182793728), .constantFloat RX4 59 (3330277376), .methodLink RX4 66 yX4_goes, .instanceMethod yX4_goes, .selects RX4 yX4_goes yX4_goes, .code yX4_goes cX4_goes 3 (some .boolean), .fieldLink RX4 54 "PairFinderModel" "thrown" "I"] ++ wsX40)
def wsX4_low : List Cond := .code yX4_low cX4_low 4 none :: ([.methodLink RX4 70 yX4_padCorner, .instanceMethod yX4_padCorner, .selects RX4 yX4_padCorner yX4_padCorner, .initialized RX4, .code yX4_padCorner cX4_padCorner 5 none, .fieldLink RX4 7 "PairFinderModel" "pad" "[F", .methodLink RX4 62 yX4_good, .static yX4_good, .code yX4_good cX4_good 1 (some .boolean), .constantFloat RX4 58 (1182793728), .constantFloat RX4 59 (3330277376), .methodLink RX4 66 yX4_goes, .instanceMethod yX4_goes, .selects RX4 yX4_goes yX4_goes, .code yX4_goes cX4_goes 3 (some .boolean), .fieldLink RX4 54 "PairFinderModel" "thrown" "I"] ++ wsX40)
def wsX4_high : List Cond := .code yX4_high cX4_high 4 none :: ([.methodLink RX4 70 yX4_padCorner, .instanceMethod yX4_padCorner, .selects RX4 yX4_padCorner yX4_padCorner, .initialized RX4, .code yX4_padCorner cX4_padCorner 5 none, .fieldLink RX4 7 "PairFinderModel" "pad" "[F", .methodLink RX4 62 yX4_good, .static yX4_good, .code yX4_good cX4_good 1 (some .boolean), .constantFloat RX4 58 (1182793728), .constantFloat RX4 59 (3330277376), .methodLink RX4 66 yX4_goes, .instanceMethod yX4_goes, .selects RX4 yX4_goes yX4_goes, .code yX4_goes cX4_goes 3 (some .boolean), .fieldLink RX4 54 "PairFinderModel" "thrown" "I"] ++ wsX40)
def wsX4_known : List Cond := .code yX4_known cX4_known 2 (some .boolean) :: ([.fieldLink RX4 13 "PairFinderModel" "there" "[Z"] ++ wsX40)
def wsX4_widen : List Cond := .code yX4_widen cX4_widen 6 none :: ([.fieldLink RX4 51 "PairFinderModel" "box" "[F", .constantFloat RX4 78 (1048576000), .fieldLink RX4 30 "PairFinderModel" "wide" "[F"] ++ wsX40)
def wsX4_settle : List Cond := .code yX4_settle cX4_settle 6 none :: ([.fieldLink RX4 27 "PairFinderModel" "tight" "[F", .fieldLink RX4 51 "PairFinderModel" "box" "[F", .fieldLink RX4 17 "PairFinderModel" "touched" "[Z", .methodLink RX4 74 yX4_widen, .instanceMethod yX4_widen, .selects RX4 yX4_widen yX4_widen, .initialized RX4, .code yX4_widen cX4_widen 6 none, .constantFloat RX4 78 (1048576000), .fieldLink RX4 30 "PairFinderModel" "wide" "[F"] ++ wsX40)
def wsX4_least : List Cond := .code yX4_least cX4_least 2 (some .int) :: ([.fieldLink RX4 13 "PairFinderModel" "there" "[Z"] ++ wsX40)
def wsX4_put : List Cond := .code yX4_put cX4_put 4 (some .int) :: ([.fieldLink RX4 13 "PairFinderModel" "there" "[Z", .fieldLink RX4 20 "PairFinderModel" "groups" "[I", .fieldLink RX4 24 "PairFinderModel" "masks" "[I", .methodLink RX4 79 yX4_least, .instanceMethod yX4_least, .selects RX4 yX4_least yX4_least, .initialized RX4, .code yX4_least cX4_least 2 (some .int), .methodLink RX4 83 yX4_settle, .instanceMethod yX4_settle, .selects RX4 yX4_settle yX4_settle, .code yX4_settle cX4_settle 6 none, .fieldLink RX4 27 "PairFinderModel" "tight" "[F", .fieldLink RX4 51 "PairFinderModel" "box" "[F", .fieldLink RX4 17 "PairFinderModel" "touched" "[Z", .methodLink RX4 74 yX4_widen, .instanceMethod yX4_widen, .selects RX4 yX4_widen yX4_widen, .code yX4_widen cX4_widen 6 none, .constantFloat RX4 78 (1048576000), .fieldLink RX4 30 "PairFinderModel" "wide" "[F"] ++ wsX40)
def wsX4_takePad : List Cond := .code yX4_takePad cX4_takePad 2 none :: ([.fieldLink RX4 51 "PairFinderModel" "box" "[F", .fieldLink RX4 7 "PairFinderModel" "pad" "[F"] ++ wsX40)
def wsX4_goesOn : List Cond := .code yX4_goesOn cX4_goesOn 7 (some .boolean) :: ([.fieldLink RX4 51 "PairFinderModel" "box" "[F", .methodLink RX4 62 yX4_good, .static yX4_good, .initialized RX4, .code yX4_good cX4_good 1 (some .boolean), .constantFloat RX4 58 (1182793728), .constantFloat RX4 59 (3330277376)] ++ wsX40)
def wsX4_bodies : List Cond := .code yX4_bodies cX4_bodies 3 (some .int) :: ([.fieldLink RX4 13 "PairFinderModel" "there" "[Z"] ++ wsX40)
def wsX4_add_r1 : List Cond := [Cond.methodLink RX4 86 yX4_padIsBox, Cond.instanceMethod yX4_padIsBox, Cond.selects RX4 yX4_padIsBox yX4_padIsBox, Cond.initialized RX4, Cond.code yX4_padIsBox cX4_padIsBox 1 (some .boolean), Cond.fieldLink RX4 7 "PairFinderModel" "pad" "[F", Cond.methodLink RX4 90 yX4_bodies, Cond.instanceMethod yX4_bodies, Cond.selects RX4 yX4_bodies yX4_bodies, Cond.code yX4_bodies cX4_bodies 3 (some .int), Cond.fieldLink RX4 13 "PairFinderModel" "there" "[Z", Cond.methodLink RX4 66 yX4_goes, Cond.instanceMethod yX4_goes, Cond.selects RX4 yX4_goes yX4_goes, Cond.code yX4_goes cX4_goes 3 (some .boolean), Cond.fieldLink RX4 54 "PairFinderModel" "thrown" "I", Cond.methodLink RX4 93 yX4_takePad, Cond.instanceMethod yX4_takePad, Cond.selects RX4 yX4_takePad yX4_takePad, Cond.code yX4_takePad cX4_takePad 2 none, Cond.fieldLink RX4 51 "PairFinderModel" "box" "[F", Cond.methodLink RX4 96 yX4_put, Cond.instanceMethod yX4_put, Cond.selects RX4 yX4_put yX4_put]
def wsX4_add_r2 : List Cond := [Cond.code yX4_put cX4_put 4 (some .int), Cond.fieldLink RX4 20 "PairFinderModel" "groups" "[I", Cond.fieldLink RX4 24 "PairFinderModel" "masks" "[I", Cond.methodLink RX4 79 yX4_least, Cond.instanceMethod yX4_least, Cond.selects RX4 yX4_least yX4_least, Cond.code yX4_least cX4_least 2 (some .int), Cond.methodLink RX4 83 yX4_settle, Cond.instanceMethod yX4_settle, Cond.selects RX4 yX4_settle yX4_settle, Cond.code yX4_settle cX4_settle 6 none, Cond.fieldLink RX4 27 "PairFinderModel" "tight" "[F", Cond.fieldLink RX4 17 "PairFinderModel" "touched" "[Z", Cond.methodLink RX4 74 yX4_widen, Cond.instanceMethod yX4_widen, Cond.selects RX4 yX4_widen yX4_widen, Cond.code yX4_widen cX4_widen 6 none, Cond.constantFloat RX4 78 (1048576000), Cond.fieldLink RX4 30 "PairFinderModel" "wide" "[F"]
def wsX4_add : List Cond := .code yX4_add cX4_add 3 (some .int) :: ((wsX4_add_r1 ++ wsX4_add_r2) ++ wsX40)
def wsX4_addRow_r1 : List Cond := [Cond.methodLink RX4 86 yX4_padIsBox, Cond.instanceMethod yX4_padIsBox, Cond.selects RX4 yX4_padIsBox yX4_padIsBox, Cond.initialized RX4, Cond.code yX4_padIsBox cX4_padIsBox 1 (some .boolean), Cond.fieldLink RX4 7 "PairFinderModel" "pad" "[F", Cond.methodLink RX4 100 yX4_slow, Cond.static yX4_slow, Cond.code yX4_slow cX4_slow 3 (some .boolean), Cond.constantFloat RX4 60 (1132462080), Cond.constantFloat RX4 61 (3279945728), Cond.methodLink RX4 93 yX4_takePad, Cond.instanceMethod yX4_takePad, Cond.selects RX4 yX4_takePad yX4_takePad, Cond.code yX4_takePad cX4_takePad 2 none, Cond.fieldLink RX4 51 "PairFinderModel" "box" "[F", Cond.methodLink RX4 104 yX4_goesOn, Cond.instanceMethod yX4_goesOn, Cond.selects RX4 yX4_goesOn yX4_goesOn, Cond.code yX4_goesOn cX4_goesOn 7 (some .boolean), Cond.methodLink RX4 62 yX4_good, Cond.static yX4_good, Cond.code yX4_good cX4_good 1 (some .boolean), Cond.constantFloat RX4 58 (1182793728)]
def wsX4_addRow_r2 : List Cond := [Cond.constantFloat RX4 59 (3330277376), Cond.methodLink RX4 90 yX4_bodies, Cond.instanceMethod yX4_bodies, Cond.selects RX4 yX4_bodies yX4_bodies, Cond.code yX4_bodies cX4_bodies 3 (some .int), Cond.fieldLink RX4 13 "PairFinderModel" "there" "[Z", Cond.methodLink RX4 66 yX4_goes, Cond.instanceMethod yX4_goes, Cond.selects RX4 yX4_goes yX4_goes, Cond.code yX4_goes cX4_goes 3 (some .boolean), Cond.fieldLink RX4 54 "PairFinderModel" "thrown" "I", Cond.methodLink RX4 96 yX4_put, Cond.instanceMethod yX4_put, Cond.selects RX4 yX4_put yX4_put, Cond.code yX4_put cX4_put 4 (some .int), Cond.fieldLink RX4 20 "PairFinderModel" "groups" "[I", Cond.fieldLink RX4 24 "PairFinderModel" "masks" "[I", Cond.methodLink RX4 79 yX4_least, Cond.instanceMethod yX4_least, Cond.selects RX4 yX4_least yX4_least, Cond.code yX4_least cX4_least 2 (some .int), Cond.methodLink RX4 83 yX4_settle, Cond.instanceMethod yX4_settle, Cond.selects RX4 yX4_settle yX4_settle]
def wsX4_addRow_r3 : List Cond := [Cond.code yX4_settle cX4_settle 6 none, Cond.fieldLink RX4 27 "PairFinderModel" "tight" "[F", Cond.fieldLink RX4 17 "PairFinderModel" "touched" "[Z", Cond.methodLink RX4 74 yX4_widen, Cond.instanceMethod yX4_widen, Cond.selects RX4 yX4_widen yX4_widen, Cond.code yX4_widen cX4_widen 6 none, Cond.constantFloat RX4 78 (1048576000), Cond.fieldLink RX4 30 "PairFinderModel" "wide" "[F"]
def wsX4_addRow : List Cond := .code yX4_addRow cX4_addRow 11 (some .int) :: ((wsX4_addRow_r1 ++ (wsX4_addRow_r2 ++ wsX4_addRow_r3)) ++ wsX40)
def wsX4_moves : List Cond := .code yX4_moves cX4_moves 7 (some .boolean) :: ([.fieldLink RX4 51 "PairFinderModel" "box" "[F", .fieldLink RX4 30 "PairFinderModel" "wide" "[F", .fieldLink RX4 27 "PairFinderModel" "tight" "[F", .methodLink RX4 83 yX4_settle, .instanceMethod yX4_settle, .selects RX4 yX4_settle yX4_settle, .initialized RX4, .code yX4_settle cX4_settle 6 none, .fieldLink RX4 17 "PairFinderModel" "touched" "[Z", .methodLink RX4 74 yX4_widen, .instanceMethod yX4_widen, .selects RX4 yX4_widen yX4_widen, .code yX4_widen cX4_widen 6 none, .constantFloat RX4 78 (1048576000)] ++ wsX40)
def wsX4_move_r1 : List Cond := [Cond.methodLink RX4 107 yX4_known, Cond.instanceMethod yX4_known, Cond.selects RX4 yX4_known yX4_known, Cond.initialized RX4, Cond.code yX4_known cX4_known 2 (some .boolean), Cond.fieldLink RX4 13 "PairFinderModel" "there" "[Z", Cond.methodLink RX4 86 yX4_padIsBox, Cond.instanceMethod yX4_padIsBox, Cond.selects RX4 yX4_padIsBox yX4_padIsBox, Cond.code yX4_padIsBox cX4_padIsBox 1 (some .boolean), Cond.fieldLink RX4 7 "PairFinderModel" "pad" "[F", Cond.methodLink RX4 100 yX4_slow, Cond.static yX4_slow, Cond.code yX4_slow cX4_slow 3 (some .boolean), Cond.constantFloat RX4 60 (1132462080), Cond.constantFloat RX4 61 (3279945728), Cond.methodLink RX4 66 yX4_goes, Cond.instanceMethod yX4_goes, Cond.selects RX4 yX4_goes yX4_goes, Cond.code yX4_goes cX4_goes 3 (some .boolean), Cond.fieldLink RX4 54 "PairFinderModel" "thrown" "I", Cond.methodLink RX4 93 yX4_takePad, Cond.instanceMethod yX4_takePad, Cond.selects RX4 yX4_takePad yX4_takePad]
def wsX4_move_r2 : List Cond := [Cond.code yX4_takePad cX4_takePad 2 none, Cond.fieldLink RX4 51 "PairFinderModel" "box" "[F", Cond.methodLink RX4 111 yX4_moves, Cond.instanceMethod yX4_moves, Cond.selects RX4 yX4_moves yX4_moves, Cond.code yX4_moves cX4_moves 7 (some .boolean), Cond.fieldLink RX4 30 "PairFinderModel" "wide" "[F", Cond.fieldLink RX4 27 "PairFinderModel" "tight" "[F", Cond.methodLink RX4 83 yX4_settle, Cond.instanceMethod yX4_settle, Cond.selects RX4 yX4_settle yX4_settle, Cond.code yX4_settle cX4_settle 6 none, Cond.fieldLink RX4 17 "PairFinderModel" "touched" "[Z", Cond.methodLink RX4 74 yX4_widen, Cond.instanceMethod yX4_widen, Cond.selects RX4 yX4_widen yX4_widen, Cond.code yX4_widen cX4_widen 6 none, Cond.constantFloat RX4 78 (1048576000)]
def wsX4_move : List Cond := .code yX4_move cX4_move 5 (some .boolean) :: ((wsX4_move_r1 ++ wsX4_move_r2) ++ wsX40)
def wsX4_shift_r1 : List Cond := [Cond.fieldLink RX4 51 "PairFinderModel" "box" "[F", Cond.fieldLink RX4 27 "PairFinderModel" "tight" "[F", Cond.fieldLink RX4 13 "PairFinderModel" "there" "[Z", Cond.methodLink RX4 100 yX4_slow, Cond.static yX4_slow, Cond.initialized RX4, Cond.code yX4_slow cX4_slow 3 (some .boolean), Cond.constantFloat RX4 60 (1132462080), Cond.constantFloat RX4 61 (3279945728), Cond.methodLink RX4 66 yX4_goes, Cond.instanceMethod yX4_goes, Cond.selects RX4 yX4_goes yX4_goes, Cond.code yX4_goes cX4_goes 3 (some .boolean), Cond.fieldLink RX4 54 "PairFinderModel" "thrown" "I", Cond.methodLink RX4 104 yX4_goesOn, Cond.instanceMethod yX4_goesOn, Cond.selects RX4 yX4_goesOn yX4_goesOn, Cond.code yX4_goesOn cX4_goesOn 7 (some .boolean), Cond.methodLink RX4 62 yX4_good, Cond.static yX4_good, Cond.code yX4_good cX4_good 1 (some .boolean), Cond.constantFloat RX4 58 (1182793728), Cond.constantFloat RX4 59 (3330277376), Cond.methodLink RX4 111 yX4_moves]
def wsX4_shift_r2 : List Cond := [Cond.instanceMethod yX4_moves, Cond.selects RX4 yX4_moves yX4_moves, Cond.code yX4_moves cX4_moves 7 (some .boolean), Cond.fieldLink RX4 30 "PairFinderModel" "wide" "[F", Cond.methodLink RX4 83 yX4_settle, Cond.instanceMethod yX4_settle, Cond.selects RX4 yX4_settle yX4_settle, Cond.code yX4_settle cX4_settle 6 none, Cond.fieldLink RX4 17 "PairFinderModel" "touched" "[Z", Cond.methodLink RX4 74 yX4_widen, Cond.instanceMethod yX4_widen, Cond.selects RX4 yX4_widen yX4_widen, Cond.code yX4_widen cX4_widen 6 none, Cond.constantFloat RX4 78 (1048576000)]
def wsX4_shift : List Cond := .code yX4_shift cX4_shift 9 (some .int) :: ((wsX4_shift_r1 ++ wsX4_shift_r2) ++ wsX40)
def wsX4_filter : List Cond := .code yX4_filter cX4_filter 4 none :: ([.fieldLink RX4 20 "PairFinderModel" "groups" "[I", .fieldLink RX4 24 "PairFinderModel" "masks" "[I", .fieldLink RX4 17 "PairFinderModel" "touched" "[Z", .methodLink RX4 107 yX4_known, .instanceMethod yX4_known, .selects RX4 yX4_known yX4_known, .initialized RX4, .code yX4_known cX4_known 2 (some .boolean), .fieldLink RX4 13 "PairFinderModel" "there" "[Z", .methodLink RX4 66 yX4_goes, .instanceMethod yX4_goes, .selects RX4 yX4_goes yX4_goes, .code yX4_goes cX4_goes 3 (some .boolean), .fieldLink RX4 54 "PairFinderModel" "thrown" "I"] ++ wsX40)
def wsX4_bit : List Cond := .code yX4_bit cX4_bit 3 (some .boolean) :: ([])
def wsX4_isPair : List Cond := .code yX4_isPair cX4_isPair 3 (some .boolean) :: ([.fieldLink RX4 33 "PairFinderModel" "pairs" "[I", .methodLink RX4 115 yX4_bit, .static yX4_bit, .initialized RX4, .code yX4_bit cX4_bit 3 (some .boolean)] ++ wsX40)
def wsX4_pairsOf : List Cond := .code yX4_pairsOf cX4_pairsOf 4 (some .int) :: ([.methodLink RX4 119 yX4_isPair, .instanceMethod yX4_isPair, .selects RX4 yX4_isPair yX4_isPair, .initialized RX4, .code yX4_isPair cX4_isPair 3 (some .boolean), .fieldLink RX4 33 "PairFinderModel" "pairs" "[I", .methodLink RX4 115 yX4_bit, .static yX4_bit, .code yX4_bit cX4_bit 3 (some .boolean)] ++ wsX40)
def wsX4_remove : List Cond := .code yX4_remove cX4_remove 6 (some .int) :: ([.fieldLink RX4 33 "PairFinderModel" "pairs" "[I", .fieldLink RX4 13 "PairFinderModel" "there" "[Z", .fieldLink RX4 17 "PairFinderModel" "touched" "[Z", .methodLink RX4 107 yX4_known, .instanceMethod yX4_known, .selects RX4 yX4_known yX4_known, .initialized RX4, .code yX4_known cX4_known 2 (some .boolean), .methodLink RX4 66 yX4_goes, .instanceMethod yX4_goes, .selects RX4 yX4_goes yX4_goes, .code yX4_goes cX4_goes 3 (some .boolean), .fieldLink RX4 54 "PairFinderModel" "thrown" "I", .methodLink RX4 123 yX4_pairsOf, .instanceMethod yX4_pairsOf, .selects RX4 yX4_pairsOf yX4_pairsOf, .code yX4_pairsOf cX4_pairsOf 4 (some .int), .methodLink RX4 119 yX4_isPair, .instanceMethod yX4_isPair, .selects RX4 yX4_isPair yX4_isPair, .code yX4_isPair cX4_isPair 3 (some .boolean), .methodLink RX4 115 yX4_bit, .static yX4_bit, .code yX4_bit cX4_bit 3 (some .boolean)] ++ wsX40)
def wsX4_overlap : List Cond := .code yX4_overlap cX4_overlap 5 (some .boolean) :: ([.fieldLink RX4 30 "PairFinderModel" "wide" "[F"] ++ wsX40)
def wsX4_through : List Cond := .code yX4_through cX4_through 3 (some .boolean) :: ([.fieldLink RX4 20 "PairFinderModel" "groups" "[I", .fieldLink RX4 24 "PairFinderModel" "masks" "[I"] ++ wsX40)
def wsX4_bits : List Cond := .code yX4_bits cX4_bits 4 (some .int) :: ([])
def wsX4_look : List Cond := .code yX4_look cX4_look 3 none :: ([.fieldLink RX4 36 "PairFinderModel" "next" "[I", .fieldLink RX4 13 "PairFinderModel" "there" "[Z", .methodLink RX4 127 yX4_through, .instanceMethod yX4_through, .selects RX4 yX4_through yX4_through, .initialized RX4, .code yX4_through cX4_through 3 (some .boolean), .fieldLink RX4 20 "PairFinderModel" "groups" "[I", .fieldLink RX4 24 "PairFinderModel" "masks" "[I", .methodLink RX4 130 yX4_overlap, .instanceMethod yX4_overlap, .selects RX4 yX4_overlap yX4_overlap, .code yX4_overlap cX4_overlap 5 (some .boolean), .fieldLink RX4 30 "PairFinderModel" "wide" "[F"] ++ wsX40)
def wsX4_update_r1 : List Cond := [Cond.fieldLink RX4 36 "PairFinderModel" "next" "[I", Cond.fieldLink RX4 39 "PairFinderModel" "begun" "[I", Cond.fieldLink RX4 33 "PairFinderModel" "pairs" "[I", Cond.fieldLink RX4 42 "PairFinderModel" "ended" "[I", Cond.fieldLink RX4 17 "PairFinderModel" "touched" "[Z", Cond.fieldLink RX4 140 "PairFinderModel" "updates" "I", Cond.methodLink RX4 133 yX4_look, Cond.instanceMethod yX4_look, Cond.selects RX4 yX4_look yX4_look, Cond.initialized RX4, Cond.code yX4_look cX4_look 3 none, Cond.fieldLink RX4 13 "PairFinderModel" "there" "[Z", Cond.methodLink RX4 127 yX4_through, Cond.instanceMethod yX4_through, Cond.selects RX4 yX4_through yX4_through, Cond.code yX4_through cX4_through 3 (some .boolean), Cond.fieldLink RX4 20 "PairFinderModel" "groups" "[I", Cond.fieldLink RX4 24 "PairFinderModel" "masks" "[I", Cond.methodLink RX4 130 yX4_overlap, Cond.instanceMethod yX4_overlap, Cond.selects RX4 yX4_overlap yX4_overlap, Cond.code yX4_overlap cX4_overlap 5 (some .boolean), Cond.fieldLink RX4 30 "PairFinderModel" "wide" "[F", Cond.methodLink RX4 136 yX4_bits]
def wsX4_update_r2 : List Cond := [Cond.static yX4_bits, Cond.code yX4_bits cX4_bits 4 (some .int), Cond.methodLink RX4 66 yX4_goes, Cond.instanceMethod yX4_goes, Cond.selects RX4 yX4_goes yX4_goes, Cond.code yX4_goes cX4_goes 3 (some .boolean), Cond.fieldLink RX4 54 "PairFinderModel" "thrown" "I"]
def wsX4_update : List Cond := .code yX4_update cX4_update 3 (some .int) :: ((wsX4_update_r1 ++ wsX4_update_r2) ++ wsX40)
def wsX4_nth : List Cond := .code yX4_nth cX4_nth 5 (some .int) :: ([])
def wsX4_pair : List Cond := .code yX4_pair cX4_pair 4 (some .int) :: ([.fieldLink RX4 33 "PairFinderModel" "pairs" "[I", .fieldLink RX4 39 "PairFinderModel" "begun" "[I", .fieldLink RX4 42 "PairFinderModel" "ended" "[I", .methodLink RX4 143 yX4_nth, .static yX4_nth, .initialized RX4, .code yX4_nth cX4_nth 5 (some .int), .methodLink RX4 66 yX4_goes, .instanceMethod yX4_goes, .selects RX4 yX4_goes yX4_goes, .code yX4_goes cX4_goes 3 (some .boolean), .fieldLink RX4 54 "PairFinderModel" "thrown" "I"] ++ wsX40)
def wsX4_paired : List Cond := .code yX4_paired cX4_paired 3 (some .boolean) :: ([.methodLink RX4 107 yX4_known, .instanceMethod yX4_known, .selects RX4 yX4_known yX4_known, .initialized RX4, .code yX4_known cX4_known 2 (some .boolean), .fieldLink RX4 13 "PairFinderModel" "there" "[Z", .methodLink RX4 66 yX4_goes, .instanceMethod yX4_goes, .selects RX4 yX4_goes yX4_goes, .code yX4_goes cX4_goes 3 (some .boolean), .fieldLink RX4 54 "PairFinderModel" "thrown" "I", .methodLink RX4 119 yX4_isPair, .instanceMethod yX4_isPair, .selects RX4 yX4_isPair yX4_isPair, .code yX4_isPair cX4_isPair 3 (some .boolean), .fieldLink RX4 33 "PairFinderModel" "pairs" "[I", .methodLink RX4 115 yX4_bit, .static yX4_bit, .code yX4_bit cX4_bit 3 (some .boolean)] ++ wsX40)
def wsX4_overlapping : List Cond := .code yX4_overlapping cX4_overlapping 5 (some .int) :: ([.fieldLink RX4 147 "PairFinderModel" "found" "I", .fieldLink RX4 13 "PairFinderModel" "there" "[Z", .fieldLink RX4 20 "PairFinderModel" "groups" "[I", .fieldLink RX4 30 "PairFinderModel" "wide" "[F", .fieldLink RX4 7 "PairFinderModel" "pad" "[F", .fieldLink RX4 45 "PairFinderModel" "list" "[I", .fieldLink RX4 48 "PairFinderModel" "places" "[F", .methodLink RX4 86 yX4_padIsBox, .instanceMethod yX4_padIsBox, .selects RX4 yX4_padIsBox yX4_padIsBox, .initialized RX4, .code yX4_padIsBox cX4_padIsBox 1 (some .boolean), .methodLink RX4 66 yX4_goes, .instanceMethod yX4_goes, .selects RX4 yX4_goes yX4_goes, .code yX4_goes cX4_goes 3 (some .boolean), .fieldLink RX4 54 "PairFinderModel" "thrown" "I"] ++ wsX40)
def wsX4_enters : List Cond := .code yX4_enters cX4_enters 14 (some .float) :: ([.fieldLink RX4 7 "PairFinderModel" "pad" "[F", .fieldLink RX4 30 "PairFinderModel" "wide" "[F"] ++ wsX40)
def wsX4_meeting : List Cond := .code yX4_meeting cX4_meeting 4 (some .int) :: ([.fieldLink RX4 54 "PairFinderModel" "thrown" "I", .fieldLink RX4 147 "PairFinderModel" "found" "I", .fieldLink RX4 13 "PairFinderModel" "there" "[Z", .fieldLink RX4 20 "PairFinderModel" "groups" "[I", .fieldLink RX4 45 "PairFinderModel" "list" "[I", .fieldLink RX4 48 "PairFinderModel" "places" "[F", .methodLink RX4 150 yX4_enters, .instanceMethod yX4_enters, .selects RX4 yX4_enters yX4_enters, .initialized RX4, .code yX4_enters cX4_enters 14 (some .float), .fieldLink RX4 7 "PairFinderModel" "pad" "[F", .fieldLink RX4 30 "PairFinderModel" "wide" "[F"] ++ wsX40)
def wsX4_found : List Cond := .code yX4_found cX4_found 2 (some .int) :: ([.fieldLink RX4 147 "PairFinderModel" "found" "I", .fieldLink RX4 45 "PairFinderModel" "list" "[I", .methodLink RX4 66 yX4_goes, .instanceMethod yX4_goes, .selects RX4 yX4_goes yX4_goes, .initialized RX4, .code yX4_goes cX4_goes 3 (some .boolean), .fieldLink RX4 54 "PairFinderModel" "thrown" "I"] ++ wsX40)
def wsX4_where : List Cond := .code yX4_where cX4_where 2 (some .float) :: ([.fieldLink RX4 147 "PairFinderModel" "found" "I", .fieldLink RX4 48 "PairFinderModel" "places" "[F", .methodLink RX4 66 yX4_goes, .instanceMethod yX4_goes, .selects RX4 yX4_goes yX4_goes, .initialized RX4, .code yX4_goes cX4_goes 3 (some .boolean), .fieldLink RX4 54 "PairFinderModel" "thrown" "I"] ++ wsX40)
def wsX4_nearest : List Cond := .code yX4_nearest cX4_nearest 3 (some .int) :: ([.fieldLink RX4 54 "PairFinderModel" "thrown" "I", .fieldLink RX4 147 "PairFinderModel" "found" "I", .fieldLink RX4 48 "PairFinderModel" "places" "[F", .fieldLink RX4 45 "PairFinderModel" "list" "[I"] ++ wsX40)
def wsX4_corner : List Cond := .code yX4_corner cX4_corner 3 (some .float) :: ([.fieldLink RX4 30 "PairFinderModel" "wide" "[F", .fieldLink RX4 27 "PairFinderModel" "tight" "[F", .methodLink RX4 107 yX4_known, .instanceMethod yX4_known, .selects RX4 yX4_known yX4_known, .initialized RX4, .code yX4_known cX4_known 2 (some .boolean), .fieldLink RX4 13 "PairFinderModel" "there" "[Z", .methodLink RX4 66 yX4_goes, .instanceMethod yX4_goes, .selects RX4 yX4_goes yX4_goes, .code yX4_goes cX4_goes 3 (some .boolean), .fieldLink RX4 54 "PairFinderModel" "thrown" "I"] ++ wsX40)
def wsX4_about_r1 : List Cond := [Cond.fieldLink RX4 20 "PairFinderModel" "groups" "[I", Cond.fieldLink RX4 24 "PairFinderModel" "masks" "[I", Cond.fieldLink RX4 17 "PairFinderModel" "touched" "[Z", Cond.methodLink RX4 107 yX4_known, Cond.instanceMethod yX4_known, Cond.selects RX4 yX4_known yX4_known, Cond.initialized RX4, Cond.code yX4_known cX4_known 2 (some .boolean), Cond.fieldLink RX4 13 "PairFinderModel" "there" "[Z", Cond.methodLink RX4 66 yX4_goes, Cond.instanceMethod yX4_goes, Cond.selects RX4 yX4_goes yX4_goes, Cond.code yX4_goes cX4_goes 3 (some .boolean), Cond.fieldLink RX4 54 "PairFinderModel" "thrown" "I", Cond.methodLink RX4 123 yX4_pairsOf, Cond.instanceMethod yX4_pairsOf, Cond.selects RX4 yX4_pairsOf yX4_pairsOf, Cond.code yX4_pairsOf cX4_pairsOf 4 (some .int), Cond.methodLink RX4 119 yX4_isPair, Cond.instanceMethod yX4_isPair, Cond.selects RX4 yX4_isPair yX4_isPair, Cond.code yX4_isPair cX4_isPair 3 (some .boolean), Cond.fieldLink RX4 33 "PairFinderModel" "pairs" "[I", Cond.methodLink RX4 115 yX4_bit]
def wsX4_about_r2 : List Cond := [Cond.static yX4_bit, Cond.code yX4_bit cX4_bit 3 (some .boolean)]
def wsX4_about : List Cond := .code yX4_about cX4_about 3 (some .int) :: ((wsX4_about_r1 ++ wsX4_about_r2) ++ wsX40)
def wsX4_count : List Cond := .code yX4_count cX4_count 4 (some .int) :: ([.fieldLink RX4 17 "PairFinderModel" "touched" "[Z", .fieldLink RX4 33 "PairFinderModel" "pairs" "[I", .fieldLink RX4 39 "PairFinderModel" "begun" "[I", .fieldLink RX4 42 "PairFinderModel" "ended" "[I", .fieldLink RX4 140 "PairFinderModel" "updates" "I", .fieldLink RX4 147 "PairFinderModel" "found" "I", .methodLink RX4 66 yX4_goes, .instanceMethod yX4_goes, .selects RX4 yX4_goes yX4_goes, .initialized RX4, .code yX4_goes cX4_goes 3 (some .boolean), .fieldLink RX4 54 "PairFinderModel" "thrown" "I", .methodLink RX4 90 yX4_bodies, .instanceMethod yX4_bodies, .selects RX4 yX4_bodies yX4_bodies, .code yX4_bodies cX4_bodies 3 (some .int), .fieldLink RX4 13 "PairFinderModel" "there" "[Z", .methodLink RX4 136 yX4_bits, .static yX4_bits, .code yX4_bits cX4_bits 4 (some .int)] ++ wsX40)
set_option maxRecDepth 20000 in
theorem ggX0_init_X1_init : GoodIn wsX0_init wsX1_init := goodIn_r _ [10, 11, 2, 3, 12, 13, 14] (by decide +kernel) (by decide +kernel)
set_option maxRecDepth 20000 in
theorem gX0_init_X1_init_n9 : GoodIn wsX0_init (wsX1_init) := ggX0_init_X1_init
set_option maxRecDepth 20000 in
theorem ggX0_appear_X1_copyFrom : GoodIn wsX0_appear wsX1_copyFrom := goodIn_r _ [8, 9, 10, 11, 12, 13, 37] (by decide +kernel) (by decide +kernel)
set_option maxRecDepth 20000 in
theorem gX0_appear_X1_copyFrom : GoodIn wsX0_appear (wsV RX0 23 RX1 yX1_copyFrom wsX1_copyFrom) := goodIn_app (goodIn_of _ (by decide +kernel)) ggX0_appear_X1_copyFrom
set_option maxRecDepth 20000 in
theorem ggX0_appear_X1_widen : GoodIn wsX0_appear wsX1_widen := goodIn_r _ [17, 18, 19, 20, 7, 21, 9, 22, 37] (by decide +kernel) (by decide +kernel)
set_option maxRecDepth 20000 in
theorem gX0_appear_X1_widen : GoodIn wsX0_appear (wsV RX0 27 RX1 yX1_widen wsX1_widen) := goodIn_app (goodIn_of _ (by decide +kernel)) ggX0_appear_X1_widen
set_option maxRecDepth 20000 in
theorem ggX0_appear_X0_setFilter : GoodIn wsX0_appear wsX0_setFilter := goodIn_r _ [27, 28, 29, 30, 31, 32, 33, 34, 35, 36] (by decide +kernel) (by decide +kernel)
set_option maxRecDepth 20000 in
theorem gX0_appear_X0_setFilter : GoodIn wsX0_appear (wsV RX0 31 RX0 yX0_setFilter wsX0_setFilter) := goodIn_app (goodIn_of _ (by decide +kernel)) ggX0_appear_X0_setFilter
set_option maxRecDepth 20000 in
theorem ggX0_moveTo_X1_copyFrom : GoodIn wsX0_moveTo wsX1_copyFrom := goodIn_r _ [8, 9, 10, 11, 12, 13, 33] (by decide +kernel) (by decide +kernel)
set_option maxRecDepth 20000 in
theorem gX0_moveTo_X1_copyFrom : GoodIn wsX0_moveTo (wsV RX0 23 RX1 yX1_copyFrom wsX1_copyFrom) := goodIn_app (goodIn_of _ (by decide +kernel)) ggX0_moveTo_X1_copyFrom
set_option maxRecDepth 20000 in
theorem ggX0_moveTo_X1_liesIn : GoodIn wsX0_moveTo wsX1_liesIn := goodIn_r _ [17, 9, 33] (by decide +kernel) (by decide +kernel)
set_option maxRecDepth 20000 in
theorem gX0_moveTo_X1_liesIn : GoodIn wsX0_moveTo (wsV RX0 45 RX1 yX1_liesIn wsX1_liesIn) := goodIn_app (goodIn_of _ (by decide +kernel)) ggX0_moveTo_X1_liesIn
set_option maxRecDepth 20000 in
theorem ggX0_moveTo_X1_widen : GoodIn wsX0_moveTo wsX1_widen := goodIn_r _ [21, 22, 23, 24, 7, 25, 9, 26, 33] (by decide +kernel) (by decide +kernel)
set_option maxRecDepth 20000 in
theorem gX0_moveTo_X1_widen : GoodIn wsX0_moveTo (wsV RX0 27 RX1 yX1_widen wsX1_widen) := goodIn_app (goodIn_of _ (by decide +kernel)) ggX0_moveTo_X1_widen
set_option maxRecDepth 20000 in
theorem ggX0_pairsWith_X1_overlaps : GoodIn wsX0_pairsWith wsX1_overlaps := goodIn_r _ [9, 10, 17] (by decide +kernel) (by decide +kernel)
set_option maxRecDepth 20000 in
theorem gX0_pairsWith_X1_overlaps : GoodIn wsX0_pairsWith (wsV RX0 49 RX1 yX1_overlaps wsX1_overlaps) := goodIn_app (goodIn_of _ (by decide +kernel)) ggX0_pairsWith_X1_overlaps
set_option maxRecDepth 20000 in
theorem ggX1_widen_X1_widenAxis : GoodIn wsX1_widen wsX1_widenAxis := goodIn_r _ [5, 6, 7, 8] (by decide +kernel) (by decide +kernel)
set_option maxRecDepth 20000 in
theorem gX1_widen_X1_widenAxis : GoodIn wsX1_widen (wsV RX1 21 RX1 yX1_widenAxis wsX1_widenAxis) := goodIn_app (goodIn_of _ (by decide +kernel)) ggX1_widen_X1_widenAxis
set_option maxRecDepth 20000 in
theorem ggX1_isGood_X3_isWithin : GoodIn wsX1_isGood wsX3_isWithin := goodIn_r _ [4] (by decide +kernel) (by decide +kernel)
set_option maxRecDepth 20000 in
theorem gX1_isGood_X3_isWithin_n26 : GoodIn wsX1_isGood (wsX3_isWithin) := ggX1_isGood_X3_isWithin
set_option maxRecDepth 20000 in
theorem ggX2_put_X2_holds : GoodIn wsX2_put wsX2_holds := goodIn_r _ [7, 1, 8, 9] (by decide +kernel) (by decide +kernel)
set_option maxRecDepth 20000 in
theorem gX2_put_X2_holds : GoodIn wsX2_put (wsV RX2 15 RX2 yX2_holds wsX2_holds) := goodIn_app (goodIn_of _ (by decide +kernel)) ggX2_put_X2_holds
set_option maxRecDepth 20000 in
theorem ggX2_setToDifference_J13_bitCount_95d88 : GoodIn wsX2_setToDifference wsJ13_bitCount_95d88 := goodIn_r _ [7, 8, 9, 10] (by decide +kernel) (by decide +kernel)
set_option maxRecDepth 20000 in
theorem gX2_setToDifference_J13_bitCount_95d88 : GoodIn wsX2_setToDifference (va_wsS RX2 31 yJ13_bitCount_95d88 wsJ13_bitCount_95d88) := goodIn_app (goodIn_of _ (by decide +kernel)) ggX2_setToDifference_J13_bitCount_95d88
set_option maxRecDepth 20000 in
theorem ggX2_codeAt_J13_bitCount_95d88 : GoodIn wsX2_codeAt wsJ13_bitCount_95d88 := goodIn_r _ [5, 6, 7, 8] (by decide +kernel) (by decide +kernel)
set_option maxRecDepth 20000 in
theorem gX2_codeAt_J13_bitCount_95d88 : GoodIn wsX2_codeAt (va_wsS RX2 31 yJ13_bitCount_95d88 wsJ13_bitCount_95d88) := goodIn_app (goodIn_of _ (by decide +kernel)) ggX2_codeAt_J13_bitCount_95d88
set_option maxRecDepth 20000 in
theorem ggX2_codeAt_X2_bitAt : GoodIn wsX2_codeAt wsX2_bitAt := goodIn_r _ [12] (by decide +kernel) (by decide +kernel)
set_option maxRecDepth 20000 in
theorem gX2_codeAt_X2_bitAt : GoodIn wsX2_codeAt (va_wsS RX2 37 yX2_bitAt wsX2_bitAt) := goodIn_app (goodIn_of _ (by decide +kernel)) ggX2_codeAt_X2_bitAt
set_option maxRecDepth 20000 in
theorem ggX3_init_X1_init : GoodIn wsX3_init wsX1_init := goodIn_r _ [25, 26, 2, 3, 21, 27, 39] (by decide +kernel) (by decide +kernel)
set_option maxRecDepth 20000 in
theorem gX3_init_X1_init_n9 : GoodIn wsX3_init (wsX1_init) := ggX3_init_X1_init
set_option maxRecDepth 20000 in
theorem ggX3_init_X0_init : GoodIn wsX3_init wsX0_init := goodIn_r _ [29, 30, 2, 3, 31, 5, 6, 32, 33, 24, 25, 26, 21, 27, 39, 52, 53, 54, 55, 56, 57] (by decide +kernel) (by decide +kernel)
set_option maxRecDepth 20000 in
theorem gX3_init_X0_init_n22 : GoodIn wsX3_init (wsX0_init) := ggX3_init_X0_init
set_option maxRecDepth 20000 in
theorem ggX3_init_X2_init : GoodIn wsX3_init wsX2_init := goodIn_r _ [35, 36, 2, 3, 37, 38, 58, 59] (by decide +kernel) (by decide +kernel)
set_option maxRecDepth 20000 in
theorem gX3_init_X2_init_n25 : GoodIn wsX3_init (wsX2_init) := ggX3_init_X2_init
set_option maxRecDepth 20000 in
theorem ggX3_low_X3_requireGood : GoodIn wsX3_low wsX3_requireGood := goodIn_ca (goodIn_r _ [5, 6, 7, 8, 9, 4, 10] (by decide +kernel) (by decide +kernel)) (goodIn_sub (fun _ h => List.mem_cons_of_mem _ (List.mem_append_right _ h)) (by decide +kernel))
set_option maxRecDepth 20000 in
theorem gX3_low_X3_requireGood : GoodIn wsX3_low (va_wsS RX3 50 yX3_requireGood wsX3_requireGood) := goodIn_app (goodIn_of _ (by decide +kernel)) ggX3_low_X3_requireGood
set_option maxRecDepth 20000 in
theorem ggX3_low_X1_setCorner : GoodIn wsX3_low wsX1_setCorner := goodIn_r _ [15, 16, 29] (by decide +kernel) (by decide +kernel)
set_option maxRecDepth 20000 in
theorem gX3_low_X1_setCorner : GoodIn wsX3_low (wsV RX3 54 RX1 yX1_setCorner wsX1_setCorner) := goodIn_app (goodIn_of _ (by decide +kernel)) ggX3_low_X1_setCorner
set_option maxRecDepth 20000 in
theorem ggX3_high_X3_requireGood : GoodIn wsX3_high wsX3_requireGood := goodIn_ca (goodIn_r _ [5, 6, 7, 8, 9, 4, 10] (by decide +kernel) (by decide +kernel)) (goodIn_sub (fun _ h => List.mem_cons_of_mem _ (List.mem_append_right _ h)) (by decide +kernel))
set_option maxRecDepth 20000 in
theorem gX3_high_X3_requireGood : GoodIn wsX3_high (va_wsS RX3 50 yX3_requireGood wsX3_requireGood) := goodIn_app (goodIn_of _ (by decide +kernel)) ggX3_high_X3_requireGood
set_option maxRecDepth 20000 in
theorem ggX3_high_X1_setCorner : GoodIn wsX3_high wsX1_setCorner := goodIn_r _ [15, 16, 29] (by decide +kernel) (by decide +kernel)
set_option maxRecDepth 20000 in
theorem gX3_high_X1_setCorner : GoodIn wsX3_high (wsV RX3 54 RX1 yX1_setCorner wsX1_setCorner) := goodIn_app (goodIn_of _ (by decide +kernel)) ggX3_high_X1_setCorner
set_option maxRecDepth 20000 in
theorem ggX3_add_X3_requirePadIsBox : GoodIn wsX3_add wsX3_requirePadIsBox := goodIn_ca (goodIn_r _ [5, 6, 7, 8, 9, 10, 11, 12, 13, 14, 66, 67, 68, 69, 70, 71, 72, 73, 74, 75, 76, 77, 78] (by decide +kernel) (by decide +kernel)) (goodIn_sub (fun _ h => List.mem_cons_of_mem _ (List.mem_append_left _ (List.mem_append_right _ h))) (by decide +kernel))
set_option maxRecDepth 20000 in
theorem gX3_add_X3_requirePadIsBox : GoodIn wsX3_add (wsV RX3 58 RX3 yX3_requirePadIsBox wsX3_requirePadIsBox) := goodIn_app (goodIn_of _ (by decide +kernel)) ggX3_add_X3_requirePadIsBox
set_option maxRecDepth 20000 in
theorem ggX3_add_X3_requireRoomFor : GoodIn wsX3_add wsX3_requireRoomFor := goodIn_ca (goodIn_r _ [18, 19, 20, 21, 66, 67, 68, 69, 70, 71, 72, 73, 74, 75, 76, 77] (by decide +kernel) (by decide +kernel)) (goodIn_sub (fun _ h => List.mem_cons_of_mem _ (List.mem_append_right _ h)) (by decide +kernel))
set_option maxRecDepth 20000 in
theorem gX3_add_X3_requireRoomFor : GoodIn wsX3_add (wsV RX3 61 RX3 yX3_requireRoomFor wsX3_requireRoomFor) := goodIn_app (goodIn_of _ (by decide +kernel)) ggX3_add_X3_requireRoomFor
set_option maxRecDepth 20000 in
theorem ggX3_add_X3_addBodies : GoodIn wsX3_add wsX3_addBodies := goodIn_r _ [25, 26, 8, 27, 28, 21, 29, 30, 31, 12, 32, 14, 33, 34, 35, 36, 37, 38, 39, 40, 41, 42, 43, 44, 45, 46, 47, 48, 49, 50, 51, 52, 53, 54, 55, 56, 57, 58, 59, 60, 61, 62, 63, 64, 65, 66, 67, 68, 69, 70, 71, 72, 73, 74, 75, 76, 77, 79, 80, 81, 82, 83, 84, 78] (by decide +kernel) (by decide +kernel)
set_option maxRecDepth 20000 in
theorem gX3_add_X3_addBodies : GoodIn wsX3_add (wsV RX3 65 RX3 yX3_addBodies wsX3_addBodies) := goodIn_app (goodIn_of _ (by decide +kernel)) ggX3_add_X3_addBodies
set_option maxRecDepth 20000 in
theorem ggX3_addRow_X3_requirePadIsBox : GoodIn wsX3_addRow wsX3_requirePadIsBox := goodIn_ca (goodIn_r _ [7, 1, 2, 8, 9, 10, 11, 12, 13, 14, 80, 81, 82, 83, 84, 85, 86, 87, 88, 89, 90, 91, 92] (by decide +kernel) (by decide +kernel)) (goodIn_sub (fun _ h => List.mem_cons_of_mem _ (List.mem_append_left _ (List.mem_append_right _ h))) (by decide +kernel))
set_option maxRecDepth 20000 in
theorem gX3_addRow_X3_requirePadIsBox : GoodIn wsX3_addRow (wsV RX3 58 RX3 yX3_requirePadIsBox wsX3_requirePadIsBox) := goodIn_app (goodIn_of _ (by decide +kernel)) ggX3_addRow_X3_requirePadIsBox
set_option maxRecDepth 20000 in
theorem ggX3_addRow_X3_requireMovement : GoodIn wsX3_addRow wsX3_requireMovement := goodIn_ca (goodIn_r _ [17, 1, 2, 18, 19, 6, 20] (by decide +kernel) (by decide +kernel)) (goodIn_sub (fun _ h => List.mem_cons_of_mem _ (List.mem_append_left _ (List.mem_append_right _ h))) (by decide +kernel))
set_option maxRecDepth 20000 in
theorem gX3_addRow_X3_requireMovement : GoodIn wsX3_addRow (va_wsS RX3 76 yX3_requireMovement wsX3_requireMovement) := goodIn_app (goodIn_of _ (by decide +kernel)) ggX3_addRow_X3_requireMovement
set_option maxRecDepth 20000 in
theorem ggX3_addRow_X3_rowStaysGood : GoodIn wsX3_addRow wsX3_rowStaysGood := goodIn_r _ [24, 25, 8, 26, 27, 28, 12, 29, 14, 30, 31, 32, 33, 34, 35, 36, 37, 38, 39, 40, 41, 19, 6, 20, 80, 81, 82, 83, 84, 85, 86, 87, 88, 89, 90, 91, 92] (by decide +kernel) (by decide +kernel)
set_option maxRecDepth 20000 in
theorem gX3_addRow_X3_rowStaysGood : GoodIn wsX3_addRow (wsV RX3 79 RX3 yX3_rowStaysGood wsX3_rowStaysGood) := goodIn_app (goodIn_of _ (by decide +kernel)) ggX3_addRow_X3_rowStaysGood
set_option maxRecDepth 20000 in
theorem ggX3_addRow_X3_requireRoomFor : GoodIn wsX3_addRow wsX3_requireRoomFor := goodIn_ca (goodIn_r _ [45, 46, 47, 48, 80, 81, 82, 83, 84, 85, 86, 87, 88, 89, 90, 91] (by decide +kernel) (by decide +kernel)) (goodIn_sub (fun _ h => List.mem_cons_of_mem _ (List.mem_append_right _ h)) (by decide +kernel))
set_option maxRecDepth 20000 in
theorem gX3_addRow_X3_requireRoomFor : GoodIn wsX3_addRow (wsV RX3 61 RX3 yX3_requireRoomFor wsX3_requireRoomFor) := goodIn_app (goodIn_of _ (by decide +kernel)) ggX3_addRow_X3_requireRoomFor
set_option maxRecDepth 20000 in
theorem ggX3_addRow_X3_addBodies : GoodIn wsX3_addRow wsX3_addBodies := goodIn_r _ [52, 25, 8, 53, 54, 48, 26, 27, 28, 12, 29, 14, 30, 31, 32, 33, 34, 35, 36, 37, 55, 56, 57, 58, 59, 60, 61, 62, 63, 64, 65, 66, 67, 68, 69, 70, 71, 72, 73, 74, 75, 76, 77, 78, 79, 80, 81, 82, 83, 84, 85, 86, 87, 88, 89, 90, 91, 93, 94, 95, 96, 97, 98, 92] (by decide +kernel) (by decide +kernel)
set_option maxRecDepth 20000 in
theorem gX3_addRow_X3_addBodies : GoodIn wsX3_addRow (wsV RX3 65 RX3 yX3_addBodies wsX3_addBodies) := goodIn_app (goodIn_of _ (by decide +kernel)) ggX3_addRow_X3_addBodies
set_option maxRecDepth 20000 in
theorem ggX3_move_X3_requireThere : GoodIn wsX3_move wsX3_requireThere := goodIn_ca (goodIn_r _ [7, 8, 9, 1, 10, 11, 12, 6, 13, 61, 62, 63, 64, 65, 66, 67, 68, 69, 70, 71, 72, 73, 74, 75, 76, 77, 78] (by decide +kernel) (by decide +kernel)) (goodIn_sub (fun _ h => List.mem_cons_of_mem _ (List.mem_append_left _ (List.mem_append_right _ h))) (by decide +kernel))
set_option maxRecDepth 20000 in
theorem gX3_move_X3_requireThere : GoodIn wsX3_move (wsV RX3 85 RX3 yX3_requireThere wsX3_requireThere) := goodIn_app (goodIn_of _ (by decide +kernel)) ggX3_move_X3_requireThere
set_option maxRecDepth 20000 in
theorem ggX3_move_X3_requirePadIsBox : GoodIn wsX3_move wsX3_requirePadIsBox := goodIn_ca (goodIn_r _ [17, 18, 19, 2, 20, 21, 22, 23, 24, 25, 61, 62, 63, 64, 65, 66, 67, 68, 69, 70, 71, 72, 79] (by decide +kernel) (by decide +kernel)) (goodIn_sub (fun _ h => List.mem_cons_of_mem _ (List.mem_append_right _ h)) (by decide +kernel))
set_option maxRecDepth 20000 in
theorem gX3_move_X3_requirePadIsBox : GoodIn wsX3_move (wsV RX3 58 RX3 yX3_requirePadIsBox wsX3_requirePadIsBox) := goodIn_app (goodIn_of _ (by decide +kernel)) ggX3_move_X3_requirePadIsBox
set_option maxRecDepth 20000 in
theorem ggX3_move_X3_requireMovement : GoodIn wsX3_move wsX3_requireMovement := goodIn_ca (goodIn_r _ [28, 18, 19, 29, 30, 6, 31] (by decide +kernel) (by decide +kernel)) (goodIn_sub (fun _ h => List.mem_cons_of_mem _ (List.mem_append_right _ h)) (by decide +kernel))
set_option maxRecDepth 20000 in
theorem gX3_move_X3_requireMovement : GoodIn wsX3_move (va_wsS RX3 76 yX3_requireMovement wsX3_requireMovement) := goodIn_app (goodIn_of _ (by decide +kernel)) ggX3_move_X3_requireMovement
set_option maxRecDepth 20000 in
theorem ggX3_move_X0_moveTo : GoodIn wsX3_move wsX0_moveTo := goodIn_r _ [36, 37, 38, 39, 40, 41, 42, 23, 43, 25, 44, 45, 46, 47, 48, 49, 50, 51, 52, 53, 54, 55, 56, 57, 58, 59, 60, 73, 74, 75, 76, 77, 78, 79] (by decide +kernel) (by decide +kernel)
set_option maxRecDepth 20000 in
theorem gX3_move_X0_moveTo : GoodIn wsX3_move (wsV RX3 88 RX0 yX0_moveTo wsX0_moveTo) := goodIn_app (goodIn_of _ (by decide +kernel)) ggX3_move_X0_moveTo
set_option maxRecDepth 20000 in
theorem ggX3_shift_X3_isBodyNumber : GoodIn wsX3_shift wsX3_isBodyNumber := goodIn_r _ [8] (by decide +kernel) (by decide +kernel)
set_option maxRecDepth 20000 in
theorem gX3_shift_X3_isBodyNumber : GoodIn wsX3_shift (va_wsS RX3 92 yX3_isBodyNumber wsX3_isBodyNumber) := goodIn_app (goodIn_of _ (by decide +kernel)) ggX3_shift_X3_isBodyNumber
set_option maxRecDepth 20000 in
theorem ggX3_shift_X3_requireMovement : GoodIn wsX3_shift wsX3_requireMovement := goodIn_ca (goodIn_r _ [11, 12, 13, 14, 15, 7, 16] (by decide +kernel) (by decide +kernel)) (goodIn_sub (fun _ h => List.mem_cons_of_mem _ (List.mem_append_right _ h)) (by decide +kernel))
set_option maxRecDepth 20000 in
theorem gX3_shift_X3_requireMovement : GoodIn wsX3_shift (va_wsS RX3 76 yX3_requireMovement wsX3_requireMovement) := goodIn_app (goodIn_of _ (by decide +kernel)) ggX3_shift_X3_requireMovement
set_option maxRecDepth 20000 in
theorem ggX3_shift_X3_shiftBody : GoodIn wsX3_shift wsX3_shiftBody := goodIn_r _ [20, 21, 22, 23, 24, 25, 26, 27, 28, 29, 30, 31, 32, 33, 34, 35, 36, 37, 38, 39, 40, 15, 7, 16, 41, 42, 43, 44, 45, 46, 47, 48, 49, 50, 51, 52, 53, 54, 55, 56, 57, 58, 59, 60, 61, 62, 63, 64, 65, 66, 67, 68, 69, 70, 71, 72, 73, 74, 75, 76, 77, 78, 79, 80, 81] (by decide +kernel) (by decide +kernel)
set_option maxRecDepth 20000 in
theorem gX3_shift_X3_shiftBody : GoodIn wsX3_shift (wsV RX3 105 RX3 yX3_shiftBody wsX3_shiftBody) := goodIn_app (goodIn_of _ (by decide +kernel)) ggX3_shift_X3_shiftBody
set_option maxRecDepth 20000 in
theorem ggX3_filter_X3_requireThere : GoodIn wsX3_filter wsX3_requireThere := goodIn_ca (goodIn_r _ [6, 7, 8, 1, 9, 10, 11, 5, 12, 21, 22, 23, 24, 25, 26, 27, 28, 29, 30, 31, 32, 33, 34, 35, 36, 37, 38] (by decide +kernel) (by decide +kernel)) (goodIn_sub (fun _ h => List.mem_cons_of_mem _ (List.mem_append_right _ h)) (by decide +kernel))
set_option maxRecDepth 20000 in
theorem gX3_filter_X3_requireThere : GoodIn wsX3_filter (wsV RX3 85 RX3 yX3_requireThere wsX3_requireThere) := goodIn_app (goodIn_of _ (by decide +kernel)) ggX3_filter_X3_requireThere
set_option maxRecDepth 20000 in
theorem ggX3_filter_X0_setFilter : GoodIn wsX3_filter wsX0_setFilter := goodIn_r _ [17, 18, 19, 20, 33, 34, 35, 36, 37, 38] (by decide +kernel) (by decide +kernel)
set_option maxRecDepth 20000 in
theorem gX3_filter_X0_setFilter : GoodIn wsX3_filter (wsV RX3 109 RX0 yX0_setFilter wsX0_setFilter) := goodIn_app (goodIn_of _ (by decide +kernel)) ggX3_filter_X0_setFilter
set_option maxRecDepth 20000 in
theorem ggX3_remove_X3_requireThere : GoodIn wsX3_remove wsX3_requireThere := goodIn_ca (goodIn_r _ [8, 9, 10, 2, 11, 12, 13, 7, 14, 41, 42, 43, 44, 45, 46, 47, 48, 49, 50, 51, 52, 53, 54, 55, 56, 57, 58] (by decide +kernel) (by decide +kernel)) (goodIn_sub (fun _ h => List.mem_cons_of_mem _ (List.mem_append_right _ h)) (by decide +kernel))
set_option maxRecDepth 20000 in
theorem gX3_remove_X3_requireThere : GoodIn wsX3_remove (wsV RX3 85 RX3 yX3_requireThere wsX3_requireThere) := goodIn_app (goodIn_of _ (by decide +kernel)) ggX3_remove_X3_requireThere
set_option maxRecDepth 20000 in
theorem ggX3_remove_X3_arePair : GoodIn wsX3_remove wsX3_arePair := goodIn_r _ [18, 1, 19, 20, 7, 21, 22, 23, 24, 25, 26, 27, 41, 42, 43, 44, 45, 46, 47, 48, 49, 50, 51, 52, 59, 60] (by decide +kernel) (by decide +kernel)
set_option maxRecDepth 20000 in
theorem gX3_remove_X3_arePair : GoodIn wsX3_remove (wsV RX3 113 RX3 yX3_arePair wsX3_arePair) := goodIn_app (goodIn_of _ (by decide +kernel)) ggX3_remove_X3_arePair
set_option maxRecDepth 20000 in
theorem ggX3_remove_X3_pairCode : GoodIn wsX3_remove wsX3_pairCode := goodIn_r _ [21] (by decide +kernel) (by decide +kernel)
set_option maxRecDepth 20000 in
theorem gX3_remove_X3_pairCode : GoodIn wsX3_remove (va_wsS RX3 117 yX3_pairCode wsX3_pairCode) := goodIn_app (goodIn_of _ (by decide +kernel)) ggX3_remove_X3_pairCode
set_option maxRecDepth 20000 in
theorem ggX3_remove_X2_put : GoodIn wsX3_remove wsX2_put := goodIn_r _ [31, 27, 32, 33, 23, 24, 25, 26, 59, 60] (by decide +kernel) (by decide +kernel)
set_option maxRecDepth 20000 in
theorem gX3_remove_X2_put : GoodIn wsX3_remove (wsV RX3 121 RX2 yX2_put wsX2_put) := goodIn_app (goodIn_of _ (by decide +kernel)) ggX3_remove_X2_put
set_option maxRecDepth 20000 in
theorem ggX3_remove_X0_leave : GoodIn wsX3_remove wsX0_leave := goodIn_r _ [38, 39, 40, 53, 54, 55, 56, 57, 58] (by decide +kernel) (by decide +kernel)
set_option maxRecDepth 20000 in
theorem gX3_remove_X0_leave : GoodIn wsX3_remove (wsV RX3 125 RX0 yX0_leave wsX0_leave) := goodIn_app (goodIn_of _ (by decide +kernel)) ggX3_remove_X0_leave
set_option maxRecDepth 20000 in
theorem ggX3_update_X2_copyFrom : GoodIn wsX3_update wsX2_copyFrom := goodIn_r _ [15, 16, 17, 18, 19, 20, 21, 83, 84] (by decide +kernel) (by decide +kernel)
set_option maxRecDepth 20000 in
theorem gX3_update_X2_copyFrom : GoodIn wsX3_update (wsV RX3 132 RX2 yX2_copyFrom wsX2_copyFrom) := goodIn_app (goodIn_of _ (by decide +kernel)) ggX3_update_X2_copyFrom
set_option maxRecDepth 20000 in
theorem ggX3_update_X3_reviewPairsOf : GoodIn wsX3_update wsX3_reviewPairsOf := goodIn_r _ [26, 5, 6, 3, 27, 28, 25, 29, 30, 31, 32, 33, 34, 35, 36, 37, 38, 39, 40, 41, 42, 43, 44, 45, 46, 47, 14, 48, 16, 21, 49, 50, 51, 52, 65, 66, 67, 68, 69, 70, 71, 72, 73, 74, 75, 76, 77, 78, 79, 80, 81, 82, 85, 83, 84] (by decide +kernel) (by decide +kernel)
set_option maxRecDepth 20000 in
theorem gX3_update_X3_reviewPairsOf : GoodIn wsX3_update (wsV RX3 139 RX3 yX3_reviewPairsOf wsX3_reviewPairsOf) := goodIn_app (goodIn_of _ (by decide +kernel)) ggX3_update_X3_reviewPairsOf
set_option maxRecDepth 20000 in
theorem ggX3_update_X2_setToDifference : GoodIn wsX3_update wsX2_setToDifference := goodIn_r _ [56, 21, 16, 57, 58, 59, 60, 61, 62, 63, 64, 83, 84] (by decide +kernel) (by decide +kernel)
set_option maxRecDepth 20000 in
theorem gX3_update_X2_setToDifference : GoodIn wsX3_update (wsV RX3 150 RX2 yX2_setToDifference wsX2_setToDifference) := goodIn_app (goodIn_of _ (by decide +kernel)) ggX3_update_X2_setToDifference
set_option maxRecDepth 20000 in
theorem ggX3_pair_X2_codeAt : GoodIn wsX3_pair wsX2_codeAt := goodIn_r _ [11, 12, 13, 14, 15, 16, 17, 18, 19, 20, 21, 10, 22, 35, 36] (by decide +kernel) (by decide +kernel)
set_option maxRecDepth 20000 in
theorem gX3_pair_X2_codeAt : GoodIn wsX3_pair (wsV RX3 161 RX2 yX2_codeAt wsX2_codeAt) := goodIn_app (goodIn_of _ (by decide +kernel)) ggX3_pair_X2_codeAt
set_option maxRecDepth 20000 in
theorem ggX3_paired_X3_requireThere : GoodIn wsX3_paired wsX3_requireThere := goodIn_ca (goodIn_r _ [5, 6, 7, 8, 9, 10, 11, 4, 12, 27, 28, 29, 30, 31, 32, 33, 34, 35, 36, 37, 38, 39, 40, 41, 42, 43, 44] (by decide +kernel) (by decide +kernel)) (goodIn_sub (fun _ h => List.mem_cons_of_mem _ (List.mem_append_right _ h)) (by decide +kernel))
set_option maxRecDepth 20000 in
theorem gX3_paired_X3_requireThere : GoodIn wsX3_paired (wsV RX3 85 RX3 yX3_requireThere wsX3_requireThere) := goodIn_app (goodIn_of _ (by decide +kernel)) ggX3_paired_X3_requireThere
set_option maxRecDepth 20000 in
theorem ggX3_paired_X3_arePair : GoodIn wsX3_paired wsX3_arePair := goodIn_r _ [16, 17, 18, 19, 4, 20, 21, 22, 23, 24, 25, 26, 27, 28, 29, 30, 31, 32, 33, 34, 35, 36, 37, 38, 45, 46] (by decide +kernel) (by decide +kernel)
set_option maxRecDepth 20000 in
theorem gX3_paired_X3_arePair : GoodIn wsX3_paired (wsV RX3 113 RX3 yX3_arePair wsX3_arePair) := goodIn_app (goodIn_of _ (by decide +kernel)) ggX3_paired_X3_arePair
set_option maxRecDepth 20000 in
theorem ggX3_overlapping_X3_requirePadIsBox : GoodIn wsX3_overlapping wsX3_requirePadIsBox := goodIn_ca (goodIn_r _ [11, 12, 13, 6, 14, 15, 16, 17, 18, 19, 30, 31, 32, 33, 34, 35, 36, 37, 38, 39, 40, 41, 48] (by decide +kernel) (by decide +kernel)) (goodIn_sub (fun _ h => List.mem_cons_of_mem _ (List.mem_append_right _ h)) (by decide +kernel))
set_option maxRecDepth 20000 in
theorem gX3_overlapping_X3_requirePadIsBox : GoodIn wsX3_overlapping (wsV RX3 58 RX3 yX3_requirePadIsBox wsX3_requirePadIsBox) := goodIn_app (goodIn_of _ (by decide +kernel)) ggX3_overlapping_X3_requirePadIsBox
set_option maxRecDepth 20000 in
theorem ggX3_overlapping_X1_overlaps : GoodIn wsX3_overlapping wsX1_overlaps := goodIn_r _ [23, 19, 48] (by decide +kernel) (by decide +kernel)
set_option maxRecDepth 20000 in
theorem gX3_overlapping_X1_overlaps : GoodIn wsX3_overlapping (wsV RX3 174 RX1 yX1_overlaps wsX1_overlaps) := goodIn_app (goodIn_of _ (by decide +kernel)) ggX3_overlapping_X1_overlaps
set_option maxRecDepth 20000 in
theorem ggX3_overlapping_X3_appendFound : GoodIn wsX3_overlapping wsX3_appendFound := goodIn_r _ [27, 1, 28, 29, 30, 31, 32, 33, 34, 35, 36, 37, 38, 39, 40, 41] (by decide +kernel) (by decide +kernel)
set_option maxRecDepth 20000 in
theorem gX3_overlapping_X3_appendFound : GoodIn wsX3_overlapping (wsV RX3 178 RX3 yX3_appendFound wsX3_appendFound) := goodIn_app (goodIn_of _ (by decide +kernel)) ggX3_overlapping_X3_appendFound
set_option maxRecDepth 20000 in
theorem ggX3_meeting_X1_enterOfLine : GoodIn wsX3_meeting wsX1_enterOfLine := goodIn_r _ [12, 13, 14, 40] (by decide +kernel) (by decide +kernel)
set_option maxRecDepth 20000 in
theorem gX3_meeting_X1_enterOfLine : GoodIn wsX3_meeting (wsV RX3 182 RX1 yX1_enterOfLine wsX1_enterOfLine) := goodIn_app (goodIn_of _ (by decide +kernel)) ggX3_meeting_X1_enterOfLine
set_option maxRecDepth 20000 in
theorem ggX3_meeting_X3_appendFound : GoodIn wsX3_meeting wsX3_appendFound := goodIn_r _ [19, 1, 20, 21, 22, 23, 24, 25, 26, 27, 28, 29, 30, 31, 32, 33] (by decide +kernel) (by decide +kernel)
set_option maxRecDepth 20000 in
theorem gX3_meeting_X3_appendFound : GoodIn wsX3_meeting (wsV RX3 178 RX3 yX3_appendFound wsX3_appendFound) := goodIn_app (goodIn_of _ (by decide +kernel)) ggX3_meeting_X3_appendFound
set_option maxRecDepth 20000 in
theorem ggX3_found_X3_requireFound : GoodIn wsX3_found wsX3_requireFound := goodIn_ca (goodIn_r _ [6, 7, 8, 9, 10, 11, 12, 13, 14, 15, 16, 17, 18, 19, 20, 21] (by decide +kernel) (by decide +kernel)) (goodIn_sub (fun _ h => List.mem_cons_of_mem _ (List.mem_append_right _ h)) (by decide +kernel))
set_option maxRecDepth 20000 in
theorem gX3_found_X3_requireFound : GoodIn wsX3_found (wsV RX3 187 RX3 yX3_requireFound wsX3_requireFound) := goodIn_app (goodIn_of _ (by decide +kernel)) ggX3_found_X3_requireFound
set_option maxRecDepth 20000 in
theorem ggX3_where_X3_requireFound : GoodIn wsX3_where wsX3_requireFound := goodIn_ca (goodIn_r _ [6, 7, 8, 9, 10, 11, 12, 13, 14, 15, 16, 17, 18, 19, 20, 21] (by decide +kernel) (by decide +kernel)) (goodIn_sub (fun _ h => List.mem_cons_of_mem _ (List.mem_append_right _ h)) (by decide +kernel))
set_option maxRecDepth 20000 in
theorem gX3_where_X3_requireFound : GoodIn wsX3_where (wsV RX3 187 RX3 yX3_requireFound wsX3_requireFound) := goodIn_app (goodIn_of _ (by decide +kernel)) ggX3_where_X3_requireFound
set_option maxRecDepth 20000 in
theorem ggX3_corner_X3_requireThere : GoodIn wsX3_corner wsX3_requireThere := goodIn_ca (goodIn_r _ [11, 1, 2, 3, 12, 13, 14, 10, 15, 16, 17, 18, 19, 20, 21, 22, 23, 24, 25, 26, 27, 28, 29, 30, 31, 32, 33] (by decide +kernel) (by decide +kernel)) (goodIn_sub (fun _ h => List.mem_cons_of_mem _ (List.mem_append_right _ h)) (by decide +kernel))
set_option maxRecDepth 20000 in
theorem gX3_corner_X3_requireThere : GoodIn wsX3_corner (wsV RX3 85 RX3 yX3_requireThere wsX3_requireThere) := goodIn_app (goodIn_of _ (by decide +kernel)) ggX3_corner_X3_requireThere
set_option maxRecDepth 20000 in
theorem ggX3_about_X3_requireThere : GoodIn wsX3_about wsX3_requireThere := goodIn_ca (goodIn_r _ [11, 1, 2, 3, 12, 13, 14, 10, 15, 34, 35, 36, 37, 38, 39, 40, 41, 42, 43, 44, 45, 46, 47, 48, 49, 50, 51] (by decide +kernel) (by decide +kernel)) (goodIn_sub (fun _ h => List.mem_cons_of_mem _ (List.mem_append_right _ h)) (by decide +kernel))
set_option maxRecDepth 20000 in
theorem gX3_about_X3_requireThere : GoodIn wsX3_about (wsV RX3 85 RX3 yX3_requireThere wsX3_requireThere) := goodIn_app (goodIn_of _ (by decide +kernel)) ggX3_about_X3_requireThere
set_option maxRecDepth 20000 in
theorem ggX3_about_X3_pairsOf : GoodIn wsX3_about wsX3_pairsOf := goodIn_r _ [19, 20, 21, 22, 10, 23, 24, 25, 26, 27, 28, 29, 30, 31, 32, 33, 34, 35, 36, 37, 38, 39, 40, 41, 42, 43, 44, 45, 52, 53] (by decide +kernel) (by decide +kernel)
set_option maxRecDepth 20000 in
theorem gX3_about_X3_pairsOf : GoodIn wsX3_about (wsV RX3 201 RX3 yX3_pairsOf wsX3_pairsOf) := goodIn_app (goodIn_of _ (by decide +kernel)) ggX3_about_X3_pairsOf
set_option maxRecDepth 20000 in
theorem ggX3_count_X3_touchedBodies : GoodIn wsX3_count wsX3_touchedBodies := goodIn_r _ [14, 15, 16, 17, 18, 19, 20, 21, 22, 23, 24, 25, 26, 27, 28, 31, 32, 33, 34, 35, 36] (by decide +kernel) (by decide +kernel)
set_option maxRecDepth 20000 in
theorem gX3_count_X3_touchedBodies : GoodIn wsX3_count (wsV RX3 206 RX3 yX3_touchedBodies wsX3_touchedBodies) := goodIn_app (goodIn_of _ (by decide +kernel)) ggX3_count_X3_touchedBodies
set_option maxRecDepth 20000 in
theorem ggX3_requireGood_X3_isWithin : GoodIn wsX3_requireGood wsX3_isWithin := goodIn_r _ [6] (by decide +kernel) (by decide +kernel)
set_option maxRecDepth 20000 in
theorem gX3_requireGood_X3_isWithin : GoodIn wsX3_requireGood (va_wsS RX3 212 yX3_isWithin wsX3_isWithin) := goodIn_app (goodIn_of _ (by decide +kernel)) ggX3_requireGood_X3_isWithin
set_option maxRecDepth 20000 in
theorem ggX3_requireMovement_X3_isWithin : GoodIn wsX3_requireMovement wsX3_isWithin := goodIn_r _ [6] (by decide +kernel) (by decide +kernel)
set_option maxRecDepth 20000 in
theorem gX3_requireMovement_X3_isWithin : GoodIn wsX3_requireMovement (va_wsS RX3 212 yX3_isWithin wsX3_isWithin) := goodIn_app (goodIn_of _ (by decide +kernel)) ggX3_requireMovement_X3_isWithin
set_option maxRecDepth 20000 in
theorem ggX3_requirePadIsBox_X1_isBox : GoodIn wsX3_requirePadIsBox wsX1_isBox := goodIn_r _ [8, 9, 22] (by decide +kernel) (by decide +kernel)
set_option maxRecDepth 20000 in
theorem gX3_requirePadIsBox_X1_isBox : GoodIn wsX3_requirePadIsBox (wsV RX3 220 RX1 yX1_isBox wsX1_isBox) := goodIn_app (goodIn_of _ (by decide +kernel)) ggX3_requirePadIsBox_X1_isBox
set_option maxRecDepth 20000 in
theorem ggX3_requireThere_X3_isBodyNumber : GoodIn wsX3_requireThere wsX3_isBodyNumber := goodIn_r _ [8] (by decide +kernel) (by decide +kernel)
set_option maxRecDepth 20000 in
theorem gX3_requireThere_X3_isBodyNumber : GoodIn wsX3_requireThere (va_wsS RX3 92 yX3_isBodyNumber wsX3_isBodyNumber) := goodIn_app (goodIn_of _ (by decide +kernel)) ggX3_requireThere_X3_isBodyNumber
set_option maxRecDepth 20000 in
theorem ggX3_rowStaysGood_X1_copyFrom : GoodIn wsX3_rowStaysGood wsX1_copyFrom := goodIn_r _ [7, 8, 9, 10, 11, 12, 36] (by decide +kernel) (by decide +kernel)
set_option maxRecDepth 20000 in
theorem gX3_rowStaysGood_X1_copyFrom : GoodIn wsX3_rowStaysGood (wsV RX3 232 RX1 yX1_copyFrom wsX1_copyFrom) := goodIn_app (goodIn_of _ (by decide +kernel)) ggX3_rowStaysGood_X1_copyFrom
set_option maxRecDepth 20000 in
theorem ggX3_rowStaysGood_X1_moveBy : GoodIn wsX3_rowStaysGood wsX1_moveBy := goodIn_r _ [16, 8, 36] (by decide +kernel) (by decide +kernel)
set_option maxRecDepth 20000 in
theorem gX3_rowStaysGood_X1_moveBy : GoodIn wsX3_rowStaysGood (wsV RX3 235 RX1 yX1_moveBy wsX1_moveBy) := goodIn_app (goodIn_of _ (by decide +kernel)) ggX3_rowStaysGood_X1_moveBy
set_option maxRecDepth 20000 in
theorem ggX3_rowStaysGood_X1_isGood : GoodIn wsX3_rowStaysGood wsX1_isGood := goodIn_r _ [20, 8, 21, 22, 23, 36] (by decide +kernel) (by decide +kernel)
set_option maxRecDepth 20000 in
theorem gX3_rowStaysGood_X1_isGood : GoodIn wsX3_rowStaysGood (wsV RX3 238 RX1 yX1_isGood wsX1_isGood) := goodIn_app (goodIn_of _ (by decide +kernel)) ggX3_rowStaysGood_X1_isGood
set_option maxRecDepth 20000 in
theorem ggX3_addBodies_X1_copyFrom : GoodIn wsX3_addBodies wsX1_copyFrom := goodIn_r _ [10, 11, 12, 13, 14, 15, 63] (by decide +kernel) (by decide +kernel)
set_option maxRecDepth 20000 in
theorem gX3_addBodies_X1_copyFrom : GoodIn wsX3_addBodies (wsV RX3 232 RX1 yX1_copyFrom wsX1_copyFrom) := goodIn_app (goodIn_of _ (by decide +kernel)) ggX3_addBodies_X1_copyFrom
set_option maxRecDepth 20000 in
theorem ggX3_addBodies_X1_moveBy : GoodIn wsX3_addBodies wsX1_moveBy := goodIn_r _ [19, 11, 63] (by decide +kernel) (by decide +kernel)
set_option maxRecDepth 20000 in
theorem gX3_addBodies_X1_moveBy : GoodIn wsX3_addBodies (wsV RX3 235 RX1 yX1_moveBy wsX1_moveBy) := goodIn_app (goodIn_of _ (by decide +kernel)) ggX3_addBodies_X1_moveBy
set_option maxRecDepth 20000 in
theorem ggX3_addBodies_X0_appear : GoodIn wsX3_addBodies wsX0_appear := goodIn_r _ [24, 25, 26, 27, 28, 7, 8, 9, 10, 11, 12, 13, 14, 15, 29, 30, 31, 32, 33, 34, 35, 36, 37, 38, 39, 40, 23, 41, 42, 43, 44, 57, 58, 59, 60, 61, 62, 63] (by decide +kernel) (by decide +kernel)
set_option maxRecDepth 20000 in
theorem gX3_addBodies_X0_appear : GoodIn wsX3_addBodies (wsV RX3 241 RX0 yX0_appear wsX0_appear) := goodIn_app (goodIn_of _ (by decide +kernel)) ggX3_addBodies_X0_appear
set_option maxRecDepth 20000 in
theorem ggX3_shiftBody_X1_copyFrom : GoodIn wsX3_shiftBody wsX1_copyFrom := goodIn_r _ [7, 8, 9, 10, 11, 12, 64] (by decide +kernel) (by decide +kernel)
set_option maxRecDepth 20000 in
theorem gX3_shiftBody_X1_copyFrom : GoodIn wsX3_shiftBody (wsV RX3 232 RX1 yX1_copyFrom wsX1_copyFrom) := goodIn_app (goodIn_of _ (by decide +kernel)) ggX3_shiftBody_X1_copyFrom
set_option maxRecDepth 20000 in
theorem ggX3_shiftBody_X1_moveBy : GoodIn wsX3_shiftBody wsX1_moveBy := goodIn_r _ [16, 8, 64] (by decide +kernel) (by decide +kernel)
set_option maxRecDepth 20000 in
theorem gX3_shiftBody_X1_moveBy : GoodIn wsX3_shiftBody (wsV RX3 235 RX1 yX1_moveBy wsX1_moveBy) := goodIn_app (goodIn_of _ (by decide +kernel)) ggX3_shiftBody_X1_moveBy
set_option maxRecDepth 20000 in
theorem ggX3_shiftBody_X1_isGood : GoodIn wsX3_shiftBody wsX1_isGood := goodIn_r _ [20, 8, 21, 22, 23, 64] (by decide +kernel) (by decide +kernel)
set_option maxRecDepth 20000 in
theorem gX3_shiftBody_X1_isGood : GoodIn wsX3_shiftBody (wsV RX3 238 RX1 yX1_isGood wsX1_isGood) := goodIn_app (goodIn_of _ (by decide +kernel)) ggX3_shiftBody_X1_isGood
set_option maxRecDepth 20000 in
theorem ggX3_shiftBody_X0_moveTo : GoodIn wsX3_shiftBody wsX0_moveTo := goodIn_r _ [28, 29, 30, 31, 32, 4, 5, 6, 7, 8, 9, 10, 11, 12, 33, 34, 35, 36, 37, 38, 39, 40, 41, 42, 43, 44, 45, 58, 59, 60, 61, 62, 63, 64] (by decide +kernel) (by decide +kernel)
set_option maxRecDepth 20000 in
theorem gX3_shiftBody_X0_moveTo : GoodIn wsX3_shiftBody (wsV RX3 88 RX0 yX0_moveTo wsX0_moveTo) := goodIn_app (goodIn_of _ (by decide +kernel)) ggX3_shiftBody_X0_moveTo
set_option maxRecDepth 20000 in
theorem ggX3_reviewPairsOf_X3_pairCode : GoodIn wsX3_reviewPairsOf wsX3_pairCode := goodIn_r _ [7] (by decide +kernel) (by decide +kernel)
set_option maxRecDepth 20000 in
theorem gX3_reviewPairsOf_X3_pairCode : GoodIn wsX3_reviewPairsOf (va_wsS RX3 117 yX3_pairCode wsX3_pairCode) := goodIn_app (goodIn_of _ (by decide +kernel)) ggX3_reviewPairsOf_X3_pairCode
set_option maxRecDepth 20000 in
theorem ggX3_reviewPairsOf_X0_pairsWith : GoodIn wsX3_reviewPairsOf wsX0_pairsWith := goodIn_r _ [12, 13, 14, 15, 16, 17, 18, 19, 20, 21, 22, 46, 47, 48, 49, 50, 51, 52] (by decide +kernel) (by decide +kernel)
set_option maxRecDepth 20000 in
theorem gX3_reviewPairsOf_X0_pairsWith : GoodIn wsX3_reviewPairsOf (wsV RX3 245 RX0 yX0_pairsWith wsX0_pairsWith) := goodIn_app (goodIn_of _ (by decide +kernel)) ggX3_reviewPairsOf_X0_pairsWith
set_option maxRecDepth 20000 in
theorem ggX3_reviewPairsOf_X2_put : GoodIn wsX3_reviewPairsOf wsX2_put := goodIn_r _ [27, 28, 29, 30, 31, 32, 26, 33, 53, 54] (by decide +kernel) (by decide +kernel)
set_option maxRecDepth 20000 in
theorem gX3_reviewPairsOf_X2_put : GoodIn wsX3_reviewPairsOf (wsV RX3 121 RX2 yX2_put wsX2_put) := goodIn_app (goodIn_of _ (by decide +kernel)) ggX3_reviewPairsOf_X2_put
set_option maxRecDepth 20000 in
theorem ggX3_arePair_X3_pairCode : GoodIn wsX3_arePair wsX3_pairCode := goodIn_r _ [5] (by decide +kernel) (by decide +kernel)
set_option maxRecDepth 20000 in
theorem gX3_arePair_X3_pairCode : GoodIn wsX3_arePair (va_wsS RX3 117 yX3_pairCode wsX3_pairCode) := goodIn_app (goodIn_of _ (by decide +kernel)) ggX3_arePair_X3_pairCode
set_option maxRecDepth 20000 in
theorem ggX3_arePair_X2_holds : GoodIn wsX3_arePair wsX2_holds := goodIn_r _ [10, 11, 24, 25] (by decide +kernel) (by decide +kernel)
set_option maxRecDepth 20000 in
theorem gX3_arePair_X2_holds : GoodIn wsX3_arePair (wsV RX3 249 RX2 yX2_holds wsX2_holds) := goodIn_app (goodIn_of _ (by decide +kernel)) ggX3_arePair_X2_holds
set_option maxRecDepth 20000 in
theorem ggX3_pairsOf_X3_arePair : GoodIn wsX3_pairsOf wsX3_arePair := goodIn_r _ [5, 6, 7, 8, 4, 9, 10, 11, 12, 13, 14, 15, 16, 17, 18, 19, 20, 21, 22, 23, 24, 25, 26, 27, 28, 29] (by decide +kernel) (by decide +kernel)
set_option maxRecDepth 20000 in
theorem gX3_pairsOf_X3_arePair : GoodIn wsX3_pairsOf (wsV RX3 113 RX3 yX3_arePair wsX3_arePair) := goodIn_app (goodIn_of _ (by decide +kernel)) ggX3_pairsOf_X3_arePair
set_option maxRecDepth 20000 in
theorem ggX4_padCorner_X4_good : GoodIn wsX4_padCorner wsX4_good := goodIn_r _ [5, 6, 7] (by decide +kernel) (by decide +kernel)
set_option maxRecDepth 20000 in
theorem gX4_padCorner_X4_good : GoodIn wsX4_padCorner (va_wsS RX4 62 yX4_good wsX4_good) := goodIn_app (goodIn_of _ (by decide +kernel)) ggX4_padCorner_X4_good
set_option maxRecDepth 20000 in
theorem ggX4_padCorner_X4_goes : GoodIn wsX4_padCorner wsX4_goes := goodIn_r _ [11, 12, 13, 14, 15, 16, 17, 18, 19, 20, 21, 22, 23, 24, 25, 26, 27, 28, 29] (by decide +kernel) (by decide +kernel)
set_option maxRecDepth 20000 in
theorem gX4_padCorner_X4_goes : GoodIn wsX4_padCorner (wsV RX4 66 RX4 yX4_goes wsX4_goes) := goodIn_app (goodIn_of _ (by decide +kernel)) ggX4_padCorner_X4_goes
set_option maxRecDepth 20000 in
theorem ggX4_low_X4_padCorner : GoodIn wsX4_low wsX4_padCorner := goodIn_r _ [5, 6, 7, 8, 4, 9, 10, 11, 12, 13, 14, 15, 16, 17, 18, 19, 20, 21, 22, 23, 24, 25, 26, 27, 28, 29, 30, 31, 32, 33] (by decide +kernel) (by decide +kernel)
set_option maxRecDepth 20000 in
theorem gX4_low_X4_padCorner : GoodIn wsX4_low (wsV RX4 70 RX4 yX4_padCorner wsX4_padCorner) := goodIn_app (goodIn_of _ (by decide +kernel)) ggX4_low_X4_padCorner
set_option maxRecDepth 20000 in
theorem ggX4_high_X4_padCorner : GoodIn wsX4_high wsX4_padCorner := goodIn_r _ [5, 6, 7, 8, 4, 9, 10, 11, 12, 13, 14, 15, 16, 17, 18, 19, 20, 21, 22, 23, 24, 25, 26, 27, 28, 29, 30, 31, 32, 33] (by decide +kernel) (by decide +kernel)
set_option maxRecDepth 20000 in
theorem gX4_high_X4_padCorner : GoodIn wsX4_high (wsV RX4 70 RX4 yX4_padCorner wsX4_padCorner) := goodIn_app (goodIn_of _ (by decide +kernel)) ggX4_high_X4_padCorner
set_option maxRecDepth 20000 in
theorem ggX4_settle_X4_widen : GoodIn wsX4_settle wsX4_widen := goodIn_r _ [8, 2, 9, 10, 11, 12, 13, 14, 15, 16, 17, 18, 19, 20, 21, 22, 23, 24, 25, 26, 27] (by decide +kernel) (by decide +kernel)
set_option maxRecDepth 20000 in
theorem gX4_settle_X4_widen : GoodIn wsX4_settle (wsV RX4 74 RX4 yX4_widen wsX4_widen) := goodIn_app (goodIn_of _ (by decide +kernel)) ggX4_settle_X4_widen
set_option maxRecDepth 20000 in
theorem ggX4_put_X4_least : GoodIn wsX4_put wsX4_least := goodIn_r _ [8, 1, 22, 23, 24, 25, 26, 27, 28, 29, 30, 31, 32, 33, 34, 35, 36, 37, 38] (by decide +kernel) (by decide +kernel)
set_option maxRecDepth 20000 in
theorem gX4_put_X4_least : GoodIn wsX4_put (wsV RX4 79 RX4 yX4_least wsX4_least) := goodIn_app (goodIn_of _ (by decide +kernel)) ggX4_put_X4_least
set_option maxRecDepth 20000 in
theorem ggX4_put_X4_settle : GoodIn wsX4_put wsX4_settle := goodIn_r _ [12, 13, 14, 15, 16, 17, 18, 7, 19, 20, 21, 22, 23, 24, 25, 26, 27, 28, 29, 30, 31, 32, 33, 34, 35, 36, 37, 38] (by decide +kernel) (by decide +kernel)
set_option maxRecDepth 20000 in
theorem gX4_put_X4_settle : GoodIn wsX4_put (wsV RX4 83 RX4 yX4_settle wsX4_settle) := goodIn_app (goodIn_of _ (by decide +kernel)) ggX4_put_X4_settle
set_option maxRecDepth 20000 in
theorem ggX4_goesOn_X4_good : GoodIn wsX4_goesOn wsX4_good := goodIn_r _ [5, 6, 7] (by decide +kernel) (by decide +kernel)
set_option maxRecDepth 20000 in
theorem gX4_goesOn_X4_good : GoodIn wsX4_goesOn (va_wsS RX4 62 yX4_good wsX4_good) := goodIn_app (goodIn_of _ (by decide +kernel)) ggX4_goesOn_X4_good
set_option maxRecDepth 20000 in
theorem ggX4_add_X4_padIsBox : GoodIn wsX4_add wsX4_padIsBox := goodIn_r _ [5, 6, 44, 45, 46, 47, 48, 49, 50, 51, 52, 53, 54, 55, 56, 57, 58, 59, 60] (by decide +kernel) (by decide +kernel)
set_option maxRecDepth 20000 in
theorem gX4_add_X4_padIsBox : GoodIn wsX4_add (wsV RX4 86 RX4 yX4_padIsBox wsX4_padIsBox) := goodIn_app (goodIn_of _ (by decide +kernel)) ggX4_add_X4_padIsBox
set_option maxRecDepth 20000 in
theorem ggX4_add_X4_bodies : GoodIn wsX4_add wsX4_bodies := goodIn_r _ [10, 11, 44, 45, 46, 47, 48, 49, 50, 51, 52, 53, 54, 55, 56, 57, 58, 59, 60] (by decide +kernel) (by decide +kernel)
set_option maxRecDepth 20000 in
theorem gX4_add_X4_bodies : GoodIn wsX4_add (wsV RX4 90 RX4 yX4_bodies wsX4_bodies) := goodIn_app (goodIn_of _ (by decide +kernel)) ggX4_add_X4_bodies
set_option maxRecDepth 20000 in
theorem ggX4_add_X4_goes : GoodIn wsX4_add wsX4_goes := goodIn_r _ [15, 16, 44, 45, 46, 47, 48, 49, 50, 51, 52, 53, 54, 55, 56, 57, 58, 59, 60] (by decide +kernel) (by decide +kernel)
set_option maxRecDepth 20000 in
theorem gX4_add_X4_goes : GoodIn wsX4_add (wsV RX4 66 RX4 yX4_goes wsX4_goes) := goodIn_app (goodIn_of _ (by decide +kernel)) ggX4_add_X4_goes
set_option maxRecDepth 20000 in
theorem ggX4_add_X4_takePad : GoodIn wsX4_add wsX4_takePad := goodIn_r _ [20, 21, 6, 44, 45, 46, 47, 48, 49, 50, 51, 52, 53, 54, 55, 56, 57, 58, 59, 60] (by decide +kernel) (by decide +kernel)
set_option maxRecDepth 20000 in
theorem gX4_add_X4_takePad : GoodIn wsX4_add (wsV RX4 93 RX4 yX4_takePad wsX4_takePad) := goodIn_app (goodIn_of _ (by decide +kernel)) ggX4_add_X4_takePad
set_option maxRecDepth 20000 in
theorem ggX4_add_X4_put : GoodIn wsX4_add wsX4_put := goodIn_r _ [25, 11, 26, 27, 28, 29, 30, 4, 31, 32, 33, 34, 35, 36, 21, 37, 38, 39, 40, 41, 42, 43, 44, 45, 46, 47, 48, 49, 50, 51, 52, 53, 54, 55, 56, 57, 58, 59, 60] (by decide +kernel) (by decide +kernel)
set_option maxRecDepth 20000 in
theorem gX4_add_X4_put : GoodIn wsX4_add (wsV RX4 96 RX4 yX4_put wsX4_put) := goodIn_app (goodIn_of _ (by decide +kernel)) ggX4_add_X4_put
set_option maxRecDepth 20000 in
theorem ggX4_addRow_X4_padIsBox : GoodIn wsX4_addRow wsX4_padIsBox := goodIn_r _ [5, 6, 58, 59, 60, 61, 62, 63, 64, 65, 66, 67, 68, 69, 70, 71, 72, 73, 74] (by decide +kernel) (by decide +kernel)
set_option maxRecDepth 20000 in
theorem gX4_addRow_X4_padIsBox : GoodIn wsX4_addRow (wsV RX4 86 RX4 yX4_padIsBox wsX4_padIsBox) := goodIn_app (goodIn_of _ (by decide +kernel)) ggX4_addRow_X4_padIsBox
set_option maxRecDepth 20000 in
theorem ggX4_addRow_X4_slow : GoodIn wsX4_addRow wsX4_slow := goodIn_r _ [9, 10, 11] (by decide +kernel) (by decide +kernel)
set_option maxRecDepth 20000 in
theorem gX4_addRow_X4_slow : GoodIn wsX4_addRow (va_wsS RX4 100 yX4_slow wsX4_slow) := goodIn_app (goodIn_of _ (by decide +kernel)) ggX4_addRow_X4_slow
set_option maxRecDepth 20000 in
theorem ggX4_addRow_X4_takePad : GoodIn wsX4_addRow wsX4_takePad := goodIn_r _ [15, 16, 6, 58, 59, 60, 61, 62, 63, 64, 65, 66, 67, 68, 69, 70, 71, 72, 73, 74] (by decide +kernel) (by decide +kernel)
set_option maxRecDepth 20000 in
theorem gX4_addRow_X4_takePad : GoodIn wsX4_addRow (wsV RX4 93 RX4 yX4_takePad wsX4_takePad) := goodIn_app (goodIn_of _ (by decide +kernel)) ggX4_addRow_X4_takePad
set_option maxRecDepth 20000 in
theorem ggX4_addRow_X4_goesOn : GoodIn wsX4_addRow wsX4_goesOn := goodIn_r _ [20, 16, 21, 22, 4, 23, 24, 25, 58, 59, 60, 61, 62, 63, 64, 65, 66, 67, 68, 69, 70, 71, 72, 73, 74] (by decide +kernel) (by decide +kernel)
set_option maxRecDepth 20000 in
theorem gX4_addRow_X4_goesOn : GoodIn wsX4_addRow (wsV RX4 104 RX4 yX4_goesOn wsX4_goesOn) := goodIn_app (goodIn_of _ (by decide +kernel)) ggX4_addRow_X4_goesOn
set_option maxRecDepth 20000 in
theorem ggX4_addRow_X4_bodies : GoodIn wsX4_addRow wsX4_bodies := goodIn_r _ [29, 30, 58, 59, 60, 61, 62, 63, 64, 65, 66, 67, 68, 69, 70, 71, 72, 73, 74] (by decide +kernel) (by decide +kernel)
set_option maxRecDepth 20000 in
theorem gX4_addRow_X4_bodies : GoodIn wsX4_addRow (wsV RX4 90 RX4 yX4_bodies wsX4_bodies) := goodIn_app (goodIn_of _ (by decide +kernel)) ggX4_addRow_X4_bodies
set_option maxRecDepth 20000 in
theorem ggX4_addRow_X4_goes : GoodIn wsX4_addRow wsX4_goes := goodIn_r _ [34, 35, 58, 59, 60, 61, 62, 63, 64, 65, 66, 67, 68, 69, 70, 71, 72, 73, 74] (by decide +kernel) (by decide +kernel)
set_option maxRecDepth 20000 in
theorem gX4_addRow_X4_goes : GoodIn wsX4_addRow (wsV RX4 66 RX4 yX4_goes wsX4_goes) := goodIn_app (goodIn_of _ (by decide +kernel)) ggX4_addRow_X4_goes
set_option maxRecDepth 20000 in
theorem ggX4_addRow_X4_put : GoodIn wsX4_addRow wsX4_put := goodIn_r _ [39, 30, 40, 41, 42, 43, 44, 4, 45, 46, 47, 48, 49, 50, 16, 51, 52, 53, 54, 55, 56, 57, 58, 59, 60, 61, 62, 63, 64, 65, 66, 67, 68, 69, 70, 71, 72, 73, 74] (by decide +kernel) (by decide +kernel)
set_option maxRecDepth 20000 in
theorem gX4_addRow_X4_put : GoodIn wsX4_addRow (wsV RX4 96 RX4 yX4_put wsX4_put) := goodIn_app (goodIn_of _ (by decide +kernel)) ggX4_addRow_X4_put
set_option maxRecDepth 20000 in
theorem ggX4_moves_X4_settle : GoodIn wsX4_moves wsX4_settle := goodIn_r _ [8, 3, 1, 9, 10, 11, 12, 7, 13, 14, 2, 15, 16, 17, 18, 19, 20, 21, 22, 23, 24, 25, 26, 27, 28, 29, 30, 31] (by decide +kernel) (by decide +kernel)
set_option maxRecDepth 20000 in
theorem gX4_moves_X4_settle : GoodIn wsX4_moves (wsV RX4 83 RX4 yX4_settle wsX4_settle) := goodIn_app (goodIn_of _ (by decide +kernel)) ggX4_moves_X4_settle
set_option maxRecDepth 20000 in
theorem ggX4_move_X4_known : GoodIn wsX4_move wsX4_known := goodIn_r _ [5, 6, 43, 44, 45, 46, 47, 48, 49, 50, 51, 52, 53, 54, 55, 56, 57, 58, 59] (by decide +kernel) (by decide +kernel)
set_option maxRecDepth 20000 in
theorem gX4_move_X4_known : GoodIn wsX4_move (wsV RX4 107 RX4 yX4_known wsX4_known) := goodIn_app (goodIn_of _ (by decide +kernel)) ggX4_move_X4_known
set_option maxRecDepth 20000 in
theorem ggX4_move_X4_padIsBox : GoodIn wsX4_move wsX4_padIsBox := goodIn_r _ [10, 11, 43, 44, 45, 46, 47, 48, 49, 50, 51, 52, 53, 54, 55, 56, 57, 58, 59] (by decide +kernel) (by decide +kernel)
set_option maxRecDepth 20000 in
theorem gX4_move_X4_padIsBox : GoodIn wsX4_move (wsV RX4 86 RX4 yX4_padIsBox wsX4_padIsBox) := goodIn_app (goodIn_of _ (by decide +kernel)) ggX4_move_X4_padIsBox
set_option maxRecDepth 20000 in
theorem ggX4_move_X4_slow : GoodIn wsX4_move wsX4_slow := goodIn_r _ [14, 15, 16] (by decide +kernel) (by decide +kernel)
set_option maxRecDepth 20000 in
theorem gX4_move_X4_slow : GoodIn wsX4_move (va_wsS RX4 100 yX4_slow wsX4_slow) := goodIn_app (goodIn_of _ (by decide +kernel)) ggX4_move_X4_slow
set_option maxRecDepth 20000 in
theorem ggX4_move_X4_goes : GoodIn wsX4_move wsX4_goes := goodIn_r _ [20, 21, 43, 44, 45, 46, 47, 48, 49, 50, 51, 52, 53, 54, 55, 56, 57, 58, 59] (by decide +kernel) (by decide +kernel)
set_option maxRecDepth 20000 in
theorem gX4_move_X4_goes : GoodIn wsX4_move (wsV RX4 66 RX4 yX4_goes wsX4_goes) := goodIn_app (goodIn_of _ (by decide +kernel)) ggX4_move_X4_goes
set_option maxRecDepth 20000 in
theorem ggX4_move_X4_takePad : GoodIn wsX4_move wsX4_takePad := goodIn_r _ [25, 26, 11, 43, 44, 45, 46, 47, 48, 49, 50, 51, 52, 53, 54, 55, 56, 57, 58, 59] (by decide +kernel) (by decide +kernel)
set_option maxRecDepth 20000 in
theorem gX4_move_X4_takePad : GoodIn wsX4_move (wsV RX4 93 RX4 yX4_takePad wsX4_takePad) := goodIn_app (goodIn_of _ (by decide +kernel)) ggX4_move_X4_takePad
set_option maxRecDepth 20000 in
theorem ggX4_move_X4_moves : GoodIn wsX4_move wsX4_moves := goodIn_r _ [30, 26, 31, 32, 33, 34, 35, 4, 36, 37, 38, 39, 40, 41, 42, 43, 44, 45, 46, 47, 48, 49, 50, 51, 52, 53, 54, 55, 56, 57, 58, 59] (by decide +kernel) (by decide +kernel)
set_option maxRecDepth 20000 in
theorem gX4_move_X4_moves : GoodIn wsX4_move (wsV RX4 111 RX4 yX4_moves wsX4_moves) := goodIn_app (goodIn_of _ (by decide +kernel)) ggX4_move_X4_moves
set_option maxRecDepth 20000 in
theorem ggX4_shift_X4_slow : GoodIn wsX4_shift wsX4_slow := goodIn_r _ [7, 8, 9] (by decide +kernel) (by decide +kernel)
set_option maxRecDepth 20000 in
theorem gX4_shift_X4_slow : GoodIn wsX4_shift (va_wsS RX4 100 yX4_slow wsX4_slow) := goodIn_app (goodIn_of _ (by decide +kernel)) ggX4_shift_X4_slow
set_option maxRecDepth 20000 in
theorem ggX4_shift_X4_goes : GoodIn wsX4_shift wsX4_goes := goodIn_r _ [13, 14, 39, 40, 41, 42, 43, 44, 45, 46, 47, 48, 49, 50, 51, 52, 53, 54, 55] (by decide +kernel) (by decide +kernel)
set_option maxRecDepth 20000 in
theorem gX4_shift_X4_goes : GoodIn wsX4_shift (wsV RX4 66 RX4 yX4_goes wsX4_goes) := goodIn_app (goodIn_of _ (by decide +kernel)) ggX4_shift_X4_goes
set_option maxRecDepth 20000 in
theorem ggX4_shift_X4_goesOn : GoodIn wsX4_shift wsX4_goesOn := goodIn_r _ [18, 1, 19, 20, 6, 21, 22, 23, 39, 40, 41, 42, 43, 44, 45, 46, 47, 48, 49, 50, 51, 52, 53, 54, 55] (by decide +kernel) (by decide +kernel)
set_option maxRecDepth 20000 in
theorem gX4_shift_X4_goesOn : GoodIn wsX4_shift (wsV RX4 104 RX4 yX4_goesOn wsX4_goesOn) := goodIn_app (goodIn_of _ (by decide +kernel)) ggX4_shift_X4_goesOn
set_option maxRecDepth 20000 in
theorem ggX4_shift_X4_moves : GoodIn wsX4_shift wsX4_moves := goodIn_r _ [27, 1, 28, 2, 29, 30, 31, 6, 32, 33, 34, 35, 36, 37, 38, 39, 40, 41, 42, 43, 44, 45, 46, 47, 48, 49, 50, 51, 52, 53, 54, 55] (by decide +kernel) (by decide +kernel)
set_option maxRecDepth 20000 in
theorem gX4_shift_X4_moves : GoodIn wsX4_shift (wsV RX4 111 RX4 yX4_moves wsX4_moves) := goodIn_app (goodIn_of _ (by decide +kernel)) ggX4_shift_X4_moves
set_option maxRecDepth 20000 in
theorem ggX4_filter_X4_known : GoodIn wsX4_filter wsX4_known := goodIn_r _ [8, 9, 15, 16, 17, 18, 19, 20, 21, 22, 23, 24, 25, 26, 27, 28, 29, 30, 31] (by decide +kernel) (by decide +kernel)
set_option maxRecDepth 20000 in
theorem gX4_filter_X4_known : GoodIn wsX4_filter (wsV RX4 107 RX4 yX4_known wsX4_known) := goodIn_app (goodIn_of _ (by decide +kernel)) ggX4_filter_X4_known
set_option maxRecDepth 20000 in
theorem ggX4_filter_X4_goes : GoodIn wsX4_filter wsX4_goes := goodIn_r _ [13, 14, 15, 16, 17, 18, 19, 20, 21, 22, 23, 24, 25, 26, 27, 28, 29, 30, 31] (by decide +kernel) (by decide +kernel)
set_option maxRecDepth 20000 in
theorem gX4_filter_X4_goes : GoodIn wsX4_filter (wsV RX4 66 RX4 yX4_goes wsX4_goes) := goodIn_app (goodIn_of _ (by decide +kernel)) ggX4_filter_X4_goes
set_option maxRecDepth 20000 in
theorem ggX4_isPair_X4_bit : GoodIn wsX4_isPair wsX4_bit := goodIn_r _ [5] (by decide +kernel) (by decide +kernel)
set_option maxRecDepth 20000 in
theorem gX4_isPair_X4_bit : GoodIn wsX4_isPair (va_wsS RX4 115 yX4_bit wsX4_bit) := goodIn_app (goodIn_of _ (by decide +kernel)) ggX4_isPair_X4_bit
set_option maxRecDepth 20000 in
theorem ggX4_pairsOf_X4_isPair : GoodIn wsX4_pairsOf wsX4_isPair := goodIn_r _ [5, 6, 7, 8, 4, 9, 10, 11, 12, 13, 14, 15, 16, 17, 18, 19, 20, 21, 22, 23, 24, 25, 26] (by decide +kernel) (by decide +kernel)
set_option maxRecDepth 20000 in
theorem gX4_pairsOf_X4_isPair : GoodIn wsX4_pairsOf (wsV RX4 119 RX4 yX4_isPair wsX4_isPair) := goodIn_app (goodIn_of _ (by decide +kernel)) ggX4_pairsOf_X4_isPair
set_option maxRecDepth 20000 in
theorem ggX4_remove_X4_known : GoodIn wsX4_remove wsX4_known := goodIn_r _ [8, 2, 25, 26, 27, 28, 29, 30, 31, 32, 33, 34, 35, 36, 37, 38, 39, 40, 41] (by decide +kernel) (by decide +kernel)
set_option maxRecDepth 20000 in
theorem gX4_remove_X4_known : GoodIn wsX4_remove (wsV RX4 107 RX4 yX4_known wsX4_known) := goodIn_app (goodIn_of _ (by decide +kernel)) ggX4_remove_X4_known
set_option maxRecDepth 20000 in
theorem ggX4_remove_X4_goes : GoodIn wsX4_remove wsX4_goes := goodIn_r _ [12, 13, 25, 26, 27, 28, 29, 30, 31, 32, 33, 34, 35, 36, 37, 38, 39, 40, 41] (by decide +kernel) (by decide +kernel)
set_option maxRecDepth 20000 in
theorem gX4_remove_X4_goes : GoodIn wsX4_remove (wsV RX4 66 RX4 yX4_goes wsX4_goes) := goodIn_app (goodIn_of _ (by decide +kernel)) ggX4_remove_X4_goes
set_option maxRecDepth 20000 in
theorem ggX4_remove_X4_pairsOf : GoodIn wsX4_remove wsX4_pairsOf := goodIn_r _ [17, 18, 19, 20, 7, 21, 1, 22, 23, 24, 25, 26, 27, 28, 29, 30, 31, 32, 33, 34, 35, 36, 37, 38, 39, 40, 41] (by decide +kernel) (by decide +kernel)
set_option maxRecDepth 20000 in
theorem gX4_remove_X4_pairsOf : GoodIn wsX4_remove (wsV RX4 123 RX4 yX4_pairsOf wsX4_pairsOf) := goodIn_app (goodIn_of _ (by decide +kernel)) ggX4_remove_X4_pairsOf
set_option maxRecDepth 20000 in
theorem ggX4_look_X4_through : GoodIn wsX4_look wsX4_through := goodIn_r _ [7, 8, 9, 15, 16, 17, 18, 19, 20, 21, 22, 23, 24, 25, 26, 27, 28, 29, 30, 31] (by decide +kernel) (by decide +kernel)
set_option maxRecDepth 20000 in
theorem gX4_look_X4_through : GoodIn wsX4_look (wsV RX4 127 RX4 yX4_through wsX4_through) := goodIn_app (goodIn_of _ (by decide +kernel)) ggX4_look_X4_through
set_option maxRecDepth 20000 in
theorem ggX4_look_X4_overlap : GoodIn wsX4_look wsX4_overlap := goodIn_r _ [13, 14, 15, 16, 17, 18, 19, 20, 21, 22, 23, 24, 25, 26, 27, 28, 29, 30, 31] (by decide +kernel) (by decide +kernel)
set_option maxRecDepth 20000 in
theorem gX4_look_X4_overlap : GoodIn wsX4_look (wsV RX4 130 RX4 yX4_overlap wsX4_overlap) := goodIn_app (goodIn_of _ (by decide +kernel)) ggX4_look_X4_overlap
set_option maxRecDepth 20000 in
theorem ggX4_update_X4_look : GoodIn wsX4_update wsX4_look := goodIn_r _ [11, 1, 12, 13, 14, 15, 10, 16, 17, 18, 19, 20, 21, 22, 23, 32, 33, 34, 35, 36, 37, 38, 39, 40, 41, 42, 43, 44, 45, 46, 47, 48] (by decide +kernel) (by decide +kernel)
set_option maxRecDepth 20000 in
theorem gX4_update_X4_look : GoodIn wsX4_update (wsV RX4 133 RX4 yX4_look wsX4_look) := goodIn_app (goodIn_of _ (by decide +kernel)) ggX4_update_X4_look
set_option maxRecDepth 20000 in
theorem ggX4_update_X4_bits : GoodIn wsX4_update wsX4_bits := goodIn_r _ [26] (by decide +kernel) (by decide +kernel)
set_option maxRecDepth 20000 in
theorem gX4_update_X4_bits : GoodIn wsX4_update (va_wsS RX4 136 yX4_bits wsX4_bits) := goodIn_app (goodIn_of _ (by decide +kernel)) ggX4_update_X4_bits
set_option maxRecDepth 20000 in
theorem ggX4_update_X4_goes : GoodIn wsX4_update wsX4_goes := goodIn_r _ [30, 31, 32, 33, 34, 35, 36, 37, 38, 39, 40, 41, 42, 43, 44, 45, 46, 47, 48] (by decide +kernel) (by decide +kernel)
set_option maxRecDepth 20000 in
theorem gX4_update_X4_goes : GoodIn wsX4_update (wsV RX4 66 RX4 yX4_goes wsX4_goes) := goodIn_app (goodIn_of _ (by decide +kernel)) ggX4_update_X4_goes
set_option maxRecDepth 20000 in
theorem ggX4_pair_X4_nth : GoodIn wsX4_pair wsX4_nth := goodIn_r _ [7] (by decide +kernel) (by decide +kernel)
set_option maxRecDepth 20000 in
theorem gX4_pair_X4_nth : GoodIn wsX4_pair (va_wsS RX4 143 yX4_nth wsX4_nth) := goodIn_app (goodIn_of _ (by decide +kernel)) ggX4_pair_X4_nth
set_option maxRecDepth 20000 in
theorem ggX4_pair_X4_goes : GoodIn wsX4_pair wsX4_goes := goodIn_r _ [11, 12, 13, 14, 15, 16, 17, 18, 19, 20, 21, 22, 23, 24, 25, 26, 27, 28, 29] (by decide +kernel) (by decide +kernel)
set_option maxRecDepth 20000 in
theorem gX4_pair_X4_goes : GoodIn wsX4_pair (wsV RX4 66 RX4 yX4_goes wsX4_goes) := goodIn_app (goodIn_of _ (by decide +kernel)) ggX4_pair_X4_goes
set_option maxRecDepth 20000 in
theorem ggX4_paired_X4_known : GoodIn wsX4_paired wsX4_known := goodIn_r _ [5, 6, 20, 21, 22, 23, 24, 25, 26, 27, 28, 29, 30, 31, 32, 33, 34, 35, 36] (by decide +kernel) (by decide +kernel)
set_option maxRecDepth 20000 in
theorem gX4_paired_X4_known : GoodIn wsX4_paired (wsV RX4 107 RX4 yX4_known wsX4_known) := goodIn_app (goodIn_of _ (by decide +kernel)) ggX4_paired_X4_known
set_option maxRecDepth 20000 in
theorem ggX4_paired_X4_goes : GoodIn wsX4_paired wsX4_goes := goodIn_r _ [10, 11, 20, 21, 22, 23, 24, 25, 26, 27, 28, 29, 30, 31, 32, 33, 34, 35, 36] (by decide +kernel) (by decide +kernel)
set_option maxRecDepth 20000 in
theorem gX4_paired_X4_goes : GoodIn wsX4_paired (wsV RX4 66 RX4 yX4_goes wsX4_goes) := goodIn_app (goodIn_of _ (by decide +kernel)) ggX4_paired_X4_goes
set_option maxRecDepth 20000 in
theorem ggX4_paired_X4_isPair : GoodIn wsX4_paired wsX4_isPair := goodIn_r _ [15, 16, 17, 18, 4, 19, 20, 21, 22, 23, 24, 25, 26, 27, 28, 29, 30, 31, 32, 33, 34, 35, 36] (by decide +kernel) (by decide +kernel)
set_option maxRecDepth 20000 in
theorem gX4_paired_X4_isPair : GoodIn wsX4_paired (wsV RX4 119 RX4 yX4_isPair wsX4_isPair) := goodIn_app (goodIn_of _ (by decide +kernel)) ggX4_paired_X4_isPair
set_option maxRecDepth 20000 in
theorem ggX4_overlapping_X4_padIsBox : GoodIn wsX4_overlapping wsX4_padIsBox := goodIn_r _ [12, 5, 18, 19, 20, 21, 22, 23, 24, 25, 26, 27, 28, 29, 30, 31, 32, 33, 34] (by decide +kernel) (by decide +kernel)
set_option maxRecDepth 20000 in
theorem gX4_overlapping_X4_padIsBox : GoodIn wsX4_overlapping (wsV RX4 86 RX4 yX4_padIsBox wsX4_padIsBox) := goodIn_app (goodIn_of _ (by decide +kernel)) ggX4_overlapping_X4_padIsBox
set_option maxRecDepth 20000 in
theorem ggX4_overlapping_X4_goes : GoodIn wsX4_overlapping wsX4_goes := goodIn_r _ [16, 17, 18, 19, 20, 21, 22, 23, 24, 25, 26, 27, 28, 29, 30, 31, 32, 33, 34] (by decide +kernel) (by decide +kernel)
set_option maxRecDepth 20000 in
theorem gX4_overlapping_X4_goes : GoodIn wsX4_overlapping (wsV RX4 66 RX4 yX4_goes wsX4_goes) := goodIn_app (goodIn_of _ (by decide +kernel)) ggX4_overlapping_X4_goes
set_option maxRecDepth 20000 in
theorem ggX4_meeting_X4_enters : GoodIn wsX4_meeting wsX4_enters := goodIn_r _ [11, 12, 13, 14, 15, 16, 17, 18, 19, 20, 21, 22, 23, 24, 25, 26, 27, 28, 29, 30] (by decide +kernel) (by decide +kernel)
set_option maxRecDepth 20000 in
theorem gX4_meeting_X4_enters : GoodIn wsX4_meeting (wsV RX4 150 RX4 yX4_enters wsX4_enters) := goodIn_app (goodIn_of _ (by decide +kernel)) ggX4_meeting_X4_enters
set_option maxRecDepth 20000 in
theorem ggX4_found_X4_goes : GoodIn wsX4_found wsX4_goes := goodIn_r _ [7, 8, 9, 10, 11, 12, 13, 14, 15, 16, 17, 18, 19, 20, 21, 22, 23, 24, 25] (by decide +kernel) (by decide +kernel)
set_option maxRecDepth 20000 in
theorem gX4_found_X4_goes : GoodIn wsX4_found (wsV RX4 66 RX4 yX4_goes wsX4_goes) := goodIn_app (goodIn_of _ (by decide +kernel)) ggX4_found_X4_goes
set_option maxRecDepth 20000 in
theorem ggX4_where_X4_goes : GoodIn wsX4_where wsX4_goes := goodIn_r _ [7, 8, 9, 10, 11, 12, 13, 14, 15, 16, 17, 18, 19, 20, 21, 22, 23, 24, 25] (by decide +kernel) (by decide +kernel)
set_option maxRecDepth 20000 in
theorem gX4_where_X4_goes : GoodIn wsX4_where (wsV RX4 66 RX4 yX4_goes wsX4_goes) := goodIn_app (goodIn_of _ (by decide +kernel)) ggX4_where_X4_goes
set_option maxRecDepth 20000 in
theorem ggX4_corner_X4_known : GoodIn wsX4_corner wsX4_known := goodIn_r _ [7, 8, 14, 15, 16, 17, 18, 19, 20, 21, 22, 23, 24, 25, 26, 27, 28, 29, 30] (by decide +kernel) (by decide +kernel)
set_option maxRecDepth 20000 in
theorem gX4_corner_X4_known : GoodIn wsX4_corner (wsV RX4 107 RX4 yX4_known wsX4_known) := goodIn_app (goodIn_of _ (by decide +kernel)) ggX4_corner_X4_known
set_option maxRecDepth 20000 in
theorem ggX4_corner_X4_goes : GoodIn wsX4_corner wsX4_goes := goodIn_r _ [12, 13, 14, 15, 16, 17, 18, 19, 20, 21, 22, 23, 24, 25, 26, 27, 28, 29, 30] (by decide +kernel) (by decide +kernel)
set_option maxRecDepth 20000 in
theorem gX4_corner_X4_goes : GoodIn wsX4_corner (wsV RX4 66 RX4 yX4_goes wsX4_goes) := goodIn_app (goodIn_of _ (by decide +kernel)) ggX4_corner_X4_goes
set_option maxRecDepth 20000 in
theorem ggX4_about_X4_known : GoodIn wsX4_about wsX4_known := goodIn_r _ [8, 9, 27, 28, 29, 30, 31, 32, 33, 34, 35, 36, 37, 38, 39, 40, 41, 42, 43] (by decide +kernel) (by decide +kernel)
set_option maxRecDepth 20000 in
theorem gX4_about_X4_known : GoodIn wsX4_about (wsV RX4 107 RX4 yX4_known wsX4_known) := goodIn_app (goodIn_of _ (by decide +kernel)) ggX4_about_X4_known
set_option maxRecDepth 20000 in
theorem ggX4_about_X4_goes : GoodIn wsX4_about wsX4_goes := goodIn_r _ [13, 14, 27, 28, 29, 30, 31, 32, 33, 34, 35, 36, 37, 38, 39, 40, 41, 42, 43] (by decide +kernel) (by decide +kernel)
set_option maxRecDepth 20000 in
theorem gX4_about_X4_goes : GoodIn wsX4_about (wsV RX4 66 RX4 yX4_goes wsX4_goes) := goodIn_app (goodIn_of _ (by decide +kernel)) ggX4_about_X4_goes
set_option maxRecDepth 20000 in
theorem ggX4_about_X4_pairsOf : GoodIn wsX4_about wsX4_pairsOf := goodIn_r _ [18, 19, 20, 21, 7, 22, 23, 24, 25, 26, 27, 28, 29, 30, 31, 32, 33, 34, 35, 36, 37, 38, 39, 40, 41, 42, 43] (by decide +kernel) (by decide +kernel)
set_option maxRecDepth 20000 in
theorem gX4_about_X4_pairsOf : GoodIn wsX4_about (wsV RX4 123 RX4 yX4_pairsOf wsX4_pairsOf) := goodIn_app (goodIn_of _ (by decide +kernel)) ggX4_about_X4_pairsOf
set_option maxRecDepth 20000 in
theorem ggX4_count_X4_goes : GoodIn wsX4_count wsX4_goes := goodIn_r _ [11, 12, 21, 22, 23, 24, 25, 26, 27, 28, 29, 30, 31, 32, 33, 34, 35, 36, 37] (by decide +kernel) (by decide +kernel)
set_option maxRecDepth 20000 in
theorem gX4_count_X4_goes : GoodIn wsX4_count (wsV RX4 66 RX4 yX4_goes wsX4_goes) := goodIn_app (goodIn_of _ (by decide +kernel)) ggX4_count_X4_goes
set_option maxRecDepth 20000 in
theorem ggX4_count_X4_bodies : GoodIn wsX4_count wsX4_bodies := goodIn_r _ [16, 17, 21, 22, 23, 24, 25, 26, 27, 28, 29, 30, 31, 32, 33, 34, 35, 36, 37] (by decide +kernel) (by decide +kernel)
set_option maxRecDepth 20000 in
theorem gX4_count_X4_bodies : GoodIn wsX4_count (wsV RX4 90 RX4 yX4_bodies wsX4_bodies) := goodIn_app (goodIn_of _ (by decide +kernel)) ggX4_count_X4_bodies
set_option maxRecDepth 20000 in
theorem ggX4_count_X4_bits : GoodIn wsX4_count wsX4_bits := goodIn_r _ [20] (by decide +kernel) (by decide +kernel)
set_option maxRecDepth 20000 in
theorem gX4_count_X4_bits : GoodIn wsX4_count (va_wsS RX4 136 yX4_bits wsX4_bits) := goodIn_app (goodIn_of _ (by decide +kernel)) ggX4_count_X4_bits
abbrev vwCl : List vw_C := [(RX0, TX0, 6), (RX1, TX1, 1), (RX2, TX2, 2), (RX3, TX3, 12), (RX4, TX4, 17)]
/-! ===== END printed: names ===== -/

