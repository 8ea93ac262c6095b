def RX0 : String := "HandArchive$Clip"
def TX0 : u_T := fun k => match k with
  | 0 => ("HandArchive$Clip", "persons", "I", true)
  | 1 => ("HandArchive$Clip", "purpose", "I", true)
  | 2 => ("HandArchive$Clip", "one", "LHandArchive$Clip;", true)
  | 3 => ("HandArchive$Clip", "other", "LHandArchive$Clip;", true)
  | 4 => ("HandArchive$Clip", "marks", "Ljava/util/ArrayList;", true)
  | _ => ("HandArchive$Clip", "isGone", "Z", false)
def tyX0 : Nat → FieldType := fun k => match k with
  | 0 => .int
  | 1 => .int
  | 2 => .object "HandArchive$Clip"
  | 3 => .object "HandArchive$Clip"
  | 4 => .object "java/util/ArrayList"
  | _ => .boolean
theorem nmX0 : ∀ a, a < 6 → ∀ b, b < 6 → a ≠ b → (TX0 a).2.1 ≠ (TX0 b).2.1 := by decide +kernel
theorem tyX0_ok : ∀ k, k < 6 → parseFieldDescriptor (TX0 k).2.2.1 = some (tyX0 k) := by decide +kernel
abbrev cX0_init : ByteArray := prog_2_method_1_code
def yX0_init : MethodName := ⟨RX0, "<init>", "(IILHandArchive$Clip;LHandArchive$Clip;)V"⟩
abbrev cX0_comesFrom : ByteArray := prog_2_method_2_code
def yX0_comesFrom : MethodName := ⟨RX0, "comesFrom", "(I)Z"⟩
abbrev cX0_isMadeOfGone : ByteArray := prog_2_method_3_code
def yX0_isMadeOfGone : MethodName := ⟨RX0, "isMadeOfGone", "()Z"⟩
abbrev cX0_countMarks : ByteArray := prog_2_method_4_code
def yX0_countMarks : MethodName := ⟨RX0, "countMarks", "(II)I"⟩
abbrev cX0_hasMarkWithin : ByteArray := prog_2_method_5_code
def yX0_hasMarkWithin : MethodName := ⟨RX0, "hasMarkWithin", "(IIII)Z"⟩
abbrev cX0_writeValues : ByteArray := prog_2_method_6_code
def yX0_writeValues : MethodName := ⟨RX0, "writeValues", "(II[I)V"⟩
def RX1 : String := "HandArchive$Hands"
def TX1 : u_T := fun k => match k with
  | 0 => ("HandArchive$Hands", "shape", "I", false)
  | 1 => ("HandArchive$Hands", "from", "I", false)
  | 2 => ("HandArchive$Hands", "to", "I", false)
  | 3 => ("HandArchive$Hands", "begin", "I", false)
  | 4 => ("HandArchive$Hands", "end", "I", false)
  | 5 => ("HandArchive$Hands", "second", "I", false)
  | _ => ("HandArchive$Hands", "base", "I", false)
def tyX1 : Nat → FieldType := fun k => match k with
  | 0 => .int
  | 1 => .int
  | 2 => .int
  | 3 => .int
  | 4 => .int
  | 5 => .int
  | _ => .int
theorem nmX1 : ∀ a, a < 7 → ∀ b, b < 7 → a ≠ b → (TX1 a).2.1 ≠ (TX1 b).2.1 := by decide +kernel
theorem tyX1_ok : ∀ k, k < 7 → parseFieldDescriptor (TX1 k).2.2.1 = some (tyX1 k) := by decide +kernel
abbrev cX1_init : ByteArray := prog_3_method_1_code
def yX1_init : MethodName := ⟨RX1, "<init>", "(IIIIIII)V"⟩
abbrev cX1_become : ByteArray := prog_3_method_2_code
def yX1_become : MethodName := ⟨RX1, "become", "(LHandArchive$Hands;)V"⟩
abbrev cX1_countUnlike : ByteArray := prog_3_method_3_code
def yX1_countUnlike : MethodName := ⟨RX1, "countUnlike", "(LHandArchive$Hands;)I"⟩
abbrev cX1_isJustLike : ByteArray := prog_3_method_4_code
def yX1_isJustLike : MethodName := ⟨RX1, "isJustLike", "(LHandArchive$Hands;)Z"⟩
abbrev cX1_goes : ByteArray := prog_3_method_5_code
def yX1_goes : MethodName := ⟨RX1, "goes", "()Z"⟩
abbrev cX1_isStill : ByteArray := prog_3_method_6_code
def yX1_isStill : MethodName := ⟨RX1, "isStill", "()Z"⟩
def RX2 : String := "HandArchive$Item"
def TX2 : u_T := fun k => match k with
  | 0 => ("HandArchive$Item", "kind", "I", true)
  | 1 => ("HandArchive$Item", "one", "I", true)
  | 2 => ("HandArchive$Item", "referent", "I", true)
  | 3 => ("HandArchive$Item", "told", "LHandArchive$Hands;", true)
  | 4 => ("HandArchive$Item", "left", "LHandArchive$Hands;", true)
  | 5 => ("HandArchive$Item", "passingTick", "I", false)
  | 6 => ("HandArchive$Item", "beginTick", "I", false)
  | _ => ("HandArchive$Item", "behindTick", "I", false)
def tyX2 : Nat → FieldType := fun k => match k with
  | 0 => .int
  | 1 => .int
  | 2 => .int
  | 3 => .object "HandArchive$Hands"
  | 4 => .object "HandArchive$Hands"
  | 5 => .int
  | 6 => .int
  | _ => .int
theorem nmX2 : ∀ a, a < 8 → ∀ b, b < 8 → a ≠ b → (TX2 a).2.1 ≠ (TX2 b).2.1 := by decide +kernel
theorem tyX2_ok : ∀ k, k < 8 → parseFieldDescriptor (TX2 k).2.2.1 = some (tyX2 k) := by decide +kernel
abbrev cX2_init : ByteArray := prog_4_method_1_code
def yX2_init : MethodName := ⟨RX2, "<init>", "(IIILHandArchive$Hands;)V"⟩
abbrev cX2_isPointing : ByteArray := prog_4_method_2_code
def yX2_isPointing : MethodName := ⟨RX2, "isPointing", "()Z"⟩
abbrev cX2_isOfSign : ByteArray := prog_4_method_3_code
def yX2_isOfSign : MethodName := ⟨RX2, "isOfSign", "()Z"⟩
def RX3 : String := "HandArchive$Mark"
def TX3 : u_T := fun k => match k with
  | 0 => ("HandArchive$Mark", "coder", "I", true)
  | 1 => ("HandArchive$Mark", "tier", "I", true)
  | 2 => ("HandArchive$Mark", "from", "I", true)
  | 3 => ("HandArchive$Mark", "to", "I", true)
  | _ => ("HandArchive$Mark", "value", "I", true)
def tyX3 : Nat → FieldType := fun k => match k with
  | 0 => .int
  | 1 => .int
  | 2 => .int
  | 3 => .int
  | _ => .int
theorem nmX3 : ∀ a, a < 5 → ∀ b, b < 5 → a ≠ b → (TX3 a).2.1 ≠ (TX3 b).2.1 := by decide +kernel
theorem tyX3_ok : ∀ k, k < 5 → parseFieldDescriptor (TX3 k).2.2.1 = some (tyX3 k) := by decide +kernel
abbrev cX3_init : ByteArray := prog_5_method_1_code
def yX3_init : MethodName := ⟨RX3, "<init>", "(IIIII)V"⟩
abbrev cX3_isOf : ByteArray := prog_5_method_2_code
def yX3_isOf : MethodName := ⟨RX3, "isOf", "(II)Z"⟩
abbrev cX3_writeValue : ByteArray := prog_5_method_3_code
def yX3_writeValue : MethodName := ⟨RX3, "writeValue", "([I)V"⟩
abbrev cX3_countTicksIn : ByteArray := prog_5_method_4_code
def yX3_countTicksIn : MethodName := ⟨RX3, "countTicksIn", "([I)I"⟩
def RX4 : String := "HandArchive$Rule"
def TX4 : u_T := fun k => match k with
  | 0 => ("HandArchive$Rule", "kind", "I", true)
  | _ => ("HandArchive$Rule", "exceptions", "[Z", true)
def tyX4 : Nat → FieldType := fun k => match k with
  | 0 => .int
  | _ => .array .boolean
theorem nmX4 : ∀ a, a < 2 → ∀ b, b < 2 → a ≠ b → (TX4 a).2.1 ≠ (TX4 b).2.1 := by decide +kernel
theorem tyX4_ok : ∀ k, k < 2 → parseFieldDescriptor (TX4 k).2.2.1 = some (tyX4 k) := by decide +kernel
abbrev cX4_init : ByteArray := prog_6_method_1_code
def yX4_init : MethodName := ⟨RX4, "<init>", "(I)V"⟩
abbrev cX4_hasException : ByteArray := prog_6_method_2_code
def yX4_hasException : MethodName := ⟨RX4, "hasException", "(I)Z"⟩
abbrev cX4_toggleException : ByteArray := prog_6_method_3_code
def yX4_toggleException : MethodName := ⟨RX4, "toggleException", "(I)Z"⟩
def RX5 : String := "HandArchive$Span"
def TX5 : u_T := fun k => match k with
  | 0 => ("HandArchive$Span", "face", "I", true)
  | 1 => ("HandArchive$Span", "from", "I", true)
  | _ => ("HandArchive$Span", "to", "I", true)
def tyX5 : Nat → FieldType := fun k => match k with
  | 0 => .int
  | 1 => .int
  | _ => .int
theorem nmX5 : ∀ a, a < 3 → ∀ b, b < 3 → a ≠ b → (TX5 a).2.1 ≠ (TX5 b).2.1 := by decide +kernel
theorem tyX5_ok : ∀ k, k < 3 → parseFieldDescriptor (TX5 k).2.2.1 = some (tyX5 k) := by decide +kernel
abbrev cX5_init : ByteArray := prog_7_method_1_code
def yX5_init : MethodName := ⟨RX5, "<init>", "(III)V"⟩
def RX6 : String := "HandArchive"
def TX6 : u_T := fun k => match k with
  | 0 => ("HandArchive", "signs", "Ljava/util/ArrayList;", true)
  | 1 => ("HandArchive", "items", "Ljava/util/ArrayList;", true)
  | 2 => ("HandArchive", "spans", "Ljava/util/ArrayList;", true)
  | 3 => ("HandArchive", "rules", "Ljava/util/ArrayList;", true)
  | 4 => ("HandArchive", "clips", "Ljava/util/ArrayList;", true)
  | 5 => ("HandArchive", "refusals", "[I", true)
  | 6 => ("HandArchive", "onesValues", "[I", true)
  | _ => ("HandArchive", "othersValues", "[I", true)
def tyX6 : Nat → FieldType := fun k => match k with
  | 0 => .object "java/util/ArrayList"
  | 1 => .object "java/util/ArrayList"
  | 2 => .object "java/util/ArrayList"
  | 3 => .object "java/util/ArrayList"
  | 4 => .object "java/util/ArrayList"
  | 5 => .array .int
  | 6 => .array .int
  | _ => .array .int
theorem nmX6 : ∀ a, a < 8 → ∀ b, b < 8 → a ≠ b → (TX6 a).2.1 ≠ (TX6 b).2.1 := by decide +kernel
theorem tyX6_ok : ∀ k, k < 8 → parseFieldDescriptor (TX6 k).2.2.1 = some (tyX6 k) := by decide +kernel
abbrev cX6_init : ByteArray := prog_1_method_1_code
def yX6_init : MethodName := ⟨RX6, "<init>", "()V"⟩
abbrev cX6_sign : ByteArray := prog_1_method_2_code
def yX6_sign : MethodName := ⟨RX6, "sign", "(IIIIIII)I"⟩
abbrev cX6_nearest : ByteArray := prog_1_method_3_code
def yX6_nearest : MethodName := ⟨RX6, "nearest", "(II)I"⟩
abbrev cX6_written : ByteArray := prog_1_method_4_code
def yX6_written : MethodName := ⟨RX6, "written", "(II)I"⟩
abbrev cX6_loses : ByteArray := prog_1_method_5_code
def yX6_loses : MethodName := ⟨RX6, "loses", "(II)I"⟩
abbrev cX6_tellsApart : ByteArray := prog_1_method_6_code
def yX6_tellsApart : MethodName := ⟨RX6, "tellsApart", "(III)Z"⟩
abbrev cX6_numberBy : ByteArray := prog_1_method_7_code
def yX6_numberBy : MethodName := ⟨RX6, "numberBy", "(ILHandArchive$Hands;)I"⟩
abbrev cX6_isPossibleBase : ByteArray := prog_1_method_8_code
def yX6_isPossibleBase : MethodName := ⟨RX6, "isPossibleBase", "(II)Z"⟩
abbrev cX6_firstSignJustLike : ByteArray := prog_1_method_9_code
def yX6_firstSignJustLike : MethodName := ⟨RX6, "firstSignJustLike", "(LHandArchive$Hands;)I"⟩
abbrev cX6_countSignsJustLike : ByteArray := prog_1_method_10_code
def yX6_countSignsJustLike : MethodName := ⟨RX6, "countSignsJustLike", "(LHandArchive$Hands;)I"⟩
abbrev cX6_isSign : ByteArray := prog_1_method_11_code
def yX6_isSign : MethodName := ⟨RX6, "isSign", "(I)Z"⟩
abbrev cX6_requireSign : ByteArray := prog_1_method_12_code
def yX6_requireSign : MethodName := ⟨RX6, "requireSign", "(I)V"⟩
abbrev cX6_requireSchool : ByteArray := prog_1_method_13_code
def yX6_requireSchool : MethodName := ⟨RX6, "requireSchool", "(I)V"⟩
abbrev cX6_item : ByteArray := prog_1_method_14_code
def yX6_item : MethodName := ⟨RX6, "item", "(IIII)I"⟩
abbrev cX6_clear : ByteArray := prog_1_method_15_code
def yX6_clear : MethodName := ⟨RX6, "clear", "()I"⟩
abbrev cX6_face : ByteArray := prog_1_method_16_code
def yX6_face : MethodName := ⟨RX6, "face", "(III)I"⟩
abbrev cX6_shown : ByteArray := prog_1_method_17_code
def yX6_shown : MethodName := ⟨RX6, "shown", "(II)I"⟩
abbrev cX6_standsFor : ByteArray := prog_1_method_18_code
def yX6_standsFor : MethodName := ⟨RX6, "standsFor", "(II)I"⟩
abbrev cX6_hasSignAndLoci : ByteArray := prog_1_method_19_code
def yX6_hasSignAndLoci : MethodName := ⟨RX6, "hasSignAndLoci", "(IIII)Z"⟩
abbrev cX6_isPossibleItem : ByteArray := prog_1_method_20_code
def yX6_isPossibleItem : MethodName := ⟨RX6, "isPossibleItem", "(IIII)Z"⟩
abbrev cX6_lociStandAsTheyShould : ByteArray := prog_1_method_21_code
def yX6_lociStandAsTheyShould : MethodName := ⟨RX6, "lociStandAsTheyShould", "(IIII)Z"⟩
abbrev cX6_isReferentPlaced : ByteArray := prog_1_method_22_code
def yX6_isReferentPlaced : MethodName := ⟨RX6, "isReferentPlaced", "(I)Z"⟩
abbrev cX6_referentNow : ByteArray := prog_1_method_23_code
def yX6_referentNow : MethodName := ⟨RX6, "referentNow", "(I)I"⟩
abbrev cX6_referentBehind : ByteArray := prog_1_method_24_code
def yX6_referentBehind : MethodName := ⟨RX6, "referentBehind", "(II)I"⟩
abbrev cX6_handsTold : ByteArray := prog_1_method_25_code
def yX6_handsTold : MethodName := ⟨RX6, "handsTold", "(IIII)LHandArchive$Hands;"⟩
abbrev cX6_stillHands : ByteArray := prog_1_method_26_code
def yX6_stillHands : MethodName := ⟨RX6, "stillHands", "(III)LHandArchive$Hands;"⟩
abbrev cX6_isArticulatorBusy : ByteArray := prog_1_method_27_code
def yX6_isArticulatorBusy : MethodName := ⟨RX6, "isArticulatorBusy", "(III)Z"⟩
abbrev cX6_faceShown : ByteArray := prog_1_method_28_code
def yX6_faceShown : MethodName := ⟨RX6, "faceShown", "(II)I"⟩
abbrev cX6_faceOver : ByteArray := prog_1_method_29_code
def yX6_faceOver : MethodName := ⟨RX6, "faceOver", "(II)I"⟩
abbrev cX6_articulatorOf : ByteArray := prog_1_method_30_code
def yX6_articulatorOf : MethodName := ⟨RX6, "articulatorOf", "(I)I"⟩
abbrev cX6_requireItem : ByteArray := prog_1_method_31_code
def yX6_requireItem : MethodName := ⟨RX6, "requireItem", "(I)V"⟩
abbrev cX6_isLocus : ByteArray := prog_1_method_32_code
def yX6_isLocus : MethodName := ⟨RX6, "isLocus", "(I)Z"⟩
abbrev cX6_placeOf : ByteArray := prog_1_method_33_code
def yX6_placeOf : MethodName := ⟨RX6, "placeOf", "(I)I"⟩
abbrev cX6_locusAt : ByteArray := prog_1_method_34_code
def yX6_locusAt : MethodName := ⟨RX6, "locusAt", "(I)I"⟩
abbrev cX6_rule : ByteArray := prog_1_method_35_code
def yX6_rule : MethodName := ⟨RX6, "rule", "(I)I"⟩
abbrev cX6_except : ByteArray := prog_1_method_36_code
def yX6_except : MethodName := ⟨RX6, "except", "(II)Z"⟩
abbrev cX6_applyRules : ByteArray := prog_1_method_37_code
def yX6_applyRules : MethodName := ⟨RX6, "applyRules", "()V"⟩
abbrev cX6_applyRule : ByteArray := prog_1_method_38_code
def yX6_applyRule : MethodName := ⟨RX6, "applyRule", "(LHandArchive$Rule;)V"⟩
abbrev cX6_dropMirrored : ByteArray := prog_1_method_39_code
def yX6_dropMirrored : MethodName := ⟨RX6, "dropMirrored", "(ILHandArchive$Item;)V"⟩
abbrev cX6_hasNoSecond : ByteArray := prog_1_method_40_code
def yX6_hasNoSecond : MethodName := ⟨RX6, "hasNoSecond", "(I)Z"⟩
abbrev cX6_likenShape : ByteArray := prog_1_method_41_code
def yX6_likenShape : MethodName := ⟨RX6, "likenShape", "(ILHandArchive$Item;)V"⟩
abbrev cX6_easeTurn : ByteArray := prog_1_method_42_code
def yX6_easeTurn : MethodName := ⟨RX6, "easeTurn", "(ILHandArchive$Item;)V"⟩
abbrev cX6_swapEnds : ByteArray := prog_1_method_43_code
def yX6_swapEnds : MethodName := ⟨RX6, "swapEnds", "(ILHandArchive$Item;)V"⟩
abbrev cX6_slideLetter : ByteArray := prog_1_method_44_code
def yX6_slideLetter : MethodName := ⟨RX6, "slideLetter", "(ILHandArchive$Item;)V"⟩
abbrev cX6_hasItemAhead : ByteArray := prog_1_method_45_code
def yX6_hasItemAhead : MethodName := ⟨RX6, "hasItemAhead", "(I)Z"⟩
abbrev cX6_signed : ByteArray := prog_1_method_46_code
def yX6_signed : MethodName := ⟨RX6, "signed", "(II)I"⟩
abbrev cX6_at : ByteArray := prog_1_method_47_code
def yX6_at : MethodName := ⟨RX6, "at", "(II)I"⟩
abbrev cX6_readBack : ByteArray := prog_1_method_48_code
def yX6_readBack : MethodName := ⟨RX6, "readBack", "(II)I"⟩
abbrev cX6_signAll : ByteArray := prog_1_method_49_code
def yX6_signAll : MethodName := ⟨RX6, "signAll", "()V"⟩
abbrev cX6_ticksOfPassing : ByteArray := prog_1_method_50_code
def yX6_ticksOfPassing : MethodName := ⟨RX6, "ticksOfPassing", "(LHandArchive$Hands;LHandArchive$Hands;)I"⟩
abbrev cX6_ticksOfItem : ByteArray := prog_1_method_51_code
def yX6_ticksOfItem : MethodName := ⟨RX6, "ticksOfItem", "(LHandArchive$Hands;)I"⟩
abbrev cX6_itemAtTick : ByteArray := prog_1_method_52_code
def yX6_itemAtTick : MethodName := ⟨RX6, "itemAtTick", "(I)I"⟩
abbrev cX6_placeInPassing : ByteArray := prog_1_method_53_code
def yX6_placeInPassing : MethodName := ⟨RX6, "placeInPassing", "(II)I"⟩
abbrev cX6_placeInItem : ByteArray := prog_1_method_54_code
def yX6_placeInItem : MethodName := ⟨RX6, "placeInItem", "(LHandArchive$Item;I)I"⟩
abbrev cX6_turnInItem : ByteArray := prog_1_method_55_code
def yX6_turnInItem : MethodName := ⟨RX6, "turnInItem", "(LHandArchive$Item;I)I"⟩
abbrev cX6_stepsDone : ByteArray := prog_1_method_56_code
def yX6_stepsDone : MethodName := ⟨RX6, "stepsDone", "(LHandArchive$Item;I)I"⟩
abbrev cX6_placeOnWay : ByteArray := prog_1_method_57_code
def yX6_placeOnWay : MethodName := ⟨RX6, "placeOnWay", "(III)I"⟩
abbrev cX6_kindReadBack : ByteArray := prog_1_method_58_code
def yX6_kindReadBack : MethodName := ⟨RX6, "kindReadBack", "(LHandArchive$Item;)I"⟩
abbrev cX6_numberReadBack : ByteArray := prog_1_method_59_code
def yX6_numberReadBack : MethodName := ⟨RX6, "numberReadBack", "(ILHandArchive$Hands;)I"⟩
abbrev cX6_pointingReadBack : ByteArray := prog_1_method_60_code
def yX6_pointingReadBack : MethodName := ⟨RX6, "pointingReadBack", "(LHandArchive$Hands;)I"⟩
abbrev cX6_letterReadBack : ByteArray := prog_1_method_61_code
def yX6_letterReadBack : MethodName := ⟨RX6, "letterReadBack", "(LHandArchive$Hands;)I"⟩
abbrev cX6_take : ByteArray := prog_1_method_62_code
def yX6_take : MethodName := ⟨RX6, "take", "(I)I"⟩
abbrev cX6_make : ByteArray := prog_1_method_63_code
def yX6_make : MethodName := ⟨RX6, "make", "(III)I"⟩
abbrev cX6_allow : ByteArray := prog_1_method_64_code
def yX6_allow : MethodName := ⟨RX6, "allow", "(IIZ)I"⟩
abbrev cX6_withdraw : ByteArray := prog_1_method_65_code
def yX6_withdraw : MethodName := ⟨RX6, "withdraw", "(I)I"⟩
abbrev cX6_persons : ByteArray := prog_1_method_66_code
def yX6_persons : MethodName := ⟨RX6, "persons", "(I)I"⟩
abbrev cX6_mark : ByteArray := prog_1_method_67_code
def yX6_mark : MethodName := ⟨RX6, "mark", "(IIIIII)I"⟩
abbrev cX6_agree : ByteArray := prog_1_method_68_code
def yX6_agree : MethodName := ⟨RX6, "agree", "(IIIII)I"⟩
abbrev cX6_keepClip : ByteArray := prog_1_method_69_code
def yX6_keepClip : MethodName := ⟨RX6, "keepClip", "(LHandArchive$Clip;)I"⟩
abbrev cX6_letGo : ByteArray := prog_1_method_70_code
def yX6_letGo : MethodName := ⟨RX6, "letGo", "(II)I"⟩
abbrev cX6_countTicksAlike : ByteArray := prog_1_method_71_code
def yX6_countTicksAlike : MethodName := ⟨RX6, "countTicksAlike", "()I"⟩
abbrev cX6_countTicksWithValue : ByteArray := prog_1_method_72_code
def yX6_countTicksWithValue : MethodName := ⟨RX6, "countTicksWithValue", "()I"⟩
abbrev cX6_countMarksShared : ByteArray := prog_1_method_73_code
def yX6_countMarksShared : MethodName := ⟨RX6, "countMarksShared", "(LHandArchive$Clip;II)I"⟩
abbrev cX6_requireClip : ByteArray := prog_1_method_74_code
def yX6_requireClip : MethodName := ⟨RX6, "requireClip", "(I)V"⟩
abbrev cX6_requirePerson : ByteArray := prog_1_method_75_code
def yX6_requirePerson : MethodName := ⟨RX6, "requirePerson", "(I)V"⟩
abbrev cX6_requirePurpose : ByteArray := prog_1_method_76_code
def yX6_requirePurpose : MethodName := ⟨RX6, "requirePurpose", "(I)V"⟩
abbrev cX6_requireCoder : ByteArray := prog_1_method_77_code
def yX6_requireCoder : MethodName := ⟨RX6, "requireCoder", "(I)V"⟩
abbrev cX6_requireTier : ByteArray := prog_1_method_78_code
def yX6_requireTier : MethodName := ⟨RX6, "requireTier", "(I)V"⟩
abbrev cX6_isBelow : ByteArray := prog_1_method_79_code
def yX6_isBelow : MethodName := ⟨RX6, "isBelow", "(II)Z"⟩
abbrev cX6_rowOf : ByteArray := prog_1_method_80_code
def yX6_rowOf : MethodName := ⟨RX6, "rowOf", "(I)I"⟩
abbrev cX6_columnOf : ByteArray := prog_1_method_81_code
def yX6_columnOf : MethodName := ⟨RX6, "columnOf", "(I)I"⟩
abbrev cX6_distance : ByteArray := prog_1_method_82_code
def yX6_distance : MethodName := ⟨RX6, "distance", "(II)I"⟩
abbrev cX6_direction : ByteArray := prog_1_method_83_code
def yX6_direction : MethodName := ⟨RX6, "direction", "(II)I"⟩
def RX7 : String := "HandArchiveModel"
def TX7 : u_T := fun k => match k with
  | _ => ("", "", "", false)
def tyX7 : Nat → FieldType := fun k => match k with
  | _ => .int
theorem nmX7 : ∀ a, a < 0 → ∀ b, b < 0 → a ≠ b → (TX7 a).2.1 ≠ (TX7 b).2.1 := by decide +kernel
theorem tyX7_ok : ∀ k, k < 0 → parseFieldDescriptor (TX7 k).2.2.1 = some (tyX7 k) := by decide +kernel
def RJx145de : String := "java/io/Serializable"
def TJx145de : u_T := fun k => match k with
  | _ => ("", "", "", false)
def tyJx145de : Nat → FieldType := fun k => match k with
  | _ => .int
theorem nmJx145de : ∀ a, a < 0 → ∀ b, b < 0 → a ≠ b → (TJx145de a).2.1 ≠ (TJx145de b).2.1 := by decide +kernel
theorem tyJx145de_ok : ∀ k, k < 0 → parseFieldDescriptor (TJx145de k).2.2.1 = some (tyJx145de k) := by decide +kernel
def RJx8e188 : String := "java/lang/Cloneable"
def TJx8e188 : u_T := fun k => match k with
  | _ => ("", "", "", false)
def tyJx8e188 : Nat → FieldType := fun k => match k with
  | _ => .int
theorem nmJx8e188 : ∀ a, a < 0 → ∀ b, b < 0 → a ≠ b → (TJx8e188 a).2.1 ≠ (TJx8e188 b).2.1 := by decide +kernel
theorem tyJx8e188_ok : ∀ k, k < 0 → parseFieldDescriptor (TJx8e188 k).2.2.1 = some (tyJx8e188 k) := by decide +kernel
def RJxab1ab : String := "java/lang/Iterable"
def TJxab1ab : u_T := fun k => match k with
  | _ => ("", "", "", false)
def tyJxab1ab : Nat → FieldType := fun k => match k with
  | _ => .int
theorem nmJxab1ab : ∀ a, a < 0 → ∀ b, b < 0 → a ≠ b → (TJxab1ab a).2.1 ≠ (TJxab1ab b).2.1 := by decide +kernel
theorem tyJxab1ab_ok : ∀ k, k < 0 → parseFieldDescriptor (TJxab1ab k).2.2.1 = some (tyJxab1ab k) := by decide +kernel
def RJ9 : String := "java/lang/Math"
def TJ9 : u_T := fun k => match k with
  | _ => ("", "", "", false)
def tyJ9 : Nat → FieldType := fun k => match k with
  | _ => .int
theorem nmJ9 : ∀ a, a < 0 → ∀ b, b < 0 → a ≠ b → (TJ9 a).2.1 ≠ (TJ9 b).2.1 := by decide +kernel
theorem tyJ9_ok : ∀ k, k < 0 → parseFieldDescriptor (TJ9 k).2.2.1 = some (tyJ9 k) := by decide +kernel
abbrev cJ9_abs_0f7a4 : ByteArray := prog_17_method_59_code
def yJ9_abs_0f7a4 : MethodName := ⟨RJ9, "abs", "(I)I"⟩
abbrev cJ9_max_7cf53 : ByteArray := prog_17_method_65_code
def yJ9_max_7cf53 : MethodName := ⟨RJ9, "max", "(II)I"⟩
abbrev cJ9_min_7cf53 : ByteArray := prog_17_method_69_code
def yJ9_min_7cf53 : MethodName := ⟨RJ9, "min", "(II)I"⟩
def RJ0 : String := "java/lang/String"
def TJ0 : u_T := fun k => match k with
  | _ => ("", "", "", false)
def tyJ0 : Nat → FieldType := fun k => match k with
  | _ => .int
theorem nmJ0 : ∀ a, a < 0 → ∀ b, b < 0 → a ≠ b → (TJ0 a).2.1 ≠ (TJ0 b).2.1 := by decide +kernel
theorem tyJ0_ok : ∀ k, k < 0 → parseFieldDescriptor (TJ0 k).2.2.1 = some (tyJ0 k) := by decide +kernel
def RJ10 : String := "java/lang/System"
def TJ10 : u_T := fun k => match k with
  | _ => ("", "", "", false)
def tyJ10 : Nat → FieldType := fun k => match k with
  | _ => .int
theorem nmJ10 : ∀ a, a < 0 → ∀ b, b < 0 → a ≠ b → (TJ10 a).2.1 ≠ (TJ10 b).2.1 := by decide +kernel
theorem tyJ10_ok : ∀ k, k < 0 → parseFieldDescriptor (TJ10 k).2.2.1 = some (tyJ10 k) := by decide +kernel
def RJxa1e45 : String := "java/util/AbstractCollection"
def TJxa1e45 : u_T := fun k => match k with
  | _ => ("", "", "", false)
def tyJxa1e45 : Nat → FieldType := fun k => match k with
  | _ => .int
theorem nmJxa1e45 : ∀ a, a < 0 → ∀ b, b < 0 → a ≠ b → (TJxa1e45 a).2.1 ≠ (TJxa1e45 b).2.1 := by decide +kernel
theorem tyJxa1e45_ok : ∀ k, k < 0 → parseFieldDescriptor (TJxa1e45 k).2.2.1 = some (tyJxa1e45 k) := by decide +kernel
abbrev cJxa1e45_init_da8c8 : ByteArray := prog_22_method_1_code
def yJxa1e45_init_da8c8 : MethodName := ⟨RJxa1e45, "<init>", "()V"⟩
def RJxc12de : String := "java/util/AbstractList"
def TJxc12de : u_T := fun k => match k with
  | _ => ("", "", "", false)
def tyJxc12de : Nat → FieldType := fun k => match k with
  | _ => .int
theorem nmJxc12de : ∀ a, a < 0 → ∀ b, b < 0 → a ≠ b → (TJxc12de a).2.1 ≠ (TJxc12de b).2.1 := by decide +kernel
theorem tyJxc12de_ok : ∀ k, k < 0 → parseFieldDescriptor (TJxc12de k).2.2.1 = some (tyJxc12de k) := by decide +kernel
abbrev cJxc12de_init_da8c8 : ByteArray := prog_23_method_1_code
def yJxc12de_init_da8c8 : MethodName := ⟨RJxc12de, "<init>", "()V"⟩
def RJx4a65c : String := "java/util/ArrayList"
def TJx4a65c : u_T := fun k => match k with
  | 0 => ("java/util/AbstractList", "modCount", "I", false)
  | 1 => ("java/util/ArrayList", "elementData", "[Ljava/lang/Object;", false)
  | _ => ("java/util/ArrayList", "size", "I", false)
def tyJx4a65c : Nat → FieldType := fun k => match k with
  | 0 => .int
  | 1 => .array (.object "java/lang/Object")
  | _ => .int
theorem nmJx4a65c : ∀ a, a < 3 → ∀ b, b < 3 → a ≠ b → (TJx4a65c a).2.1 ≠ (TJx4a65c b).2.1 := by decide +kernel
theorem tyJx4a65c_ok : ∀ k, k < 3 → parseFieldDescriptor (TJx4a65c k).2.2.1 = some (tyJx4a65c k) := by decide +kernel
abbrev cJx4a65c_init_da8c8 : ByteArray := prog_24_method_2_code
def yJx4a65c_init_da8c8 : MethodName := ⟨RJx4a65c, "<init>", "()V"⟩
abbrev cJx4a65c_grow_92f84 : ByteArray := prog_24_method_6_code
def yJx4a65c_grow_92f84 : MethodName := ⟨RJx4a65c, "grow", "(I)[Ljava/lang/Object;"⟩
abbrev cJx4a65c_grow_d5877 : ByteArray := prog_24_method_7_code
def yJx4a65c_grow_d5877 : MethodName := ⟨RJx4a65c, "grow", "()[Ljava/lang/Object;"⟩
abbrev cJx4a65c_size_8abf5 : ByteArray := prog_24_method_8_code
def yJx4a65c_size_8abf5 : MethodName := ⟨RJx4a65c, "size", "()I"⟩
abbrev cJx4a65c_elementData_915e3 : ByteArray := prog_24_method_18_code
def yJx4a65c_elementData_915e3 : MethodName := ⟨RJx4a65c, "elementData", "(I)Ljava/lang/Object;"⟩
abbrev cJx4a65c_get_915e3 : ByteArray := prog_24_method_20_code
def yJx4a65c_get_915e3 : MethodName := ⟨RJx4a65c, "get", "(I)Ljava/lang/Object;"⟩
abbrev cJx4a65c_add_72be8 : ByteArray := prog_24_method_24_code
def yJx4a65c_add_72be8 : MethodName := ⟨RJx4a65c, "add", "(Ljava/lang/Object;[Ljava/lang/Object;I)V"⟩
abbrev cJx4a65c_add_9ea2d : ByteArray := prog_24_method_25_code
def yJx4a65c_add_9ea2d : MethodName := ⟨RJx4a65c, "add", "(Ljava/lang/Object;)Z"⟩
abbrev cJx4a65c_clear_da8c8 : ByteArray := prog_24_method_40_code
def yJx4a65c_clear_da8c8 : MethodName := ⟨RJx4a65c, "clear", "()V"⟩
def RJ7 : String := "java/util/Arrays"
def TJ7 : u_T := fun k => match k with
  | _ => ("", "", "", false)
def tyJ7 : Nat → FieldType := fun k => match k with
  | _ => .int
theorem nmJ7 : ∀ a, a < 0 → ∀ b, b < 0 → a ≠ b → (TJ7 a).2.1 ≠ (TJ7 b).2.1 := by decide +kernel
theorem tyJ7_ok : ∀ k, k < 0 → parseFieldDescriptor (TJ7 k).2.2.1 = some (tyJ7 k) := by decide +kernel
abbrev cJ7_copyOf_1904c : ByteArray := prog_25_method_119_code
def yJ7_copyOf_1904c : MethodName := ⟨RJ7, "copyOf", "([Ljava/lang/Object;I)[Ljava/lang/Object;"⟩
abbrev cJ7_copyOf_6403c : ByteArray := prog_25_method_120_code
def yJ7_copyOf_6403c : MethodName := ⟨RJ7, "copyOf", "([Ljava/lang/Object;ILjava/lang/Class;)[Ljava/lang/Object;"⟩
def RJx5ef63 : String := "java/util/Collection"
def TJx5ef63 : u_T := fun k => match k with
  | _ => ("", "", "", false)
def tyJx5ef63 : Nat → FieldType := fun k => match k with
  | _ => .int
theorem nmJx5ef63 : ∀ a, a < 0 → ∀ b, b < 0 → a ≠ b → (TJx5ef63 a).2.1 ≠ (TJx5ef63 b).2.1 := by decide +kernel
theorem tyJx5ef63_ok : ∀ k, k < 0 → parseFieldDescriptor (TJx5ef63 k).2.2.1 = some (tyJx5ef63 k) := by decide +kernel
def RJxbd725 : String := "java/util/List"
def TJxbd725 : u_T := fun k => match k with
  | _ => ("", "", "", false)
def tyJxbd725 : Nat → FieldType := fun k => match k with
  | _ => .int
theorem nmJxbd725 : ∀ a, a < 0 → ∀ b, b < 0 → a ≠ b → (TJxbd725 a).2.1 ≠ (TJxbd725 b).2.1 := by decide +kernel
theorem tyJxbd725_ok : ∀ k, k < 0 → parseFieldDescriptor (TJxbd725 k).2.2.1 = some (tyJxbd725 k) := by decide +kernel
def RJ15 : String := "java/util/Objects"
def TJ15 : u_T := fun k => match k with
  | _ => ("", "", "", false)
def tyJ15 : Nat → FieldType := fun k => match k with
  | _ => .int
theorem nmJ15 : ∀ a, a < 0 → ∀ b, b < 0 → a ≠ b → (TJ15 a).2.1 ≠ (TJ15 b).2.1 := by decide +kernel
theorem tyJ15_ok : ∀ k, k < 0 → parseFieldDescriptor (TJ15 k).2.2.1 = some (tyJ15 k) := by decide +kernel
abbrev cJ15_checkIndex_7cf53 : ByteArray := prog_28_method_17_code
def yJ15_checkIndex_7cf53 : MethodName := ⟨RJ15, "checkIndex", "(II)I"⟩
def RJxf0a74 : String := "java/util/RandomAccess"
def TJxf0a74 : u_T := fun k => match k with
  | _ => ("", "", "", false)
def tyJxf0a74 : Nat → FieldType := fun k => match k with
  | _ => .int
theorem nmJxf0a74 : ∀ a, a < 0 → ∀ b, b < 0 → a ≠ b → (TJxf0a74 a).2.1 ≠ (TJxf0a74 b).2.1 := by decide +kernel
theorem tyJxf0a74_ok : ∀ k, k < 0 → parseFieldDescriptor (TJxf0a74 k).2.2.1 = some (tyJxf0a74 k) := by decide +kernel
def RJxa66e6 : String := "java/util/SequencedCollection"
def TJxa66e6 : u_T := fun k => match k with
  | _ => ("", "", "", false)
def tyJxa66e6 : Nat → FieldType := fun k => match k with
  | _ => .int
theorem nmJxa66e6 : ∀ a, a < 0 → ∀ b, b < 0 → a ≠ b → (TJxa66e6 a).2.1 ≠ (TJxa66e6 b).2.1 := by decide +kernel
theorem tyJxa66e6_ok : ∀ k, k < 0 → parseFieldDescriptor (TJxa66e6 k).2.2.1 = some (tyJxa66e6 k) := by decide +kernel
def RJ8 : String := "jdk/internal/util/ArraysSupport"
def TJ8 : u_T := fun k => match k with
  | _ => ("", "", "", false)
def tyJ8 : Nat → FieldType := fun k => match k with
  | _ => .int
theorem nmJ8 : ∀ a, a < 0 → ∀ b, b < 0 → a ≠ b → (TJ8 a).2.1 ≠ (TJ8 b).2.1 := by decide +kernel
theorem tyJ8_ok : ∀ k, k < 0 → parseFieldDescriptor (TJ8 k).2.2.1 = some (tyJ8 k) := by decide +kernel
abbrev cJ8_newLength_cabcc : ByteArray := prog_31_method_27_code
def yJ8_newLength_cabcc : MethodName := ⟨RJ8, "newLength", "(III)I"⟩
abbrev cJ8_hugeLength_7cf53 : ByteArray := prog_31_method_28_code
def yJ8_hugeLength_7cf53 : MethodName := ⟨RJ8, "hugeLength", "(II)I"⟩
def RJ3 : String := "jdk/internal/util/Preconditions"
def TJ3 : u_T := fun k => match k with
  | _ => ("", "", "", false)
def tyJ3 : Nat → FieldType := fun k => match k with
  | _ => .int
theorem nmJ3 : ∀ a, a < 0 → ∀ b, b < 0 → a ≠ b → (TJ3 a).2.1 ≠ (TJ3 b).2.1 := by decide +kernel
theorem tyJ3_ok : ∀ k, k < 0 → parseFieldDescriptor (TJ3 k).2.2.1 = some (tyJ3 k) := by decide +kernel
abbrev cJ3_checkIndex_8e157 : ByteArray := prog_32_method_11_code
def yJ3_checkIndex_8e157 : MethodName := ⟨RJ3, "checkIndex", "(IILjava/util/function/BiFunction;)I"⟩
def RL : String := "HandArchiveLaw"
abbrev cL_act : ByteArray := method_2_code
def yL_act : MethodName := ⟨RL, "act", "(LHandArchive;IIIII)I"⟩
abbrev cL_sign : ByteArray := method_3_code
def yL_sign : MethodName := ⟨RL, "sign", "(LHandArchive;IIIIIII)I"⟩
abbrev cL_mark : ByteArray := method_4_code
def yL_mark : MethodName := ⟨RL, "mark", "(LHandArchive;IIIIII)I"⟩
abbrev cL_agree : ByteArray := method_5_code
def yL_agree : MethodName := ⟨RL, "agree", "(LHandArchive;IIIII)I"⟩
abbrev cL_refuses : ByteArray := method_6_code
def yL_refuses : MethodName := ⟨RL, "refuses", "(LHandArchive;IIII)Z"⟩
abbrev cL_says : ByteArray := method_7_code
def yL_says : MethodName := ⟨RL, "says", "()Z"⟩
abbrev cL_faces : ByteArray := method_8_code
def yL_faces : MethodName := ⟨RL, "faces", "(LHandArchive;)Z"⟩
abbrev cL_rules : ByteArray := method_9_code
def yL_rules : MethodName := ⟨RL, "rules", "()Z"⟩
abbrev cL_clips : ByteArray := method_10_code
def yL_clips : MethodName := ⟨RL, "clips", "()Z"⟩
abbrev cL_law : ByteArray := code
def yL_law : MethodName := ⟨RL, "law", "([I)Z"⟩
