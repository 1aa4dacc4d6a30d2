/-! ===== BEGIN printed: names, fields, word lists, decode rows ===== -/
def RX0 : String := "HedgeClips$Clip"
def TX0 : u_T := fun k => match k with
  | _ => ("", "", "", false)
def tyX0 : Nat → FieldType := fun k => match k with
  | _ => .int
theorem nmX0 : ∀ a, a < 0 → ∀ b, b < 0 → a ≠ b → (TX0 a).2.1 ≠ (TX0 b).2.1 := by decide +kernel
theorem tyX0_ok : ∀ k, k < 0 → parseFieldDescriptor (TX0 k).2.2.1 = some (tyX0 k) := by decide +kernel
abbrev cX0_number : ByteArray := prog_2_method_2_code
def yX0_number : MethodName := ⟨RX0, "number", "(III)I"⟩
abbrev cX0_from : ByteArray := prog_2_method_3_code
def yX0_from : MethodName := ⟨RX0, "from", "(I)I"⟩
abbrev cX0_to : ByteArray := prog_2_method_4_code
def yX0_to : MethodName := ⟨RX0, "to", "(I)I"⟩
abbrev cX0_lost : ByteArray := prog_2_method_5_code
def yX0_lost : MethodName := ⟨RX0, "lost", "(I)I"⟩
def RX1 : String := "HedgeClips$Garden"
def TX1 : u_T := fun k => match k with
  | 0 => ("HedgeClips$Garden", "stems", "I", false)
  | 1 => ("HedgeClips$Garden", "hedge", "I", false)
  | 2 => ("HedgeClips$Garden", "wind", "I", false)
  | 3 => ("HedgeClips$Garden", "turn", "I", false)
  | 4 => ("HedgeClips$Garden", "fine", "I", false)
  | 5 => ("HedgeClips$Garden", "reach", "I", false)
  | 6 => ("HedgeClips$Garden", "first", "LHedgeClips$Gardener;", true)
  | _ => ("HedgeClips$Garden", "second", "LHedgeClips$Gardener;", true)
def tyX1 : Nat → FieldType := fun k => match k with
  | 0 => .int
  | 1 => .int
  | 2 => .int
  | 3 => .int
  | 4 => .int
  | 5 => .int
  | 6 => .object "HedgeClips$Gardener"
  | _ => .object "HedgeClips$Gardener"
theorem nmX1 : ∀ a, a < 8 → ∀ b, b < 8 → a ≠ b → (TX1 a).2.1 ≠ (TX1 b).2.1 := by decide +kernel
theorem tyX1_ok : ∀ k, k < 8 → parseFieldDescriptor (TX1 k).2.2.1 = some (tyX1 k) := by decide +kernel
abbrev cX1_init : ByteArray := prog_3_method_1_code
def yX1_init : MethodName := ⟨RX1, "<init>", "()V"⟩
abbrev cX1_makeNew : ByteArray := prog_3_method_2_code
def yX1_makeNew : MethodName := ⟨RX1, "makeNew", "(II)V"⟩
abbrev cX1_replant : ByteArray := prog_3_method_3_code
def yX1_replant : MethodName := ⟨RX1, "replant", "(II)V"⟩
abbrev cX1_becomes : ByteArray := prog_3_method_4_code
def yX1_becomes : MethodName := ⟨RX1, "becomes", "(LHedgeClips$Garden;)V"⟩
abbrev cX1_hasGardener : ByteArray := prog_3_method_5_code
def yX1_hasGardener : MethodName := ⟨RX1, "hasGardener", "(I)Z"⟩
abbrev cX1_isWind : ByteArray := prog_3_method_6_code
def yX1_isWind : MethodName := ⟨RX1, "isWind", "(I)Z"⟩
abbrev cX1_who : ByteArray := prog_3_method_7_code
def yX1_who : MethodName := ⟨RX1, "who", "(I)LHedgeClips$Gardener;"⟩
abbrev cX1_hasStem : ByteArray := prog_3_method_8_code
def yX1_hasStem : MethodName := ⟨RX1, "hasStem", "(I)Z"⟩
abbrev cX1_allowsClip : ByteArray := prog_3_method_9_code
def yX1_allowsClip : MethodName := ⟨RX1, "allowsClip", "(III)Z"⟩
abbrev cX1_isOver : ByteArray := prog_3_method_10_code
def yX1_isOver : MethodName := ⟨RX1, "isOver", "()Z"⟩
abbrev cX1_allClips : ByteArray := prog_3_method_11_code
def yX1_allClips : MethodName := ⟨RX1, "allClips", "()I"⟩
abbrev cX1_allFines : ByteArray := prog_3_method_12_code
def yX1_allFines : MethodName := ⟨RX1, "allFines", "()I"⟩
abbrev cX1_doClip : ByteArray := prog_3_method_13_code
def yX1_doClip : MethodName := ⟨RX1, "doClip", "(I)I"⟩
abbrev cX1_turnOver : ByteArray := prog_3_method_14_code
def yX1_turnOver : MethodName := ⟨RX1, "turnOver", "()V"⟩
abbrev cX1_triesClip : ByteArray := prog_3_method_15_code
def yX1_triesClip : MethodName := ⟨RX1, "triesClip", "(III)Z"⟩
abbrev cX1_triesWater : ByteArray := prog_3_method_16_code
def yX1_triesWater : MethodName := ⟨RX1, "triesWater", "(I)Z"⟩
abbrev cX1_triesWind : ByteArray := prog_3_method_17_code
def yX1_triesWind : MethodName := ⟨RX1, "triesWind", "(I)Z"⟩
def RX2 : String := "HedgeClips$Gardener"
def TX2 : u_T := fun k => match k with
  | 0 => ("HedgeClips$Gardener", "fines", "I", false)
  | 1 => ("HedgeClips$Gardener", "clips", "I", false)
  | _ => ("HedgeClips$Gardener", "taken", "I", false)
def tyX2 : Nat → FieldType := fun k => match k with
  | 0 => .int
  | 1 => .int
  | _ => .int
theorem nmX2 : ∀ a, a < 3 → ∀ b, b < 3 → a ≠ b → (TX2 a).2.1 ≠ (TX2 b).2.1 := by decide +kernel
theorem tyX2_ok : ∀ k, k < 3 → parseFieldDescriptor (TX2 k).2.2.1 = some (tyX2 k) := by decide +kernel
abbrev cX2_init : ByteArray := prog_4_method_1_code
def yX2_init : MethodName := ⟨RX2, "<init>", "()V"⟩
abbrev cX2_becomes : ByteArray := prog_4_method_2_code
def yX2_becomes : MethodName := ⟨RX2, "becomes", "(LHedgeClips$Gardener;)V"⟩
abbrev cX2_makeNew : ByteArray := prog_4_method_3_code
def yX2_makeNew : MethodName := ⟨RX2, "makeNew", "()V"⟩
def RX3 : String := "HedgeClips$Hedge"
def TX3 : u_T := fun k => match k with
  | _ => ("", "", "", false)
def tyX3 : Nat → FieldType := fun k => match k with
  | _ => .int
theorem nmX3 : ∀ a, a < 0 → ∀ b, b < 0 → a ≠ b → (TX3 a).2.1 ≠ (TX3 b).2.1 := by decide +kernel
theorem tyX3_ok : ∀ k, k < 0 → parseFieldDescriptor (TX3 k).2.2.1 = some (tyX3 k) := by decide +kernel
abbrev cX3_hedges : ByteArray := prog_5_method_2_code
def yX3_hedges : MethodName := ⟨RX3, "hedges", "(I)I"⟩
abbrev cX3_leavesOf : ByteArray := prog_5_method_3_code
def yX3_leavesOf : MethodName := ⟨RX3, "leavesOf", "(II)I"⟩
abbrev cX3_isFull : ByteArray := prog_5_method_4_code
def yX3_isFull : MethodName := ⟨RX3, "isFull", "(II)Z"⟩
abbrev cX3_watered : ByteArray := prog_5_method_5_code
def yX3_watered : MethodName := ⟨RX3, "watered", "(II)I"⟩
abbrev cX3_allLeaves : ByteArray := prog_5_method_6_code
def yX3_allLeaves : MethodName := ⟨RX3, "allLeaves", "(I)I"⟩
abbrev cX3_leafy : ByteArray := prog_5_method_7_code
def yX3_leafy : MethodName := ⟨RX3, "leafy", "(I)I"⟩
abbrev cX3_hasLeaves : ByteArray := prog_5_method_8_code
def yX3_hasLeaves : MethodName := ⟨RX3, "hasLeaves", "(III)Z"⟩
abbrev cX3_clipped : ByteArray := prog_5_method_9_code
def yX3_clipped : MethodName := ⟨RX3, "clipped", "(II)I"⟩
abbrev cX3_blown : ByteArray := prog_5_method_10_code
def yX3_blown : MethodName := ⟨RX3, "blown", "(III)I"⟩
abbrev cX3_bared : ByteArray := prog_5_method_11_code
def yX3_bared : MethodName := ⟨RX3, "bared", "(II)I"⟩
def RX4 : String := "HedgeClips$Memory"
def TX4 : u_T := fun k => match k with
  | 0 => ("HedgeClips$Memory", "ring", "[LHedgeClips$Garden;", true)
  | 1 => ("HedgeClips$Memory", "size", "I", false)
  | _ => ("HedgeClips$Memory", "next", "I", false)
def tyX4 : Nat → FieldType := fun k => match k with
  | 0 => .array (.object "HedgeClips$Garden")
  | 1 => .int
  | _ => .int
theorem nmX4 : ∀ a, a < 3 → ∀ b, b < 3 → a ≠ b → (TX4 a).2.1 ≠ (TX4 b).2.1 := by decide +kernel
theorem tyX4_ok : ∀ k, k < 3 → parseFieldDescriptor (TX4 k).2.2.1 = some (tyX4 k) := by decide +kernel
abbrev cX4_init : ByteArray := prog_6_method_1_code
def yX4_init : MethodName := ⟨RX4, "<init>", "()V"⟩
abbrev cX4_forget : ByteArray := prog_6_method_2_code
def yX4_forget : MethodName := ⟨RX4, "forget", "()V"⟩
abbrev cX4_keep : ByteArray := prog_6_method_3_code
def yX4_keep : MethodName := ⟨RX4, "keep", "(LHedgeClips$Garden;)V"⟩
abbrev cX4_givesBack : ByteArray := prog_6_method_4_code
def yX4_givesBack : MethodName := ⟨RX4, "givesBack", "(LHedgeClips$Garden;)Z"⟩
def RX5 : String := "HedgeClips$Outlook"
def TX5 : u_T := fun k => match k with
  | 0 => ("HedgeClips$Outlook", "stems", "I", true)
  | 1 => ("HedgeClips$Outlook", "wind", "I", true)
  | 2 => ("HedgeClips$Outlook", "clips", "[I", true)
  | 3 => ("HedgeClips$Outlook", "clipCount", "I", true)
  | _ => ("HedgeClips$Outlook", "known", "[B", true)
def tyX5 : Nat → FieldType := fun k => match k with
  | 0 => .int
  | 1 => .int
  | 2 => .array .int
  | 3 => .int
  | _ => .array .byte
theorem nmX5 : ∀ a, a < 5 → ∀ b, b < 5 → a ≠ b → (TX5 a).2.1 ≠ (TX5 b).2.1 := by decide +kernel
theorem tyX5_ok : ∀ k, k < 5 → parseFieldDescriptor (TX5 k).2.2.1 = some (tyX5 k) := by decide +kernel
abbrev cX5_init : ByteArray := prog_7_method_1_code
def yX5_init : MethodName := ⟨RX5, "<init>", "(III)V"⟩
abbrev cX5_possibleClips : ByteArray := prog_7_method_2_code
def yX5_possibleClips : MethodName := ⟨RX5, "possibleClips", "(I)I"⟩
abbrev cX5_bestClipOf : ByteArray := prog_7_method_3_code
def yX5_bestClipOf : MethodName := ⟨RX5, "bestClipOf", "(I)I"⟩
abbrev cX5_countBestClips : ByteArray := prog_7_method_4_code
def yX5_countBestClips : MethodName := ⟨RX5, "countBestClips", "(I)I"⟩
abbrev cX5_behindBestClip : ByteArray := prog_7_method_5_code
def yX5_behindBestClip : MethodName := ⟨RX5, "behindBestClip", "(I)I"⟩
abbrev cX5_worthAt : ByteArray := prog_7_method_6_code
def yX5_worthAt : MethodName := ⟨RX5, "worthAt", "(II)I"⟩
abbrev cX5_gainAt : ByteArray := prog_7_method_7_code
def yX5_gainAt : MethodName := ⟨RX5, "gainAt", "(III)I"⟩
def RX6 : String := "HedgeClips$Outlooks"
def TX6 : u_T := fun k => match k with
  | _ => ("HedgeClips$Outlooks", "made", "[LHedgeClips$Outlook;", true)
def tyX6 : Nat → FieldType := fun k => match k with
  | _ => .array (.object "HedgeClips$Outlook")
theorem nmX6 : ∀ a, a < 1 → ∀ b, b < 1 → a ≠ b → (TX6 a).2.1 ≠ (TX6 b).2.1 := by decide +kernel
theorem tyX6_ok : ∀ k, k < 1 → parseFieldDescriptor (TX6 k).2.2.1 = some (tyX6 k) := by decide +kernel
abbrev cX6_init : ByteArray := prog_8_method_1_code
def yX6_init : MethodName := ⟨RX6, "<init>", "()V"⟩
abbrev cX6_of : ByteArray := prog_8_method_2_code
def yX6_of : MethodName := ⟨RX6, "of", "(LHedgeClips$Garden;)LHedgeClips$Outlook;"⟩
def RX7 : String := "HedgeClips$Text"
def TX7 : u_T := fun k => match k with
  | 0 => ("HedgeClips$Text", "signs", "[C", true)
  | _ => ("HedgeClips$Text", "length", "I", false)
def tyX7 : Nat → FieldType := fun k => match k with
  | 0 => .array .char
  | _ => .int
theorem nmX7 : ∀ a, a < 2 → ∀ b, b < 2 → a ≠ b → (TX7 a).2.1 ≠ (TX7 b).2.1 := by decide +kernel
theorem tyX7_ok : ∀ k, k < 2 → parseFieldDescriptor (TX7 k).2.2.1 = some (tyX7 k) := by decide +kernel
abbrev cX7_init : ByteArray := prog_9_method_1_code
def yX7_init : MethodName := ⟨RX7, "<init>", "()V"⟩
abbrev cX7_takes : ByteArray := prog_9_method_2_code
def yX7_takes : MethodName := ⟨RX7, "takes", "(C)Z"⟩
abbrev cX7_at : ByteArray := prog_9_method_3_code
def yX7_at : MethodName := ⟨RX7, "at", "(I)I"⟩
abbrev cX7_digit : ByteArray := prog_9_method_4_code
def yX7_digit : MethodName := ⟨RX7, "digit", "(I)I"⟩
abbrev cX7_hasDigit : ByteArray := prog_9_method_5_code
def yX7_hasDigit : MethodName := ⟨RX7, "hasDigit", "(I)Z"⟩
abbrev cX7_isBetween : ByteArray := prog_9_method_6_code
def yX7_isBetween : MethodName := ⟨RX7, "isBetween", "(ICC)Z"⟩
abbrev cX7_behindStems : ByteArray := prog_9_method_7_code
def yX7_behindStems : MethodName := ⟨RX7, "behindStems", "()I"⟩
abbrev cX7_stems : ByteArray := prog_9_method_8_code
def yX7_stems : MethodName := ⟨RX7, "stems", "()I"⟩
abbrev cX7_hedge : ByteArray := prog_9_method_9_code
def yX7_hedge : MethodName := ⟨RX7, "hedge", "()I"⟩
abbrev cX7_firstFault : ByteArray := prog_9_method_10_code
def yX7_firstFault : MethodName := ⟨RX7, "firstFault", "()I"⟩
abbrev cX7_faultInCommand : ByteArray := prog_9_method_11_code
def yX7_faultInCommand : MethodName := ⟨RX7, "faultInCommand", "(I)I"⟩
abbrev cX7_isCommand : ByteArray := prog_9_method_12_code
def yX7_isCommand : MethodName := ⟨RX7, "isCommand", "(I)Z"⟩
abbrev cX7_digitsBehind : ByteArray := prog_9_method_13_code
def yX7_digitsBehind : MethodName := ⟨RX7, "digitsBehind", "(I)I"⟩
abbrev cX7_allowsDigit : ByteArray := prog_9_method_14_code
def yX7_allowsDigit : MethodName := ⟨RX7, "allowsDigit", "(III)Z"⟩
def RX8 : String := "HedgeClips"
def TX8 : u_T := fun k => match k with
  | 0 => ("HedgeClips", "now", "LHedgeClips$Garden;", true)
  | 1 => ("HedgeClips", "copy", "LHedgeClips$Garden;", true)
  | 2 => ("HedgeClips", "memory", "LHedgeClips$Memory;", true)
  | 3 => ("HedgeClips", "slots", "[LHedgeClips$Garden;", true)
  | 4 => ("HedgeClips", "text", "LHedgeClips$Text;", true)
  | _ => ("HedgeClips", "outlooks", "LHedgeClips$Outlooks;", true)
def tyX8 : Nat → FieldType := fun k => match k with
  | 0 => .object "HedgeClips$Garden"
  | 1 => .object "HedgeClips$Garden"
  | 2 => .object "HedgeClips$Memory"
  | 3 => .array (.object "HedgeClips$Garden")
  | 4 => .object "HedgeClips$Text"
  | _ => .object "HedgeClips$Outlooks"
theorem nmX8 : ∀ a, a < 6 → ∀ b, b < 6 → a ≠ b → (TX8 a).2.1 ≠ (TX8 b).2.1 := by decide +kernel
theorem tyX8_ok : ∀ k, k < 6 → parseFieldDescriptor (TX8 k).2.2.1 = some (tyX8 k) := by decide +kernel
abbrev cX8_init : ByteArray := prog_1_method_1_code
def yX8_init : MethodName := ⟨RX8, "<init>", "()V"⟩
abbrev cX8_append : ByteArray := prog_1_method_2_code
def yX8_append : MethodName := ⟨RX8, "append", "(I)I"⟩
abbrev cX8_load : ByteArray := prog_1_method_5_code
def yX8_load : MethodName := ⟨RX8, "load", "()I"⟩
abbrev cX8_obeyCommand : ByteArray := prog_1_method_6_code
def yX8_obeyCommand : MethodName := ⟨RX8, "obeyCommand", "(I)Z"⟩
abbrev cX8_about : ByteArray := prog_1_method_7_code
def yX8_about : MethodName := ⟨RX8, "about", "(I)I"⟩
abbrev cX8_leaves : ByteArray := prog_1_method_8_code
def yX8_leaves : MethodName := ⟨RX8, "leaves", "(I)I"⟩
abbrev cX8_gardener : ByteArray := prog_1_method_9_code
def yX8_gardener : MethodName := ⟨RX8, "gardener", "(II)I"⟩
abbrev cX8_setting : ByteArray := prog_1_method_10_code
def yX8_setting : MethodName := ⟨RX8, "setting", "(I)I"⟩
abbrev cX8_plant : ByteArray := prog_1_method_11_code
def yX8_plant : MethodName := ⟨RX8, "plant", "(II)I"⟩
abbrev cX8_clip : ByteArray := prog_1_method_12_code
def yX8_clip : MethodName := ⟨RX8, "clip", "(III)I"⟩
abbrev cX8_water : ByteArray := prog_1_method_13_code
def yX8_water : MethodName := ⟨RX8, "water", "(I)I"⟩
abbrev cX8_wind : ByteArray := prog_1_method_14_code
def yX8_wind : MethodName := ⟨RX8, "wind", "(I)I"⟩
abbrev cX8_pass : ByteArray := prog_1_method_15_code
def yX8_pass : MethodName := ⟨RX8, "pass", "()I"⟩
abbrev cX8_set : ByteArray := prog_1_method_16_code
def yX8_set : MethodName := ⟨RX8, "set", "(II)I"⟩
abbrev cX8_undo : ByteArray := prog_1_method_17_code
def yX8_undo : MethodName := ⟨RX8, "undo", "()I"⟩
abbrev cX8_ifClipped : ByteArray := prog_1_method_18_code
def yX8_ifClipped : MethodName := ⟨RX8, "ifClipped", "(IIII)I"⟩
abbrev cX8_worth : ByteArray := prog_1_method_19_code
def yX8_worth : MethodName := ⟨RX8, "worth", "()I"⟩
abbrev cX8_bestClip : ByteArray := prog_1_method_20_code
def yX8_bestClip : MethodName := ⟨RX8, "bestClip", "()I"⟩
abbrev cX8_bestClips : ByteArray := prog_1_method_21_code
def yX8_bestClips : MethodName := ⟨RX8, "bestClips", "()I"⟩
abbrev cX8_goesOn : ByteArray := prog_1_method_22_code
def yX8_goesOn : MethodName := ⟨RX8, "goesOn", "(II)I"⟩
abbrev cX8_bestWater : ByteArray := prog_1_method_23_code
def yX8_bestWater : MethodName := ⟨RX8, "bestWater", "()I"⟩
abbrev cX8_winner : ByteArray := prog_1_method_24_code
def yX8_winner : MethodName := ⟨RX8, "winner", "()I"⟩
abbrev cX8_worthOf : ByteArray := prog_1_method_25_code
def yX8_worthOf : MethodName := ⟨RX8, "worthOf", "(LHedgeClips$Garden;I)I"⟩
abbrev cX8_winnerOf : ByteArray := prog_1_method_26_code
def yX8_winnerOf : MethodName := ⟨RX8, "winnerOf", "(LHedgeClips$Garden;)I"⟩
abbrev cX8_triesBestClip : ByteArray := prog_1_method_27_code
def yX8_triesBestClip : MethodName := ⟨RX8, "triesBestClip", "(LHedgeClips$Garden;)Z"⟩
abbrev cX8_runScript : ByteArray := prog_1_method_28_code
def yX8_runScript : MethodName := ⟨RX8, "runScript", "(IJ)I"⟩
abbrev cX8_withoutGroups : ByteArray := prog_1_method_29_code
def yX8_withoutGroups : MethodName := ⟨RX8, "withoutGroups", "(JI)J"⟩
abbrev cX8_obeyGroup : ByteArray := prog_1_method_30_code
def yX8_obeyGroup : MethodName := ⟨RX8, "obeyGroup", "(I)Z"⟩
abbrev cX8_simulate : ByteArray := prog_1_method_31_code
def yX8_simulate : MethodName := ⟨RX8, "simulate", "(JI)I"⟩
abbrev cX8_simulateTurn : ByteArray := prog_1_method_32_code
def yX8_simulateTurn : MethodName := ⟨RX8, "simulateTurn", "(I)V"⟩
abbrev cX8_save : ByteArray := prog_1_method_33_code
def yX8_save : MethodName := ⟨RX8, "save", "(I)I"⟩
abbrev cX8_restore : ByteArray := prog_1_method_34_code
def yX8_restore : MethodName := ⟨RX8, "restore", "(I)I"⟩
abbrev cX8_requireStem : ByteArray := prog_1_method_35_code
def yX8_requireStem : MethodName := ⟨RX8, "requireStem", "(I)V"⟩
abbrev cX8_requireClip : ByteArray := prog_1_method_36_code
def yX8_requireClip : MethodName := ⟨RX8, "requireClip", "(III)V"⟩
abbrev cX8_requireSetting : ByteArray := prog_1_method_37_code
def yX8_requireSetting : MethodName := ⟨RX8, "requireSetting", "(I)V"⟩
def RX9 : String := "HedgeClipsModel"
def TX9 : u_T := fun k => match k with
  | _ => ("", "", "", false)
def tyX9 : Nat → FieldType := fun k => match k with
  | _ => .int
theorem nmX9 : ∀ a, a < 0 → ∀ b, b < 0 → a ≠ b → (TX9 a).2.1 ≠ (TX9 b).2.1 := by decide +kernel
theorem tyX9_ok : ∀ k, k < 0 → parseFieldDescriptor (TX9 k).2.2.1 = some (tyX9 k) := by decide +kernel
def RJ6 : String := "java/lang/Integer"
def TJ6 : u_T := fun k => match k with
  | _ => ("", "", "", false)
def tyJ6 : Nat → FieldType := fun k => match k with
  | _ => .int
abbrev wsJ60 : List Cond := u_ws RJ6 TJ6 0
theorem nmJ6 : ∀ a, a < 0 → ∀ b, b < 0 → a ≠ b → (TJ6 a).2.1 ≠ (TJ6 b).2.1 := by decide +kernel
theorem tyJ6_ok : ∀ k, k < 0 → parseFieldDescriptor (TJ6 k).2.2.1 = some (tyJ6 k) := by decide +kernel
abbrev cJ6_bitCount_0f7a4 : ByteArray := prog_16_method_49_code
def yJ6_bitCount_0f7a4 : MethodName := ⟨RJ6, "bitCount", "(I)I"⟩
def RJ9 : String := "java/lang/Math"
def TJ9 : u_T := fun k => match k with
  | _ => ("", "", "", false)
def tyJ9 : Nat → FieldType := fun k => match k with
  | _ => .int
abbrev wsJ90 : List Cond := u_ws RJ9 TJ9 0
theorem nmJ9 : ∀ a, a < 0 → ∀ b, b < 0 → a ≠ b → (TJ9 a).2.1 ≠ (TJ9 b).2.1 := by decide +kernel
theorem tyJ9_ok : ∀ k, k < 0 → parseFieldDescriptor (TJ9 k).2.2.1 = some (tyJ9 k) := by decide +kernel
abbrev cJ9_max_7cf53 : ByteArray := prog_17_method_65_code
def yJ9_max_7cf53 : MethodName := ⟨RJ9, "max", "(II)I"⟩
abbrev cJ9_min_7cf53 : ByteArray := prog_17_method_69_code
def yJ9_min_7cf53 : MethodName := ⟨RJ9, "min", "(II)I"⟩
def RJ0 : String := "java/lang/String"
def TJ0 : u_T := fun k => match k with
  | _ => ("", "", "", false)
def tyJ0 : Nat → FieldType := fun k => match k with
  | _ => .int
abbrev wsJ00 : List Cond := u_ws RJ0 TJ0 0
theorem nmJ0 : ∀ a, a < 0 → ∀ b, b < 0 → a ≠ b → (TJ0 a).2.1 ≠ (TJ0 b).2.1 := by decide +kernel
theorem tyJ0_ok : ∀ k, k < 0 → parseFieldDescriptor (TJ0 k).2.2.1 = some (tyJ0 k) := by decide +kernel
def RL : String := "HedgeClipsLaw"
abbrev cL_would : ByteArray := method_2_code
def yL_would : MethodName := ⟨RL, "would", "(LHedgeClips;IIII)I"⟩
abbrev cL_doScript : ByteArray := method_3_code
def yL_doScript : MethodName := ⟨RL, "doScript", "(LHedgeClips;IJ)I"⟩
abbrev cL_doSimulate : ByteArray := method_4_code
def yL_doSimulate : MethodName := ⟨RL, "doSimulate", "(LHedgeClips;JI)I"⟩
abbrev cL_tryAppend : ByteArray := method_5_code
def yL_tryAppend : MethodName := ⟨RL, "tryAppend", "(LHedgeClips;I)I"⟩
abbrev cL_tryLoad : ByteArray := method_6_code
def yL_tryLoad : MethodName := ⟨RL, "tryLoad", "(LHedgeClips;)I"⟩
abbrev cL_tryAbout : ByteArray := method_7_code
def yL_tryAbout : MethodName := ⟨RL, "tryAbout", "(LHedgeClips;I)I"⟩
abbrev cL_tryLeaves : ByteArray := method_8_code
def yL_tryLeaves : MethodName := ⟨RL, "tryLeaves", "(LHedgeClips;I)I"⟩
abbrev cL_tryWho : ByteArray := method_9_code
def yL_tryWho : MethodName := ⟨RL, "tryWho", "(LHedgeClips;II)I"⟩
abbrev cL_trySetting : ByteArray := method_10_code
def yL_trySetting : MethodName := ⟨RL, "trySetting", "(LHedgeClips;I)I"⟩
abbrev cL_tryPlant : ByteArray := method_11_code
def yL_tryPlant : MethodName := ⟨RL, "tryPlant", "(LHedgeClips;II)I"⟩
abbrev cL_tryClip : ByteArray := method_12_code
def yL_tryClip : MethodName := ⟨RL, "tryClip", "(LHedgeClips;III)I"⟩
abbrev cL_tryWater : ByteArray := method_13_code
def yL_tryWater : MethodName := ⟨RL, "tryWater", "(LHedgeClips;I)I"⟩
abbrev cL_tryWind : ByteArray := method_14_code
def yL_tryWind : MethodName := ⟨RL, "tryWind", "(LHedgeClips;I)I"⟩
abbrev cL_tryLay : ByteArray := method_15_code
def yL_tryLay : MethodName := ⟨RL, "tryLay", "(LHedgeClips;II)I"⟩
abbrev cL_tryUndo : ByteArray := method_16_code
def yL_tryUndo : MethodName := ⟨RL, "tryUndo", "(LHedgeClips;)I"⟩
abbrev cL_tryGoes : ByteArray := method_17_code
def yL_tryGoes : MethodName := ⟨RL, "tryGoes", "(LHedgeClips;II)I"⟩
abbrev cL_tryKeep : ByteArray := method_18_code
def yL_tryKeep : MethodName := ⟨RL, "tryKeep", "(LHedgeClips;I)I"⟩
abbrev cL_tryBack : ByteArray := method_19_code
def yL_tryBack : MethodName := ⟨RL, "tryBack", "(LHedgeClips;I)I"⟩
abbrev cL_call : ByteArray := method_20_code
def yL_call : MethodName := ⟨RL, "call", "(LHedgeClips;IIII)I"⟩
abbrev cL_cell : ByteArray := method_21_code
def yL_cell : MethodName := ⟨RL, "cell", "([II)I"⟩
abbrev cL_thrown : ByteArray := method_22_code
def yL_thrown : MethodName := ⟨RL, "thrown", "(I)Z"⟩
abbrev cL_refuses : ByteArray := method_23_code
def yL_refuses : MethodName := ⟨RL, "refuses", "(LHedgeClips;I)Z"⟩
abbrev cL_holds : ByteArray := method_24_code
def yL_holds : MethodName := ⟨RL, "holds", "(LHedgeClips;)Z"⟩
abbrev cL_act : ByteArray := method_25_code
def yL_act : MethodName := ⟨RL, "act", "(LHedgeClips;I)I"⟩
abbrev cL_alike : ByteArray := method_26_code
def yL_alike : MethodName := ⟨RL, "alike", "(LHedgeClips;LHedgeClips;I)Z"⟩
abbrev cL_law : ByteArray := code
def yL_law : MethodName := ⟨RL, "law", "([I)Z"⟩
abbrev cL_best : ByteArray := method_28_code
def yL_best : MethodName := ⟨RL, "best", "(LHedgeClips;LHedgeClips;)Z"⟩
abbrev cL_waters : ByteArray := method_29_code
def yL_waters : MethodName := ⟨RL, "waters", "(LHedgeClips;LHedgeClips;I)Z"⟩
abbrev vwCl : List vw_C := [(RX1, TX1, 8), (RX2, TX2, 3), (RX4, TX4, 3), (RX5, TX5, 5), (RX6, TX6, 1), (RX7, TX7, 2), (RX8, TX8, 6)]
