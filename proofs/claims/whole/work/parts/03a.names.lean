def RX0 : String := "ModeDesk"
def TX0 : u_T := fun k => match k with
  | 0 => ("ModeDesk", "active", "[I", true)
  | 1 => ("ModeDesk", "flashing", "[I", true)
  | 2 => ("ModeDesk", "measures", "[I", true)
  | 3 => ("ModeDesk", "soundness", "[Z", true)
  | 4 => ("ModeDesk", "leader", "I", false)
  | 5 => ("ModeDesk", "navArmed", "Z", false)
  | 6 => ("ModeDesk", "approachArmed", "Z", false)
  | 7 => ("ModeDesk", "glideArmed", "Z", false)
  | 8 => ("ModeDesk", "engaged", "Z", false)
  | 9 => ("ModeDesk", "warning", "Z", false)
  | 10 => ("ModeDesk", "changes", "[I", true)
  | _ => ("ModeDesk", "changeCount", "I", false)
def tyX0 : Nat → FieldType := fun k => match k with
  | 0 => .array .int
  | 1 => .array .int
  | 2 => .array .int
  | 3 => .array .boolean
  | 4 => .int
  | 5 => .boolean
  | 6 => .boolean
  | 7 => .boolean
  | 8 => .boolean
  | 9 => .boolean
  | 10 => .array .int
  | _ => .int
abbrev wsX00 : List Cond := u_ws RX0 TX0 12
theorem nmX0 : ∀ a, a < 12 → ∀ b, b < 12 → a ≠ b → (TX0 a).2.1 ≠ (TX0 b).2.1 := by decide +kernel
theorem tyX0_ok : ∀ k, k < 12 → parseFieldDescriptor (TX0 k).2.2.1 = some (tyX0 k) := by decide +kernel
abbrev cX0_init : ByteArray := prog_1_method_1_code
def yX0_init : MethodName := ⟨RX0, "<init>", "()V"⟩
abbrev cX0_press : ByteArray := prog_1_method_2_code
def yX0_press : MethodName := ⟨RX0, "press", "(I)I"⟩
abbrev cX0_sense : ByteArray := prog_1_method_3_code
def yX0_sense : MethodName := ⟨RX0, "sense", "(II)I"⟩
abbrev cX0_channel : ByteArray := prog_1_method_4_code
def yX0_channel : MethodName := ⟨RX0, "channel", "(IZ)I"⟩
abbrev cX0_engage : ByteArray := prog_1_method_5_code
def yX0_engage : MethodName := ⟨RX0, "engage", "()I"⟩
abbrev cX0_disconnect : ByteArray := prog_1_method_6_code
def yX0_disconnect : MethodName := ⟨RX0, "disconnect", "()I"⟩
abbrev cX0_step : ByteArray := prog_1_method_7_code
def yX0_step : MethodName := ⟨RX0, "step", "(I)I"⟩
abbrev cX0_mode : ByteArray := prog_1_method_8_code
def yX0_mode : MethodName := ⟨RX0, "mode", "(I)I"⟩
abbrev cX0_armed : ByteArray := prog_1_method_9_code
def yX0_armed : MethodName := ⟨RX0, "armed", "(I)Z"⟩
abbrev cX0_shown : ByteArray := prog_1_method_10_code
def yX0_shown : MethodName := ⟨RX0, "shown", "()I"⟩
abbrev cX0_kept : ByteArray := prog_1_method_11_code
def yX0_kept : MethodName := ⟨RX0, "kept", "(II)I"⟩
abbrev cX0_measure : ByteArray := prog_1_method_12_code
def yX0_measure : MethodName := ⟨RX0, "measure", "(I)I"⟩
abbrev cX0_isMeasure : ByteArray := prog_1_method_13_code
def yX0_isMeasure : MethodName := ⟨RX0, "isMeasure", "(I)Z"⟩
abbrev cX0_isOn : ByteArray := prog_1_method_14_code
def yX0_isOn : MethodName := ⟨RX0, "isOn", "()Z"⟩
abbrev cX0_isAnyChannelSound : ByteArray := prog_1_method_15_code
def yX0_isAnyChannelSound : MethodName := ⟨RX0, "isAnyChannelSound", "()Z"⟩
abbrev cX0_isAroundAnywhere : ByteArray := prog_1_method_16_code
def yX0_isAroundAnywhere : MethodName := ⟨RX0, "isAroundAnywhere", "()Z"⟩
abbrev cX0_isTooFast : ByteArray := prog_1_method_17_code
def yX0_isTooFast : MethodName := ⟨RX0, "isTooFast", "()Z"⟩
abbrev cX0_isCaptureArmed : ByteArray := prog_1_method_18_code
def yX0_isCaptureArmed : MethodName := ⟨RX0, "isCaptureArmed", "()Z"⟩
abbrev cX0_isCourseWithin : ByteArray := prog_1_method_19_code
def yX0_isCourseWithin : MethodName := ⟨RX0, "isCourseWithin", "(I)Z"⟩
abbrev cX0_isPathWithin : ByteArray := prog_1_method_20_code
def yX0_isPathWithin : MethodName := ⟨RX0, "isPathWithin", "(I)Z"⟩
abbrev cX0_isHeightWithin : ByteArray := prog_1_method_21_code
def yX0_isHeightWithin : MethodName := ⟨RX0, "isHeightWithin", "(I)Z"⟩
abbrev cX0_bit : ByteArray := prog_1_method_22_code
def yX0_bit : MethodName := ⟨RX0, "bit", "(ZI)I"⟩
abbrev cX0_stateAsNumber : ByteArray := prog_1_method_23_code
def yX0_stateAsNumber : MethodName := ⟨RX0, "stateAsNumber", "()I"⟩
abbrev cX0_change : ByteArray := prog_1_method_24_code
def yX0_change : MethodName := ⟨RX0, "change", "(IIZ)V"⟩
abbrev cX0_stopFlashing : ByteArray := prog_1_method_25_code
def yX0_stopFlashing : MethodName := ⟨RX0, "stopFlashing", "()V"⟩
abbrev cX0_disarmAll : ByteArray := prog_1_method_26_code
def yX0_disarmAll : MethodName := ⟨RX0, "disarmAll", "()V"⟩
abbrev cX0_goToBase : ByteArray := prog_1_method_27_code
def yX0_goToBase : MethodName := ⟨RX0, "goToBase", "()V"⟩
abbrev cX0_turnOnIfOff : ByteArray := prog_1_method_28_code
def yX0_turnOnIfOff : MethodName := ⟨RX0, "turnOnIfOff", "()V"⟩
abbrev cX0_turnOff : ByteArray := prog_1_method_29_code
def yX0_turnOff : MethodName := ⟨RX0, "turnOff", "(Z)V"⟩
abbrev cX0_disengageWithWarning : ByteArray := prog_1_method_30_code
def yX0_disengageWithWarning : MethodName := ⟨RX0, "disengageWithWarning", "()V"⟩
abbrev cX0_leaveCourseFor : ByteArray := prog_1_method_31_code
def yX0_leaveCourseFor : MethodName := ⟨RX0, "leaveCourseFor", "(IZ)V"⟩
abbrev cX0_obey : ByteArray := prog_1_method_32_code
def yX0_obey : MethodName := ⟨RX0, "obey", "(I)V"⟩
abbrev cX0_obeyHeading : ByteArray := prog_1_method_33_code
def yX0_obeyHeading : MethodName := ⟨RX0, "obeyHeading", "()V"⟩
abbrev cX0_obeyNav : ByteArray := prog_1_method_34_code
def yX0_obeyNav : MethodName := ⟨RX0, "obeyNav", "()V"⟩
abbrev cX0_obeyApproach : ByteArray := prog_1_method_35_code
def yX0_obeyApproach : MethodName := ⟨RX0, "obeyApproach", "()V"⟩
abbrev cX0_obeyVertical : ByteArray := prog_1_method_36_code
def yX0_obeyVertical : MethodName := ⟨RX0, "obeyVertical", "(I)V"⟩
abbrev cX0_obeyAround : ByteArray := prog_1_method_37_code
def yX0_obeyAround : MethodName := ⟨RX0, "obeyAround", "()V"⟩
abbrev cX0_obeySync : ByteArray := prog_1_method_38_code
def yX0_obeySync : MethodName := ⟨RX0, "obeySync", "()V"⟩
abbrev cX0_obeyTransfer : ByteArray := prog_1_method_39_code
def yX0_obeyTransfer : MethodName := ⟨RX0, "obeyTransfer", "()V"⟩
abbrev cX0_obeyDirector : ByteArray := prog_1_method_40_code
def yX0_obeyDirector : MethodName := ⟨RX0, "obeyDirector", "()V"⟩
abbrev cX0_settle : ByteArray := prog_1_method_41_code
def yX0_settle : MethodName := ⟨RX0, "settle", "()I"⟩
abbrev cX0_comesAboutByItself : ByteArray := prog_1_method_42_code
def yX0_comesAboutByItself : MethodName := ⟨RX0, "comesAboutByItself", "()Z"⟩
abbrev cX0_leaderFails : ByteArray := prog_1_method_43_code
def yX0_leaderFails : MethodName := ⟨RX0, "leaderFails", "()Z"⟩
abbrev cX0_courseIsLost : ByteArray := prog_1_method_44_code
def yX0_courseIsLost : MethodName := ⟨RX0, "courseIsLost", "()Z"⟩
abbrev cX0_pathIsLost : ByteArray := prog_1_method_45_code
def yX0_pathIsLost : MethodName := ⟨RX0, "pathIsLost", "()Z"⟩
abbrev cX0_navIsReached : ByteArray := prog_1_method_46_code
def yX0_navIsReached : MethodName := ⟨RX0, "navIsReached", "()Z"⟩
abbrev cX0_approachIsReached : ByteArray := prog_1_method_47_code
def yX0_approachIsReached : MethodName := ⟨RX0, "approachIsReached", "()Z"⟩
abbrev cX0_glideIsReached : ByteArray := prog_1_method_48_code
def yX0_glideIsReached : MethodName := ⟨RX0, "glideIsReached", "()Z"⟩
abbrev cX0_heightComesNear : ByteArray := prog_1_method_49_code
def yX0_heightComesNear : MethodName := ⟨RX0, "heightComesNear", "()Z"⟩
abbrev cX0_heightIsReached : ByteArray := prog_1_method_50_code
def yX0_heightIsReached : MethodName := ⟨RX0, "heightIsReached", "()Z"⟩
abbrev cX0_heightIsLost : ByteArray := prog_1_method_51_code
def yX0_heightIsLost : MethodName := ⟨RX0, "heightIsLost", "()Z"⟩
abbrev cX0_climbIsTooFast : ByteArray := prog_1_method_52_code
def yX0_climbIsTooFast : MethodName := ⟨RX0, "climbIsTooFast", "()Z"⟩
def RX1 : String := "ModeDeskModel"
def TX1 : u_T := fun k => match k with
  | 0 => ("ModeDeskModel", "thrown", "I", false)
  | 1 => ("ModeDeskModel", "lateral", "I", false)
  | 2 => ("ModeDeskModel", "vertical", "I", false)
  | 3 => ("ModeDeskModel", "armedLateral", "I", false)
  | 4 => ("ModeDeskModel", "armedGlide", "Z", false)
  | 5 => ("ModeDeskModel", "engaged", "Z", false)
  | 6 => ("ModeDeskModel", "warning", "Z", false)
  | 7 => ("ModeDeskModel", "bad0", "Z", false)
  | 8 => ("ModeDeskModel", "bad1", "Z", false)
  | 9 => ("ModeDeskModel", "leader", "I", false)
  | 10 => ("ModeDeskModel", "values", "[I", true)
  | 11 => ("ModeDeskModel", "flash0", "I", false)
  | 12 => ("ModeDeskModel", "flash1", "I", false)
  | 13 => ("ModeDeskModel", "kept", "I", false)
  | _ => ("ModeDeskModel", "rows", "[I", true)
def tyX1 : Nat → FieldType := fun k => match k with
  | 0 => .int
  | 1 => .int
  | 2 => .int
  | 3 => .int
  | 4 => .boolean
  | 5 => .boolean
  | 6 => .boolean
  | 7 => .boolean
  | 8 => .boolean
  | 9 => .int
  | 10 => .array .int
  | 11 => .int
  | 12 => .int
  | 13 => .int
  | _ => .array .int
abbrev wsX10 : List Cond := u_ws RX1 TX1 15
theorem nmX1 : ∀ a, a < 15 → ∀ b, b < 15 → a ≠ b → (TX1 a).2.1 ≠ (TX1 b).2.1 := by decide +kernel
theorem tyX1_ok : ∀ k, k < 15 → parseFieldDescriptor (TX1 k).2.2.1 = some (tyX1 k) := by decide +kernel
abbrev cX1_init : ByteArray := prog_3_method_1_code
def yX1_init : MethodName := ⟨RX1, "<init>", "()V"⟩
abbrev cX1_thrown : ByteArray := prog_3_method_2_code
def yX1_thrown : MethodName := ⟨RX1, "thrown", "()I"⟩
abbrev cX1_good : ByteArray := prog_3_method_3_code
def yX1_good : MethodName := ⟨RX1, "good", "(Z)Z"⟩
abbrev cX1_keep : ByteArray := prog_3_method_4_code
def yX1_keep : MethodName := ⟨RX1, "keep", "(IIII)V"⟩
abbrev cX1_lateralTo : ByteArray := prog_3_method_5_code
def yX1_lateralTo : MethodName := ⟨RX1, "lateralTo", "(II)V"⟩
abbrev cX1_verticalTo : ByteArray := prog_3_method_6_code
def yX1_verticalTo : MethodName := ⟨RX1, "verticalTo", "(II)V"⟩
abbrev cX1_noneArmed : ByteArray := prog_3_method_7_code
def yX1_noneArmed : MethodName := ⟨RX1, "noneArmed", "()V"⟩
abbrev cX1_base : ByteArray := prog_3_method_8_code
def yX1_base : MethodName := ⟨RX1, "base", "(I)V"⟩
abbrev cX1_goOff : ByteArray := prog_3_method_9_code
def yX1_goOff : MethodName := ⟨RX1, "goOff", "(I)V"⟩
abbrev cX1_isBad : ByteArray := prog_3_method_10_code
def yX1_isBad : MethodName := ⟨RX1, "isBad", "(I)Z"⟩
abbrev cX1_size : ByteArray := prog_3_method_11_code
def yX1_size : MethodName := ⟨RX1, "size", "(I)I"⟩
abbrev cX1_apart : ByteArray := prog_3_method_12_code
def yX1_apart : MethodName := ⟨RX1, "apart", "()I"⟩
abbrev cX1_rule : ByteArray := prog_3_method_13_code
def yX1_rule : MethodName := ⟨RX1, "rule", "()I"⟩
abbrev cX1_comes : ByteArray := prog_3_method_14_code
def yX1_comes : MethodName := ⟨RX1, "comes", "(I)V"⟩
abbrev cX1_settle : ByteArray := prog_3_method_15_code
def yX1_settle : MethodName := ⟨RX1, "settle", "()I"⟩
abbrev cX1_outOfApproach : ByteArray := prog_3_method_16_code
def yX1_outOfApproach : MethodName := ⟨RX1, "outOfApproach", "(I)V"⟩
abbrev cX1_navButton : ByteArray := prog_3_method_17_code
def yX1_navButton : MethodName := ⟨RX1, "navButton", "()V"⟩
abbrev cX1_approachButton : ByteArray := prog_3_method_18_code
def yX1_approachButton : MethodName := ⟨RX1, "approachButton", "()V"⟩
abbrev cX1_button : ByteArray := prog_3_method_19_code
def yX1_button : MethodName := ⟨RX1, "button", "(I)V"⟩
abbrev cX1_sum : ByteArray := prog_3_method_20_code
def yX1_sum : MethodName := ⟨RX1, "sum", "()I"⟩
abbrev cX1_press : ByteArray := prog_3_method_21_code
def yX1_press : MethodName := ⟨RX1, "press", "(I)I"⟩
abbrev cX1_sense : ByteArray := prog_3_method_22_code
def yX1_sense : MethodName := ⟨RX1, "sense", "(II)I"⟩
abbrev cX1_channel : ByteArray := prog_3_method_23_code
def yX1_channel : MethodName := ⟨RX1, "channel", "(IZ)I"⟩
abbrev cX1_engage : ByteArray := prog_3_method_24_code
def yX1_engage : MethodName := ⟨RX1, "engage", "()I"⟩
abbrev cX1_disconnect : ByteArray := prog_3_method_25_code
def yX1_disconnect : MethodName := ⟨RX1, "disconnect", "()I"⟩
abbrev cX1_step : ByteArray := prog_3_method_26_code
def yX1_step : MethodName := ⟨RX1, "step", "(I)I"⟩
abbrev cX1_mode : ByteArray := prog_3_method_27_code
def yX1_mode : MethodName := ⟨RX1, "mode", "(I)I"⟩
abbrev cX1_armed : ByteArray := prog_3_method_28_code
def yX1_armed : MethodName := ⟨RX1, "armed", "(I)Z"⟩
abbrev cX1_shown : ByteArray := prog_3_method_29_code
def yX1_shown : MethodName := ⟨RX1, "shown", "()I"⟩
abbrev cX1_kept : ByteArray := prog_3_method_30_code
def yX1_kept : MethodName := ⟨RX1, "kept", "(II)I"⟩
abbrev cX1_measure : ByteArray := prog_3_method_31_code
def yX1_measure : MethodName := ⟨RX1, "measure", "(I)I"⟩
def RJ9 : String := "java/lang/Math"
def TJ9 : u_T := fun k => match k with
  | _ => ("", "", "", false)
def tyJ9 : Nat → FieldType := fun k => match k with
  | _ => .int
abbrev wsJ90 : List Cond := u_ws RJ9 TJ9 0
theorem nmJ9 : ∀ a, a < 0 → ∀ b, b < 0 → a ≠ b → (TJ9 a).2.1 ≠ (TJ9 b).2.1 := by decide +kernel
theorem tyJ9_ok : ∀ k, k < 0 → parseFieldDescriptor (TJ9 k).2.2.1 = some (tyJ9 k) := by decide +kernel
abbrev cJ9_abs_0f7a4 : ByteArray := prog_6_method_59_code
def yJ9_abs_0f7a4 : MethodName := ⟨RJ9, "abs", "(I)I"⟩
def RJ0 : String := "java/lang/String"
def TJ0 : u_T := fun k => match k with
  | _ => ("", "", "", false)
def tyJ0 : Nat → FieldType := fun k => match k with
  | _ => .int
abbrev wsJ00 : List Cond := u_ws RJ0 TJ0 0
theorem nmJ0 : ∀ a, a < 0 → ∀ b, b < 0 → a ≠ b → (TJ0 a).2.1 ≠ (TJ0 b).2.1 := by decide +kernel
theorem tyJ0_ok : ∀ k, k < 0 → parseFieldDescriptor (TJ0 k).2.2.1 = some (tyJ0 k) := by decide +kernel
def RL : String := "ModeDeskLaw"
abbrev cL_press : ByteArray := method_3_code
def yL_press : MethodName := ⟨RL, "press", "(LModeDesk;I[J)I"⟩
abbrev cL_sense : ByteArray := method_4_code
def yL_sense : MethodName := ⟨RL, "sense", "(LModeDesk;II[J)I"⟩
abbrev cL_channel : ByteArray := method_5_code
def yL_channel : MethodName := ⟨RL, "channel", "(LModeDesk;IZ[J)I"⟩
abbrev cL_step : ByteArray := method_6_code
def yL_step : MethodName := ⟨RL, "step", "(LModeDesk;I[J)I"⟩
abbrev cL_mode : ByteArray := method_7_code
def yL_mode : MethodName := ⟨RL, "mode", "(LModeDesk;I[J)I"⟩
abbrev cL_armed : ByteArray := method_8_code
def yL_armed : MethodName := ⟨RL, "armed", "(LModeDesk;I[J)I"⟩
abbrev cL_measure : ByteArray := method_9_code
def yL_measure : MethodName := ⟨RL, "measure", "(LModeDesk;I[J)I"⟩
abbrev cL_law : ByteArray := code
def yL_law : MethodName := ⟨RL, "law", "([I)Z"⟩
def wsX0_init : List Cond := .code yX0_init cX0_init 1 none :: ([.methodLink RX0 1 objectInit, .instanceMethod objectInit, .code objectInit ⟨#[0xb1]⟩ 1 none, .arrayClass .int, .fieldLink RX0 7 "ModeDesk" "active" "[I", .fieldLink RX0 13 "ModeDesk" "flashing" "[I", .fieldLink RX0 16 "ModeDesk" "measures" "[I", .arrayClass .boolean, .fieldLink RX0 19 "ModeDesk" "soundness" "[Z", .fieldLink RX0 23 "ModeDesk" "changes" "[I"] ++ wsX00)
def wsX0_bit : List Cond := .code yX0_bit cX0_bit 2 (some .int) :: ([])
def wsX0_stateAsNumber : List Cond := .code yX0_stateAsNumber cX0_stateAsNumber 1 (some .int) :: ([.fieldLink RX0 7 "ModeDesk" "active" "[I", .fieldLink RX0 90 "ModeDesk" "navArmed" "Z", .fieldLink RX0 93 "ModeDesk" "approachArmed" "Z", .fieldLink RX0 96 "ModeDesk" "glideArmed" "Z", .fieldLink RX0 63 "ModeDesk" "engaged" "Z", .fieldLink RX0 111 "ModeDesk" "leader" "I", .methodLink RX0 107 yX0_bit, .static yX0_bit, .initialized RX0, .code yX0_bit cX0_bit 2 (some .int)] ++ wsX00)
def wsX0_stopFlashing : List Cond := .code yX0_stopFlashing cX0_stopFlashing 1 none :: ([.fieldLink RX0 13 "ModeDesk" "flashing" "[I"] ++ wsX00)
def wsX0_isAnyChannelSound : List Cond := .code yX0_isAnyChannelSound cX0_isAnyChannelSound 1 (some .boolean) :: ([.fieldLink RX0 19 "ModeDesk" "soundness" "[Z"] ++ wsX00)
def wsX0_isOn : List Cond := .code yX0_isOn cX0_isOn 1 (some .boolean) :: ([.fieldLink RX0 7 "ModeDesk" "active" "[I"] ++ wsX00)
def wsX0_change : List Cond := .code yX0_change cX0_change 5 none :: ([.fieldLink RX0 7 "ModeDesk" "active" "[I", .fieldLink RX0 13 "ModeDesk" "flashing" "[I", .fieldLink RX0 115 "ModeDesk" "changeCount" "I", .fieldLink RX0 23 "ModeDesk" "changes" "[I", .methodLink RX0 107 yX0_bit, .static yX0_bit, .initialized RX0, .code yX0_bit cX0_bit 2 (some .int)] ++ wsX00)
def wsX0_disarmAll : List Cond := .code yX0_disarmAll cX0_disarmAll 1 none :: ([.fieldLink RX0 90 "ModeDesk" "navArmed" "Z", .fieldLink RX0 93 "ModeDesk" "approachArmed" "Z", .fieldLink RX0 96 "ModeDesk" "glideArmed" "Z"] ++ wsX00)
def wsX0_goToBase : List Cond := .code yX0_goToBase cX0_goToBase 1 none :: ([.methodLink RX0 124 yX0_change, .instanceMethod yX0_change, .selects RX0 yX0_change yX0_change, .initialized RX0, .code yX0_change cX0_change 5 none, .fieldLink RX0 7 "ModeDesk" "active" "[I", .fieldLink RX0 13 "ModeDesk" "flashing" "[I", .fieldLink RX0 115 "ModeDesk" "changeCount" "I", .fieldLink RX0 23 "ModeDesk" "changes" "[I", .methodLink RX0 107 yX0_bit, .static yX0_bit, .code yX0_bit cX0_bit 2 (some .int), .methodLink RX0 128 yX0_disarmAll, .instanceMethod yX0_disarmAll, .selects RX0 yX0_disarmAll yX0_disarmAll, .code yX0_disarmAll cX0_disarmAll 1 none, .fieldLink RX0 90 "ModeDesk" "navArmed" "Z", .fieldLink RX0 93 "ModeDesk" "approachArmed" "Z", .fieldLink RX0 96 "ModeDesk" "glideArmed" "Z"] ++ wsX00)
def wsX0_turnOnIfOff_r1 : List Cond := [Cond.methodLink RX0 104 yX0_isOn, Cond.instanceMethod yX0_isOn, Cond.selects RX0 yX0_isOn yX0_isOn, Cond.initialized RX0, Cond.code yX0_isOn cX0_isOn 1 (some .boolean), Cond.fieldLink RX0 7 "ModeDesk" "active" "[I", Cond.methodLink RX0 131 yX0_goToBase, Cond.instanceMethod yX0_goToBase, Cond.selects RX0 yX0_goToBase yX0_goToBase, Cond.code yX0_goToBase cX0_goToBase 1 none, Cond.methodLink RX0 124 yX0_change, Cond.instanceMethod yX0_change, Cond.selects RX0 yX0_change yX0_change, Cond.code yX0_change cX0_change 5 none, Cond.fieldLink RX0 13 "ModeDesk" "flashing" "[I", Cond.fieldLink RX0 115 "ModeDesk" "changeCount" "I", Cond.fieldLink RX0 23 "ModeDesk" "changes" "[I", Cond.methodLink RX0 107 yX0_bit, Cond.static yX0_bit, Cond.code yX0_bit cX0_bit 2 (some .int), Cond.methodLink RX0 128 yX0_disarmAll, Cond.instanceMethod yX0_disarmAll, Cond.selects RX0 yX0_disarmAll yX0_disarmAll, Cond.code yX0_disarmAll cX0_disarmAll 1 none]
def wsX0_turnOnIfOff_r2 : List Cond := [Cond.fieldLink RX0 90 "ModeDesk" "navArmed" "Z", Cond.fieldLink RX0 93 "ModeDesk" "approachArmed" "Z", Cond.fieldLink RX0 96 "ModeDesk" "glideArmed" "Z"]
def wsX0_turnOnIfOff : List Cond := .code yX0_turnOnIfOff cX0_turnOnIfOff 1 none :: ((wsX0_turnOnIfOff_r1 ++ wsX0_turnOnIfOff_r2) ++ wsX00)
def wsX0_leaveCourseFor : List Cond := .code yX0_leaveCourseFor cX0_leaveCourseFor 3 none :: ([.fieldLink RX0 7 "ModeDesk" "active" "[I", .fieldLink RX0 93 "ModeDesk" "approachArmed" "Z", .fieldLink RX0 96 "ModeDesk" "glideArmed" "Z", .methodLink RX0 124 yX0_change, .instanceMethod yX0_change, .selects RX0 yX0_change yX0_change, .initialized RX0, .code yX0_change cX0_change 5 none, .fieldLink RX0 13 "ModeDesk" "flashing" "[I", .fieldLink RX0 115 "ModeDesk" "changeCount" "I", .fieldLink RX0 23 "ModeDesk" "changes" "[I", .methodLink RX0 107 yX0_bit, .static yX0_bit, .code yX0_bit cX0_bit 2 (some .int)] ++ wsX00)
def wsX0_obeyHeading : List Cond := .code yX0_obeyHeading cX0_obeyHeading 1 none :: ([.fieldLink RX0 7 "ModeDesk" "active" "[I", .methodLink RX0 124 yX0_change, .instanceMethod yX0_change, .selects RX0 yX0_change yX0_change, .initialized RX0, .code yX0_change cX0_change 5 none, .fieldLink RX0 13 "ModeDesk" "flashing" "[I", .fieldLink RX0 115 "ModeDesk" "changeCount" "I", .fieldLink RX0 23 "ModeDesk" "changes" "[I", .methodLink RX0 107 yX0_bit, .static yX0_bit, .code yX0_bit cX0_bit 2 (some .int), .methodLink RX0 158 yX0_leaveCourseFor, .instanceMethod yX0_leaveCourseFor, .selects RX0 yX0_leaveCourseFor yX0_leaveCourseFor, .code yX0_leaveCourseFor cX0_leaveCourseFor 3 none, .fieldLink RX0 93 "ModeDesk" "approachArmed" "Z", .fieldLink RX0 96 "ModeDesk" "glideArmed" "Z"] ++ wsX00)
def wsX0_obeyNav : List Cond := .code yX0_obeyNav cX0_obeyNav 1 none :: ([.fieldLink RX0 7 "ModeDesk" "active" "[I", .fieldLink RX0 90 "ModeDesk" "navArmed" "Z", .fieldLink RX0 93 "ModeDesk" "approachArmed" "Z", .fieldLink RX0 96 "ModeDesk" "glideArmed" "Z", .methodLink RX0 124 yX0_change, .instanceMethod yX0_change, .selects RX0 yX0_change yX0_change, .initialized RX0, .code yX0_change cX0_change 5 none, .fieldLink RX0 13 "ModeDesk" "flashing" "[I", .fieldLink RX0 115 "ModeDesk" "changeCount" "I", .fieldLink RX0 23 "ModeDesk" "changes" "[I", .methodLink RX0 107 yX0_bit, .static yX0_bit, .code yX0_bit cX0_bit 2 (some .int)] ++ wsX00)
def wsX0_obeyApproach : List Cond := .code yX0_obeyApproach cX0_obeyApproach 1 none :: ([.fieldLink RX0 7 "ModeDesk" "active" "[I", .fieldLink RX0 93 "ModeDesk" "approachArmed" "Z", .fieldLink RX0 96 "ModeDesk" "glideArmed" "Z", .fieldLink RX0 90 "ModeDesk" "navArmed" "Z", .methodLink RX0 158 yX0_leaveCourseFor, .instanceMethod yX0_leaveCourseFor, .selects RX0 yX0_leaveCourseFor yX0_leaveCourseFor, .initialized RX0, .code yX0_leaveCourseFor cX0_leaveCourseFor 3 none, .methodLink RX0 124 yX0_change, .instanceMethod yX0_change, .selects RX0 yX0_change yX0_change, .code yX0_change cX0_change 5 none, .fieldLink RX0 13 "ModeDesk" "flashing" "[I", .fieldLink RX0 115 "ModeDesk" "changeCount" "I", .fieldLink RX0 23 "ModeDesk" "changes" "[I", .methodLink RX0 107 yX0_bit, .static yX0_bit, .code yX0_bit cX0_bit 2 (some .int)] ++ wsX00)
def wsX0_obeyVertical : List Cond := .code yX0_obeyVertical cX0_obeyVertical 2 none :: ([.fieldLink RX0 7 "ModeDesk" "active" "[I", .methodLink RX0 124 yX0_change, .instanceMethod yX0_change, .selects RX0 yX0_change yX0_change, .initialized RX0, .code yX0_change cX0_change 5 none, .fieldLink RX0 13 "ModeDesk" "flashing" "[I", .fieldLink RX0 115 "ModeDesk" "changeCount" "I", .fieldLink RX0 23 "ModeDesk" "changes" "[I", .methodLink RX0 107 yX0_bit, .static yX0_bit, .code yX0_bit cX0_bit 2 (some .int)] ++ wsX00)
def wsX0_disengageWithWarning : List Cond := .code yX0_disengageWithWarning cX0_disengageWithWarning 1 none :: ([.fieldLink RX0 63 "ModeDesk" "engaged" "Z", .fieldLink RX0 83 "ModeDesk" "warning" "Z"] ++ wsX00)
def wsX0_obeyAround_r1 : List Cond := [Cond.methodLink RX0 124 yX0_change, Cond.instanceMethod yX0_change, Cond.selects RX0 yX0_change yX0_change, Cond.initialized RX0, Cond.code yX0_change cX0_change 5 none, Cond.fieldLink RX0 7 "ModeDesk" "active" "[I", Cond.fieldLink RX0 13 "ModeDesk" "flashing" "[I", Cond.fieldLink RX0 115 "ModeDesk" "changeCount" "I", Cond.fieldLink RX0 23 "ModeDesk" "changes" "[I", Cond.methodLink RX0 107 yX0_bit, Cond.static yX0_bit, Cond.code yX0_bit cX0_bit 2 (some .int), Cond.methodLink RX0 128 yX0_disarmAll, Cond.instanceMethod yX0_disarmAll, Cond.selects RX0 yX0_disarmAll yX0_disarmAll, Cond.code yX0_disarmAll cX0_disarmAll 1 none, Cond.fieldLink RX0 90 "ModeDesk" "navArmed" "Z", Cond.fieldLink RX0 93 "ModeDesk" "approachArmed" "Z", Cond.fieldLink RX0 96 "ModeDesk" "glideArmed" "Z", Cond.methodLink RX0 80 yX0_disengageWithWarning, Cond.instanceMethod yX0_disengageWithWarning, Cond.selects RX0 yX0_disengageWithWarning yX0_disengageWithWarning, Cond.code yX0_disengageWithWarning cX0_disengageWithWarning 1 none, Cond.fieldLink RX0 63 "ModeDesk" "engaged" "Z"]
def wsX0_obeyAround_r2 : List Cond := [Cond.fieldLink RX0 83 "ModeDesk" "warning" "Z"]
def wsX0_obeyAround : List Cond := .code yX0_obeyAround cX0_obeyAround 1 none :: ((wsX0_obeyAround_r1 ++ wsX0_obeyAround_r2) ++ wsX00)
def wsX0_obeySync : List Cond := .code yX0_obeySync cX0_obeySync 1 none :: ([.fieldLink RX0 7 "ModeDesk" "active" "[I", .methodLink RX0 124 yX0_change, .instanceMethod yX0_change, .selects RX0 yX0_change yX0_change, .initialized RX0, .code yX0_change cX0_change 5 none, .fieldLink RX0 13 "ModeDesk" "flashing" "[I", .fieldLink RX0 115 "ModeDesk" "changeCount" "I", .fieldLink RX0 23 "ModeDesk" "changes" "[I", .methodLink RX0 107 yX0_bit, .static yX0_bit, .code yX0_bit cX0_bit 2 (some .int)] ++ wsX00)
def wsX0_obeyTransfer_r1 : List Cond := [Cond.fieldLink RX0 111 "ModeDesk" "leader" "I", Cond.fieldLink RX0 19 "ModeDesk" "soundness" "[Z", Cond.methodLink RX0 104 yX0_isOn, Cond.instanceMethod yX0_isOn, Cond.selects RX0 yX0_isOn yX0_isOn, Cond.initialized RX0, Cond.code yX0_isOn cX0_isOn 1 (some .boolean), Cond.fieldLink RX0 7 "ModeDesk" "active" "[I", Cond.methodLink RX0 131 yX0_goToBase, Cond.instanceMethod yX0_goToBase, Cond.selects RX0 yX0_goToBase yX0_goToBase, Cond.code yX0_goToBase cX0_goToBase 1 none, Cond.methodLink RX0 124 yX0_change, Cond.instanceMethod yX0_change, Cond.selects RX0 yX0_change yX0_change, Cond.code yX0_change cX0_change 5 none, Cond.fieldLink RX0 13 "ModeDesk" "flashing" "[I", Cond.fieldLink RX0 115 "ModeDesk" "changeCount" "I", Cond.fieldLink RX0 23 "ModeDesk" "changes" "[I", Cond.methodLink RX0 107 yX0_bit, Cond.static yX0_bit, Cond.code yX0_bit cX0_bit 2 (some .int), Cond.methodLink RX0 128 yX0_disarmAll, Cond.instanceMethod yX0_disarmAll]
def wsX0_obeyTransfer_r2 : List Cond := [Cond.selects RX0 yX0_disarmAll yX0_disarmAll, Cond.code yX0_disarmAll cX0_disarmAll 1 none, Cond.fieldLink RX0 90 "ModeDesk" "navArmed" "Z", Cond.fieldLink RX0 93 "ModeDesk" "approachArmed" "Z", Cond.fieldLink RX0 96 "ModeDesk" "glideArmed" "Z"]
def wsX0_obeyTransfer : List Cond := .code yX0_obeyTransfer cX0_obeyTransfer 2 none :: ((wsX0_obeyTransfer_r1 ++ wsX0_obeyTransfer_r2) ++ wsX00)
def wsX0_turnOff_r1 : List Cond := [Cond.methodLink RX0 124 yX0_change, Cond.instanceMethod yX0_change, Cond.selects RX0 yX0_change yX0_change, Cond.initialized RX0, Cond.code yX0_change cX0_change 5 none, Cond.fieldLink RX0 7 "ModeDesk" "active" "[I", Cond.fieldLink RX0 13 "ModeDesk" "flashing" "[I", Cond.fieldLink RX0 115 "ModeDesk" "changeCount" "I", Cond.fieldLink RX0 23 "ModeDesk" "changes" "[I", Cond.methodLink RX0 107 yX0_bit, Cond.static yX0_bit, Cond.code yX0_bit cX0_bit 2 (some .int), Cond.methodLink RX0 128 yX0_disarmAll, Cond.instanceMethod yX0_disarmAll, Cond.selects RX0 yX0_disarmAll yX0_disarmAll, Cond.code yX0_disarmAll cX0_disarmAll 1 none, Cond.fieldLink RX0 90 "ModeDesk" "navArmed" "Z", Cond.fieldLink RX0 93 "ModeDesk" "approachArmed" "Z", Cond.fieldLink RX0 96 "ModeDesk" "glideArmed" "Z", Cond.methodLink RX0 80 yX0_disengageWithWarning, Cond.instanceMethod yX0_disengageWithWarning, Cond.selects RX0 yX0_disengageWithWarning yX0_disengageWithWarning, Cond.code yX0_disengageWithWarning cX0_disengageWithWarning 1 none, Cond.fieldLink RX0 63 "ModeDesk" "engaged" "Z"]
def wsX0_turnOff_r2 : List Cond := [Cond.fieldLink RX0 83 "ModeDesk" "warning" "Z", Cond.methodLink RX0 37 yX0_stopFlashing, Cond.instanceMethod yX0_stopFlashing, Cond.selects RX0 yX0_stopFlashing yX0_stopFlashing, Cond.code yX0_stopFlashing cX0_stopFlashing 1 none]
def wsX0_turnOff : List Cond := .code yX0_turnOff cX0_turnOff 2 none :: ((wsX0_turnOff_r1 ++ wsX0_turnOff_r2) ++ wsX00)
def wsX0_obeyDirector_r1 : List Cond := [Cond.fieldLink RX0 63 "ModeDesk" "engaged" "Z", Cond.methodLink RX0 104 yX0_isOn, Cond.instanceMethod yX0_isOn, Cond.selects RX0 yX0_isOn yX0_isOn, Cond.initialized RX0, Cond.code yX0_isOn cX0_isOn 1 (some .boolean), Cond.fieldLink RX0 7 "ModeDesk" "active" "[I", Cond.methodLink RX0 67 yX0_isAnyChannelSound, Cond.instanceMethod yX0_isAnyChannelSound, Cond.selects RX0 yX0_isAnyChannelSound yX0_isAnyChannelSound, Cond.code yX0_isAnyChannelSound cX0_isAnyChannelSound 1 (some .boolean), Cond.fieldLink RX0 19 "ModeDesk" "soundness" "[Z", Cond.methodLink RX0 131 yX0_goToBase, Cond.instanceMethod yX0_goToBase, Cond.selects RX0 yX0_goToBase yX0_goToBase, Cond.code yX0_goToBase cX0_goToBase 1 none, Cond.methodLink RX0 124 yX0_change, Cond.instanceMethod yX0_change, Cond.selects RX0 yX0_change yX0_change, Cond.code yX0_change cX0_change 5 none, Cond.fieldLink RX0 13 "ModeDesk" "flashing" "[I", Cond.fieldLink RX0 115 "ModeDesk" "changeCount" "I", Cond.fieldLink RX0 23 "ModeDesk" "changes" "[I", Cond.methodLink RX0 107 yX0_bit]
def wsX0_obeyDirector_r2 : List Cond := [Cond.static yX0_bit, Cond.code yX0_bit cX0_bit 2 (some .int), Cond.methodLink RX0 128 yX0_disarmAll, Cond.instanceMethod yX0_disarmAll, Cond.selects RX0 yX0_disarmAll yX0_disarmAll, Cond.code yX0_disarmAll cX0_disarmAll 1 none, Cond.fieldLink RX0 90 "ModeDesk" "navArmed" "Z", Cond.fieldLink RX0 93 "ModeDesk" "approachArmed" "Z", Cond.fieldLink RX0 96 "ModeDesk" "glideArmed" "Z", Cond.methodLink RX0 162 yX0_turnOff, Cond.instanceMethod yX0_turnOff, Cond.selects RX0 yX0_turnOff yX0_turnOff, Cond.code yX0_turnOff cX0_turnOff 2 none, Cond.methodLink RX0 80 yX0_disengageWithWarning, Cond.instanceMethod yX0_disengageWithWarning, Cond.selects RX0 yX0_disengageWithWarning yX0_disengageWithWarning, Cond.code yX0_disengageWithWarning cX0_disengageWithWarning 1 none, Cond.fieldLink RX0 83 "ModeDesk" "warning" "Z", Cond.methodLink RX0 37 yX0_stopFlashing, Cond.instanceMethod yX0_stopFlashing, Cond.selects RX0 yX0_stopFlashing yX0_stopFlashing, Cond.code yX0_stopFlashing cX0_stopFlashing 1 none]
def wsX0_obeyDirector : List Cond := .code yX0_obeyDirector cX0_obeyDirector 1 none :: ((wsX0_obeyDirector_r1 ++ wsX0_obeyDirector_r2) ++ wsX00)
def wsX0_obey_r1 : List Cond := [Cond.methodLink RX0 67 yX0_isAnyChannelSound, Cond.instanceMethod yX0_isAnyChannelSound, Cond.selects RX0 yX0_isAnyChannelSound yX0_isAnyChannelSound, Cond.initialized RX0, Cond.code yX0_isAnyChannelSound cX0_isAnyChannelSound 1 (some .boolean), Cond.fieldLink RX0 19 "ModeDesk" "soundness" "[Z", Cond.methodLink RX0 77 yX0_turnOnIfOff, Cond.instanceMethod yX0_turnOnIfOff, Cond.selects RX0 yX0_turnOnIfOff yX0_turnOnIfOff, Cond.code yX0_turnOnIfOff cX0_turnOnIfOff 1 none, Cond.methodLink RX0 104 yX0_isOn, Cond.instanceMethod yX0_isOn, Cond.selects RX0 yX0_isOn yX0_isOn, Cond.code yX0_isOn cX0_isOn 1 (some .boolean), Cond.fieldLink RX0 7 "ModeDesk" "active" "[I", Cond.methodLink RX0 131 yX0_goToBase, Cond.instanceMethod yX0_goToBase, Cond.selects RX0 yX0_goToBase yX0_goToBase, Cond.code yX0_goToBase cX0_goToBase 1 none, Cond.methodLink RX0 124 yX0_change, Cond.instanceMethod yX0_change, Cond.selects RX0 yX0_change yX0_change, Cond.code yX0_change cX0_change 5 none, Cond.fieldLink RX0 13 "ModeDesk" "flashing" "[I"]
def wsX0_obey_r2 : List Cond := [Cond.fieldLink RX0 115 "ModeDesk" "changeCount" "I", Cond.fieldLink RX0 23 "ModeDesk" "changes" "[I", Cond.methodLink RX0 107 yX0_bit, Cond.static yX0_bit, Cond.code yX0_bit cX0_bit 2 (some .int), Cond.methodLink RX0 128 yX0_disarmAll, Cond.instanceMethod yX0_disarmAll, Cond.selects RX0 yX0_disarmAll yX0_disarmAll, Cond.code yX0_disarmAll cX0_disarmAll 1 none, Cond.fieldLink RX0 90 "ModeDesk" "navArmed" "Z", Cond.fieldLink RX0 93 "ModeDesk" "approachArmed" "Z", Cond.fieldLink RX0 96 "ModeDesk" "glideArmed" "Z", Cond.methodLink RX0 134 yX0_obeyHeading, Cond.instanceMethod yX0_obeyHeading, Cond.selects RX0 yX0_obeyHeading yX0_obeyHeading, Cond.code yX0_obeyHeading cX0_obeyHeading 1 none, Cond.methodLink RX0 158 yX0_leaveCourseFor, Cond.instanceMethod yX0_leaveCourseFor, Cond.selects RX0 yX0_leaveCourseFor yX0_leaveCourseFor, Cond.code yX0_leaveCourseFor cX0_leaveCourseFor 3 none, Cond.methodLink RX0 137 yX0_obeyNav, Cond.instanceMethod yX0_obeyNav, Cond.selects RX0 yX0_obeyNav yX0_obeyNav, Cond.code yX0_obeyNav cX0_obeyNav 1 none]
def wsX0_obey_r3 : List Cond := [Cond.methodLink RX0 140 yX0_obeyApproach, Cond.instanceMethod yX0_obeyApproach, Cond.selects RX0 yX0_obeyApproach yX0_obeyApproach, Cond.code yX0_obeyApproach cX0_obeyApproach 1 none, Cond.methodLink RX0 143 yX0_obeyVertical, Cond.instanceMethod yX0_obeyVertical, Cond.selects RX0 yX0_obeyVertical yX0_obeyVertical, Cond.code yX0_obeyVertical cX0_obeyVertical 2 none, Cond.methodLink RX0 146 yX0_obeyAround, Cond.instanceMethod yX0_obeyAround, Cond.selects RX0 yX0_obeyAround yX0_obeyAround, Cond.code yX0_obeyAround cX0_obeyAround 1 none, Cond.methodLink RX0 80 yX0_disengageWithWarning, Cond.instanceMethod yX0_disengageWithWarning, Cond.selects RX0 yX0_disengageWithWarning yX0_disengageWithWarning, Cond.code yX0_disengageWithWarning cX0_disengageWithWarning 1 none, Cond.fieldLink RX0 63 "ModeDesk" "engaged" "Z", Cond.fieldLink RX0 83 "ModeDesk" "warning" "Z", Cond.methodLink RX0 149 yX0_obeySync, Cond.instanceMethod yX0_obeySync, Cond.selects RX0 yX0_obeySync yX0_obeySync, Cond.code yX0_obeySync cX0_obeySync 1 none, Cond.methodLink RX0 152 yX0_obeyTransfer, Cond.instanceMethod yX0_obeyTransfer]
def wsX0_obey_r4 : List Cond := [Cond.selects RX0 yX0_obeyTransfer yX0_obeyTransfer, Cond.code yX0_obeyTransfer cX0_obeyTransfer 2 none, Cond.fieldLink RX0 111 "ModeDesk" "leader" "I", Cond.methodLink RX0 155 yX0_obeyDirector, Cond.instanceMethod yX0_obeyDirector, Cond.selects RX0 yX0_obeyDirector yX0_obeyDirector, Cond.code yX0_obeyDirector cX0_obeyDirector 1 none, Cond.methodLink RX0 162 yX0_turnOff, Cond.instanceMethod yX0_turnOff, Cond.selects RX0 yX0_turnOff yX0_turnOff, Cond.code yX0_turnOff cX0_turnOff 2 none, Cond.methodLink RX0 37 yX0_stopFlashing, Cond.instanceMethod yX0_stopFlashing, Cond.selects RX0 yX0_stopFlashing yX0_stopFlashing, Cond.code yX0_stopFlashing cX0_stopFlashing 1 none]
def wsX0_obey : List Cond := .code yX0_obey cX0_obey 2 none :: ((wsX0_obey_r1 ++ (wsX0_obey_r2 ++ (wsX0_obey_r3 ++ wsX0_obey_r4))) ++ wsX00)
def wsX0_leaderFails_r1 : List Cond := [Cond.fieldLink RX0 19 "ModeDesk" "soundness" "[Z", Cond.fieldLink RX0 111 "ModeDesk" "leader" "I", Cond.methodLink RX0 104 yX0_isOn, Cond.instanceMethod yX0_isOn, Cond.selects RX0 yX0_isOn yX0_isOn, Cond.initialized RX0, Cond.code yX0_isOn cX0_isOn 1 (some .boolean), Cond.fieldLink RX0 7 "ModeDesk" "active" "[I", Cond.methodLink RX0 162 yX0_turnOff, Cond.instanceMethod yX0_turnOff, Cond.selects RX0 yX0_turnOff yX0_turnOff, Cond.code yX0_turnOff cX0_turnOff 2 none, Cond.methodLink RX0 124 yX0_change, Cond.instanceMethod yX0_change, Cond.selects RX0 yX0_change yX0_change, Cond.code yX0_change cX0_change 5 none, Cond.fieldLink RX0 13 "ModeDesk" "flashing" "[I", Cond.fieldLink RX0 115 "ModeDesk" "changeCount" "I", Cond.fieldLink RX0 23 "ModeDesk" "changes" "[I", Cond.methodLink RX0 107 yX0_bit, Cond.static yX0_bit, Cond.code yX0_bit cX0_bit 2 (some .int), Cond.methodLink RX0 128 yX0_disarmAll, Cond.instanceMethod yX0_disarmAll]
def wsX0_leaderFails_r2 : List Cond := [Cond.selects RX0 yX0_disarmAll yX0_disarmAll, Cond.code yX0_disarmAll cX0_disarmAll 1 none, Cond.fieldLink RX0 90 "ModeDesk" "navArmed" "Z", Cond.fieldLink RX0 93 "ModeDesk" "approachArmed" "Z", Cond.fieldLink RX0 96 "ModeDesk" "glideArmed" "Z", Cond.methodLink RX0 80 yX0_disengageWithWarning, Cond.instanceMethod yX0_disengageWithWarning, Cond.selects RX0 yX0_disengageWithWarning yX0_disengageWithWarning, Cond.code yX0_disengageWithWarning cX0_disengageWithWarning 1 none, Cond.fieldLink RX0 63 "ModeDesk" "engaged" "Z", Cond.fieldLink RX0 83 "ModeDesk" "warning" "Z", Cond.methodLink RX0 37 yX0_stopFlashing, Cond.instanceMethod yX0_stopFlashing, Cond.selects RX0 yX0_stopFlashing yX0_stopFlashing, Cond.code yX0_stopFlashing cX0_stopFlashing 1 none]
def wsX0_leaderFails : List Cond := .code yX0_leaderFails cX0_leaderFails 2 (some .boolean) :: ((wsX0_leaderFails_r1 ++ wsX0_leaderFails_r2) ++ wsX00)
def wsX0_courseIsLost : List Cond := .code yX0_courseIsLost cX0_courseIsLost 2 (some .boolean) :: ([.fieldLink RX0 7 "ModeDesk" "active" "[I", .fieldLink RX0 16 "ModeDesk" "measures" "[I", .methodLink RX0 158 yX0_leaveCourseFor, .instanceMethod yX0_leaveCourseFor, .selects RX0 yX0_leaveCourseFor yX0_leaveCourseFor, .initialized RX0, .code yX0_leaveCourseFor cX0_leaveCourseFor 3 none, .fieldLink RX0 93 "ModeDesk" "approachArmed" "Z", .fieldLink RX0 96 "ModeDesk" "glideArmed" "Z", .methodLink RX0 124 yX0_change, .instanceMethod yX0_change, .selects RX0 yX0_change yX0_change, .code yX0_change cX0_change 5 none, .fieldLink RX0 13 "ModeDesk" "flashing" "[I", .fieldLink RX0 115 "ModeDesk" "changeCount" "I", .fieldLink RX0 23 "ModeDesk" "changes" "[I", .methodLink RX0 107 yX0_bit, .static yX0_bit, .code yX0_bit cX0_bit 2 (some .int)] ++ wsX00)
def wsX0_pathIsLost : List Cond := .code yX0_pathIsLost cX0_pathIsLost 2 (some .boolean) :: ([.fieldLink RX0 16 "ModeDesk" "measures" "[I", .fieldLink RX0 7 "ModeDesk" "active" "[I", .methodLink RX0 124 yX0_change, .instanceMethod yX0_change, .selects RX0 yX0_change yX0_change, .initialized RX0, .code yX0_change cX0_change 5 none, .fieldLink RX0 13 "ModeDesk" "flashing" "[I", .fieldLink RX0 115 "ModeDesk" "changeCount" "I", .fieldLink RX0 23 "ModeDesk" "changes" "[I", .methodLink RX0 107 yX0_bit, .static yX0_bit, .code yX0_bit cX0_bit 2 (some .int)] ++ wsX00)
def wsX0_isCourseWithin : List Cond := .code yX0_isCourseWithin cX0_isCourseWithin 2 (some .boolean) :: ([.fieldLink RX0 16 "ModeDesk" "measures" "[I", .methodLink RX0 118 Lib.Math.abs.name, .static Lib.Math.abs.name, .initialized "java/lang/Math", .code Lib.Math.abs.name Lib.Math.abs.code 1 (some .int)] ++ wsX00)
def wsX0_navIsReached : List Cond := .code yX0_navIsReached cX0_navIsReached 1 (some .boolean) :: ([.fieldLink RX0 90 "ModeDesk" "navArmed" "Z", .methodLink RX0 199 yX0_isCourseWithin, .instanceMethod yX0_isCourseWithin, .selects RX0 yX0_isCourseWithin yX0_isCourseWithin, .initialized RX0, .code yX0_isCourseWithin cX0_isCourseWithin 2 (some .boolean), .fieldLink RX0 16 "ModeDesk" "measures" "[I", .methodLink RX0 118 Lib.Math.abs.name, .static Lib.Math.abs.name, .initialized "java/lang/Math", .code Lib.Math.abs.name Lib.Math.abs.code 1 (some .int), .methodLink RX0 124 yX0_change, .instanceMethod yX0_change, .selects RX0 yX0_change yX0_change, .code yX0_change cX0_change 5 none, .fieldLink RX0 7 "ModeDesk" "active" "[I", .fieldLink RX0 13 "ModeDesk" "flashing" "[I", .fieldLink RX0 115 "ModeDesk" "changeCount" "I", .fieldLink RX0 23 "ModeDesk" "changes" "[I", .methodLink RX0 107 yX0_bit, .static yX0_bit, .code yX0_bit cX0_bit 2 (some .int)] ++ wsX00)
def wsX0_approachIsReached : List Cond := .code yX0_approachIsReached cX0_approachIsReached 1 (some .boolean) :: ([.fieldLink RX0 93 "ModeDesk" "approachArmed" "Z", .methodLink RX0 199 yX0_isCourseWithin, .instanceMethod yX0_isCourseWithin, .selects RX0 yX0_isCourseWithin yX0_isCourseWithin, .initialized RX0, .code yX0_isCourseWithin cX0_isCourseWithin 2 (some .boolean), .fieldLink RX0 16 "ModeDesk" "measures" "[I", .methodLink RX0 118 Lib.Math.abs.name, .static Lib.Math.abs.name, .initialized "java/lang/Math", .code Lib.Math.abs.name Lib.Math.abs.code 1 (some .int), .methodLink RX0 124 yX0_change, .instanceMethod yX0_change, .selects RX0 yX0_change yX0_change, .code yX0_change cX0_change 5 none, .fieldLink RX0 7 "ModeDesk" "active" "[I", .fieldLink RX0 13 "ModeDesk" "flashing" "[I", .fieldLink RX0 115 "ModeDesk" "changeCount" "I", .fieldLink RX0 23 "ModeDesk" "changes" "[I", .methodLink RX0 107 yX0_bit, .static yX0_bit, .code yX0_bit cX0_bit 2 (some .int)] ++ wsX00)
def wsX0_isPathWithin : List Cond := .code yX0_isPathWithin cX0_isPathWithin 2 (some .boolean) :: ([.fieldLink RX0 16 "ModeDesk" "measures" "[I", .methodLink RX0 118 Lib.Math.abs.name, .static Lib.Math.abs.name, .initialized "java/lang/Math", .code Lib.Math.abs.name Lib.Math.abs.code 1 (some .int)] ++ wsX00)
def wsX0_glideIsReached : List Cond := .code yX0_glideIsReached cX0_glideIsReached 1 (some .boolean) :: ([.fieldLink RX0 96 "ModeDesk" "glideArmed" "Z", .fieldLink RX0 7 "ModeDesk" "active" "[I", .methodLink RX0 202 yX0_isPathWithin, .instanceMethod yX0_isPathWithin, .selects RX0 yX0_isPathWithin yX0_isPathWithin, .initialized RX0, .code yX0_isPathWithin cX0_isPathWithin 2 (some .boolean), .fieldLink RX0 16 "ModeDesk" "measures" "[I", .methodLink RX0 118 Lib.Math.abs.name, .static Lib.Math.abs.name, .initialized "java/lang/Math", .code Lib.Math.abs.name Lib.Math.abs.code 1 (some .int), .methodLink RX0 124 yX0_change, .instanceMethod yX0_change, .selects RX0 yX0_change yX0_change, .code yX0_change cX0_change 5 none, .fieldLink RX0 13 "ModeDesk" "flashing" "[I", .fieldLink RX0 115 "ModeDesk" "changeCount" "I", .fieldLink RX0 23 "ModeDesk" "changes" "[I", .methodLink RX0 107 yX0_bit, .static yX0_bit, .code yX0_bit cX0_bit 2 (some .int)] ++ wsX00)
def wsX0_isCaptureArmed : List Cond := .code yX0_isCaptureArmed cX0_isCaptureArmed 2 (some .boolean) :: ([.fieldLink RX0 7 "ModeDesk" "active" "[I"] ++ wsX00)
def wsX0_isHeightWithin : List Cond := .code yX0_isHeightWithin cX0_isHeightWithin 2 (some .boolean) :: ([.fieldLink RX0 16 "ModeDesk" "measures" "[I", .methodLink RX0 118 Lib.Math.abs.name, .static Lib.Math.abs.name, .initialized "java/lang/Math", .code Lib.Math.abs.name Lib.Math.abs.code 1 (some .int)] ++ wsX00)
def wsX0_heightComesNear_r1 : List Cond := [Cond.methodLink RX0 99 yX0_isCaptureArmed, Cond.instanceMethod yX0_isCaptureArmed, Cond.selects RX0 yX0_isCaptureArmed yX0_isCaptureArmed, Cond.initialized RX0, Cond.code yX0_isCaptureArmed cX0_isCaptureArmed 2 (some .boolean), Cond.fieldLink RX0 7 "ModeDesk" "active" "[I", Cond.methodLink RX0 205 yX0_isHeightWithin, Cond.instanceMethod yX0_isHeightWithin, Cond.selects RX0 yX0_isHeightWithin yX0_isHeightWithin, Cond.code yX0_isHeightWithin cX0_isHeightWithin 2 (some .boolean), Cond.fieldLink RX0 16 "ModeDesk" "measures" "[I", Cond.methodLink RX0 118 Lib.Math.abs.name, Cond.static Lib.Math.abs.name, Cond.initialized "java/lang/Math", Cond.code Lib.Math.abs.name Lib.Math.abs.code 1 (some .int), Cond.methodLink RX0 124 yX0_change, Cond.instanceMethod yX0_change, Cond.selects RX0 yX0_change yX0_change, Cond.code yX0_change cX0_change 5 none, Cond.fieldLink RX0 13 "ModeDesk" "flashing" "[I", Cond.fieldLink RX0 115 "ModeDesk" "changeCount" "I", Cond.fieldLink RX0 23 "ModeDesk" "changes" "[I", Cond.methodLink RX0 107 yX0_bit, Cond.static yX0_bit]
def wsX0_heightComesNear_r2 : List Cond := [Cond.code yX0_bit cX0_bit 2 (some .int)]
def wsX0_heightComesNear : List Cond := .code yX0_heightComesNear cX0_heightComesNear 1 (some .boolean) :: ((wsX0_heightComesNear_r1 ++ wsX0_heightComesNear_r2) ++ wsX00)
def wsX0_heightIsReached : List Cond := .code yX0_heightIsReached cX0_heightIsReached 1 (some .boolean) :: ([.fieldLink RX0 7 "ModeDesk" "active" "[I", .methodLink RX0 205 yX0_isHeightWithin, .instanceMethod yX0_isHeightWithin, .selects RX0 yX0_isHeightWithin yX0_isHeightWithin, .initialized RX0, .code yX0_isHeightWithin cX0_isHeightWithin 2 (some .boolean), .fieldLink RX0 16 "ModeDesk" "measures" "[I", .methodLink RX0 118 Lib.Math.abs.name, .static Lib.Math.abs.name, .initialized "java/lang/Math", .code Lib.Math.abs.name Lib.Math.abs.code 1 (some .int), .methodLink RX0 124 yX0_change, .instanceMethod yX0_change, .selects RX0 yX0_change yX0_change, .code yX0_change cX0_change 5 none, .fieldLink RX0 13 "ModeDesk" "flashing" "[I", .fieldLink RX0 115 "ModeDesk" "changeCount" "I", .fieldLink RX0 23 "ModeDesk" "changes" "[I", .methodLink RX0 107 yX0_bit, .static yX0_bit, .code yX0_bit cX0_bit 2 (some .int)] ++ wsX00)
def wsX0_heightIsLost : List Cond := .code yX0_heightIsLost cX0_heightIsLost 1 (some .boolean) :: ([.fieldLink RX0 7 "ModeDesk" "active" "[I", .methodLink RX0 205 yX0_isHeightWithin, .instanceMethod yX0_isHeightWithin, .selects RX0 yX0_isHeightWithin yX0_isHeightWithin, .initialized RX0, .code yX0_isHeightWithin cX0_isHeightWithin 2 (some .boolean), .fieldLink RX0 16 "ModeDesk" "measures" "[I", .methodLink RX0 118 Lib.Math.abs.name, .static Lib.Math.abs.name, .initialized "java/lang/Math", .code Lib.Math.abs.name Lib.Math.abs.code 1 (some .int), .methodLink RX0 124 yX0_change, .instanceMethod yX0_change, .selects RX0 yX0_change yX0_change, .code yX0_change cX0_change 5 none, .fieldLink RX0 13 "ModeDesk" "flashing" "[I", .fieldLink RX0 115 "ModeDesk" "changeCount" "I", .fieldLink RX0 23 "ModeDesk" "changes" "[I", .methodLink RX0 107 yX0_bit, .static yX0_bit, .code yX0_bit cX0_bit 2 (some .int)] ++ wsX00)
def wsX0_isTooFast : List Cond := .code yX0_isTooFast cX0_isTooFast 1 (some .boolean) :: ([.fieldLink RX0 16 "ModeDesk" "measures" "[I"] ++ wsX00)
def wsX0_climbIsTooFast : List Cond := .code yX0_climbIsTooFast cX0_climbIsTooFast 1 (some .boolean) :: ([.fieldLink RX0 7 "ModeDesk" "active" "[I", .methodLink RX0 74 yX0_isTooFast, .instanceMethod yX0_isTooFast, .selects RX0 yX0_isTooFast yX0_isTooFast, .initialized RX0, .code yX0_isTooFast cX0_isTooFast 1 (some .boolean), .fieldLink RX0 16 "ModeDesk" "measures" "[I", .methodLink RX0 124 yX0_change, .instanceMethod yX0_change, .selects RX0 yX0_change yX0_change, .code yX0_change cX0_change 5 none, .fieldLink RX0 13 "ModeDesk" "flashing" "[I", .fieldLink RX0 115 "ModeDesk" "changeCount" "I", .fieldLink RX0 23 "ModeDesk" "changes" "[I", .methodLink RX0 107 yX0_bit, .static yX0_bit, .code yX0_bit cX0_bit 2 (some .int)] ++ wsX00)
def wsX0_comesAboutByItself_r1 : List Cond := [Cond.methodLink RX0 169 yX0_leaderFails, Cond.instanceMethod yX0_leaderFails, Cond.selects RX0 yX0_leaderFails yX0_leaderFails, Cond.initialized RX0, Cond.code yX0_leaderFails cX0_leaderFails 2 (some .boolean), Cond.fieldLink RX0 19 "ModeDesk" "soundness" "[Z", Cond.fieldLink RX0 111 "ModeDesk" "leader" "I", Cond.methodLink RX0 104 yX0_isOn, Cond.instanceMethod yX0_isOn, Cond.selects RX0 yX0_isOn yX0_isOn, Cond.code yX0_isOn cX0_isOn 1 (some .boolean), Cond.fieldLink RX0 7 "ModeDesk" "active" "[I", Cond.methodLink RX0 162 yX0_turnOff, Cond.instanceMethod yX0_turnOff, Cond.selects RX0 yX0_turnOff yX0_turnOff, Cond.code yX0_turnOff cX0_turnOff 2 none, Cond.methodLink RX0 124 yX0_change, Cond.instanceMethod yX0_change, Cond.selects RX0 yX0_change yX0_change, Cond.code yX0_change cX0_change 5 none, Cond.fieldLink RX0 13 "ModeDesk" "flashing" "[I", Cond.fieldLink RX0 115 "ModeDesk" "changeCount" "I", Cond.fieldLink RX0 23 "ModeDesk" "changes" "[I", Cond.methodLink RX0 107 yX0_bit]
def wsX0_comesAboutByItself_r2 : List Cond := [Cond.static yX0_bit, Cond.code yX0_bit cX0_bit 2 (some .int), Cond.methodLink RX0 128 yX0_disarmAll, Cond.instanceMethod yX0_disarmAll, Cond.selects RX0 yX0_disarmAll yX0_disarmAll, Cond.code yX0_disarmAll cX0_disarmAll 1 none, Cond.fieldLink RX0 90 "ModeDesk" "navArmed" "Z", Cond.fieldLink RX0 93 "ModeDesk" "approachArmed" "Z", Cond.fieldLink RX0 96 "ModeDesk" "glideArmed" "Z", Cond.methodLink RX0 80 yX0_disengageWithWarning, Cond.instanceMethod yX0_disengageWithWarning, Cond.selects RX0 yX0_disengageWithWarning yX0_disengageWithWarning, Cond.code yX0_disengageWithWarning cX0_disengageWithWarning 1 none, Cond.fieldLink RX0 63 "ModeDesk" "engaged" "Z", Cond.fieldLink RX0 83 "ModeDesk" "warning" "Z", Cond.methodLink RX0 37 yX0_stopFlashing, Cond.instanceMethod yX0_stopFlashing, Cond.selects RX0 yX0_stopFlashing yX0_stopFlashing, Cond.code yX0_stopFlashing cX0_stopFlashing 1 none, Cond.methodLink RX0 172 yX0_courseIsLost, Cond.instanceMethod yX0_courseIsLost, Cond.selects RX0 yX0_courseIsLost yX0_courseIsLost, Cond.code yX0_courseIsLost cX0_courseIsLost 2 (some .boolean), Cond.fieldLink RX0 16 "ModeDesk" "measures" "[I"]
def wsX0_comesAboutByItself_r3 : List Cond := [Cond.methodLink RX0 158 yX0_leaveCourseFor, Cond.instanceMethod yX0_leaveCourseFor, Cond.selects RX0 yX0_leaveCourseFor yX0_leaveCourseFor, Cond.code yX0_leaveCourseFor cX0_leaveCourseFor 3 none, Cond.methodLink RX0 175 yX0_pathIsLost, Cond.instanceMethod yX0_pathIsLost, Cond.selects RX0 yX0_pathIsLost yX0_pathIsLost, Cond.code yX0_pathIsLost cX0_pathIsLost 2 (some .boolean), Cond.methodLink RX0 178 yX0_navIsReached, Cond.instanceMethod yX0_navIsReached, Cond.selects RX0 yX0_navIsReached yX0_navIsReached, Cond.code yX0_navIsReached cX0_navIsReached 1 (some .boolean), Cond.methodLink RX0 199 yX0_isCourseWithin, Cond.instanceMethod yX0_isCourseWithin, Cond.selects RX0 yX0_isCourseWithin yX0_isCourseWithin, Cond.code yX0_isCourseWithin cX0_isCourseWithin 2 (some .boolean), Cond.methodLink RX0 118 Lib.Math.abs.name, Cond.static Lib.Math.abs.name, Cond.initialized "java/lang/Math", Cond.code Lib.Math.abs.name Lib.Math.abs.code 1 (some .int), Cond.methodLink RX0 181 yX0_approachIsReached, Cond.instanceMethod yX0_approachIsReached, Cond.selects RX0 yX0_approachIsReached yX0_approachIsReached, Cond.code yX0_approachIsReached cX0_approachIsReached 1 (some .boolean)]
def wsX0_comesAboutByItself_r4 : List Cond := [Cond.methodLink RX0 184 yX0_glideIsReached, Cond.instanceMethod yX0_glideIsReached, Cond.selects RX0 yX0_glideIsReached yX0_glideIsReached, Cond.code yX0_glideIsReached cX0_glideIsReached 1 (some .boolean), Cond.methodLink RX0 202 yX0_isPathWithin, Cond.instanceMethod yX0_isPathWithin, Cond.selects RX0 yX0_isPathWithin yX0_isPathWithin, Cond.code yX0_isPathWithin cX0_isPathWithin 2 (some .boolean), Cond.methodLink RX0 187 yX0_heightComesNear, Cond.instanceMethod yX0_heightComesNear, Cond.selects RX0 yX0_heightComesNear yX0_heightComesNear, Cond.code yX0_heightComesNear cX0_heightComesNear 1 (some .boolean), Cond.methodLink RX0 99 yX0_isCaptureArmed, Cond.instanceMethod yX0_isCaptureArmed, Cond.selects RX0 yX0_isCaptureArmed yX0_isCaptureArmed, Cond.code yX0_isCaptureArmed cX0_isCaptureArmed 2 (some .boolean), Cond.methodLink RX0 205 yX0_isHeightWithin, Cond.instanceMethod yX0_isHeightWithin, Cond.selects RX0 yX0_isHeightWithin yX0_isHeightWithin, Cond.code yX0_isHeightWithin cX0_isHeightWithin 2 (some .boolean), Cond.methodLink RX0 190 yX0_heightIsReached, Cond.instanceMethod yX0_heightIsReached, Cond.selects RX0 yX0_heightIsReached yX0_heightIsReached, Cond.code yX0_heightIsReached cX0_heightIsReached 1 (some .boolean)]
def wsX0_comesAboutByItself_r5 : List Cond := [Cond.methodLink RX0 193 yX0_heightIsLost, Cond.instanceMethod yX0_heightIsLost, Cond.selects RX0 yX0_heightIsLost yX0_heightIsLost, Cond.code yX0_heightIsLost cX0_heightIsLost 1 (some .boolean), Cond.methodLink RX0 196 yX0_climbIsTooFast, Cond.instanceMethod yX0_climbIsTooFast, Cond.selects RX0 yX0_climbIsTooFast yX0_climbIsTooFast, Cond.code yX0_climbIsTooFast cX0_climbIsTooFast 1 (some .boolean), Cond.methodLink RX0 74 yX0_isTooFast, Cond.instanceMethod yX0_isTooFast, Cond.selects RX0 yX0_isTooFast yX0_isTooFast, Cond.code yX0_isTooFast cX0_isTooFast 1 (some .boolean)]
def wsX0_comesAboutByItself : List Cond := .code yX0_comesAboutByItself cX0_comesAboutByItself 1 (some .boolean) :: ((wsX0_comesAboutByItself_r1 ++ (wsX0_comesAboutByItself_r2 ++ (wsX0_comesAboutByItself_r3 ++ (wsX0_comesAboutByItself_r4 ++ wsX0_comesAboutByItself_r5)))) ++ wsX00)
def wsX0_settle_r1 : List Cond := [Cond.methodLink RX0 166 yX0_comesAboutByItself, Cond.instanceMethod yX0_comesAboutByItself, Cond.selects RX0 yX0_comesAboutByItself yX0_comesAboutByItself, Cond.initialized RX0, Cond.code yX0_comesAboutByItself cX0_comesAboutByItself 1 (some .boolean), Cond.methodLink RX0 169 yX0_leaderFails, Cond.instanceMethod yX0_leaderFails, Cond.selects RX0 yX0_leaderFails yX0_leaderFails, Cond.code yX0_leaderFails cX0_leaderFails 2 (some .boolean), Cond.fieldLink RX0 19 "ModeDesk" "soundness" "[Z", Cond.fieldLink RX0 111 "ModeDesk" "leader" "I", Cond.methodLink RX0 104 yX0_isOn, Cond.instanceMethod yX0_isOn, Cond.selects RX0 yX0_isOn yX0_isOn, Cond.code yX0_isOn cX0_isOn 1 (some .boolean), Cond.fieldLink RX0 7 "ModeDesk" "active" "[I", Cond.methodLink RX0 162 yX0_turnOff, Cond.instanceMethod yX0_turnOff, Cond.selects RX0 yX0_turnOff yX0_turnOff, Cond.code yX0_turnOff cX0_turnOff 2 none, Cond.methodLink RX0 124 yX0_change, Cond.instanceMethod yX0_change, Cond.selects RX0 yX0_change yX0_change, Cond.code yX0_change cX0_change 5 none]
def wsX0_settle_r2 : List Cond := [Cond.fieldLink RX0 13 "ModeDesk" "flashing" "[I", Cond.fieldLink RX0 115 "ModeDesk" "changeCount" "I", Cond.fieldLink RX0 23 "ModeDesk" "changes" "[I", Cond.methodLink RX0 107 yX0_bit, Cond.static yX0_bit, Cond.code yX0_bit cX0_bit 2 (some .int), Cond.methodLink RX0 128 yX0_disarmAll, Cond.instanceMethod yX0_disarmAll, Cond.selects RX0 yX0_disarmAll yX0_disarmAll, Cond.code yX0_disarmAll cX0_disarmAll 1 none, Cond.fieldLink RX0 90 "ModeDesk" "navArmed" "Z", Cond.fieldLink RX0 93 "ModeDesk" "approachArmed" "Z", Cond.fieldLink RX0 96 "ModeDesk" "glideArmed" "Z", Cond.methodLink RX0 80 yX0_disengageWithWarning, Cond.instanceMethod yX0_disengageWithWarning, Cond.selects RX0 yX0_disengageWithWarning yX0_disengageWithWarning, Cond.code yX0_disengageWithWarning cX0_disengageWithWarning 1 none, Cond.fieldLink RX0 63 "ModeDesk" "engaged" "Z", Cond.fieldLink RX0 83 "ModeDesk" "warning" "Z", Cond.methodLink RX0 37 yX0_stopFlashing, Cond.instanceMethod yX0_stopFlashing, Cond.selects RX0 yX0_stopFlashing yX0_stopFlashing, Cond.code yX0_stopFlashing cX0_stopFlashing 1 none, Cond.methodLink RX0 172 yX0_courseIsLost]
def wsX0_settle_r3 : List Cond := [Cond.instanceMethod yX0_courseIsLost, Cond.selects RX0 yX0_courseIsLost yX0_courseIsLost, Cond.code yX0_courseIsLost cX0_courseIsLost 2 (some .boolean), Cond.fieldLink RX0 16 "ModeDesk" "measures" "[I", Cond.methodLink RX0 158 yX0_leaveCourseFor, Cond.instanceMethod yX0_leaveCourseFor, Cond.selects RX0 yX0_leaveCourseFor yX0_leaveCourseFor, Cond.code yX0_leaveCourseFor cX0_leaveCourseFor 3 none, Cond.methodLink RX0 175 yX0_pathIsLost, Cond.instanceMethod yX0_pathIsLost, Cond.selects RX0 yX0_pathIsLost yX0_pathIsLost, Cond.code yX0_pathIsLost cX0_pathIsLost 2 (some .boolean), Cond.methodLink RX0 178 yX0_navIsReached, Cond.instanceMethod yX0_navIsReached, Cond.selects RX0 yX0_navIsReached yX0_navIsReached, Cond.code yX0_navIsReached cX0_navIsReached 1 (some .boolean), Cond.methodLink RX0 199 yX0_isCourseWithin, Cond.instanceMethod yX0_isCourseWithin, Cond.selects RX0 yX0_isCourseWithin yX0_isCourseWithin, Cond.code yX0_isCourseWithin cX0_isCourseWithin 2 (some .boolean), Cond.methodLink RX0 118 Lib.Math.abs.name, Cond.static Lib.Math.abs.name, Cond.initialized "java/lang/Math", Cond.code Lib.Math.abs.name Lib.Math.abs.code 1 (some .int)]
def wsX0_settle_r4 : List Cond := [Cond.methodLink RX0 181 yX0_approachIsReached, Cond.instanceMethod yX0_approachIsReached, Cond.selects RX0 yX0_approachIsReached yX0_approachIsReached, Cond.code yX0_approachIsReached cX0_approachIsReached 1 (some .boolean), Cond.methodLink RX0 184 yX0_glideIsReached, Cond.instanceMethod yX0_glideIsReached, Cond.selects RX0 yX0_glideIsReached yX0_glideIsReached, Cond.code yX0_glideIsReached cX0_glideIsReached 1 (some .boolean), Cond.methodLink RX0 202 yX0_isPathWithin, Cond.instanceMethod yX0_isPathWithin, Cond.selects RX0 yX0_isPathWithin yX0_isPathWithin, Cond.code yX0_isPathWithin cX0_isPathWithin 2 (some .boolean), Cond.methodLink RX0 187 yX0_heightComesNear, Cond.instanceMethod yX0_heightComesNear, Cond.selects RX0 yX0_heightComesNear yX0_heightComesNear, Cond.code yX0_heightComesNear cX0_heightComesNear 1 (some .boolean), Cond.methodLink RX0 99 yX0_isCaptureArmed, Cond.instanceMethod yX0_isCaptureArmed, Cond.selects RX0 yX0_isCaptureArmed yX0_isCaptureArmed, Cond.code yX0_isCaptureArmed cX0_isCaptureArmed 2 (some .boolean), Cond.methodLink RX0 205 yX0_isHeightWithin, Cond.instanceMethod yX0_isHeightWithin, Cond.selects RX0 yX0_isHeightWithin yX0_isHeightWithin, Cond.code yX0_isHeightWithin cX0_isHeightWithin 2 (some .boolean)]
def wsX0_settle_r5 : List Cond := [Cond.methodLink RX0 190 yX0_heightIsReached, Cond.instanceMethod yX0_heightIsReached, Cond.selects RX0 yX0_heightIsReached yX0_heightIsReached, Cond.code yX0_heightIsReached cX0_heightIsReached 1 (some .boolean), Cond.methodLink RX0 193 yX0_heightIsLost, Cond.instanceMethod yX0_heightIsLost, Cond.selects RX0 yX0_heightIsLost yX0_heightIsLost, Cond.code yX0_heightIsLost cX0_heightIsLost 1 (some .boolean), Cond.methodLink RX0 196 yX0_climbIsTooFast, Cond.instanceMethod yX0_climbIsTooFast, Cond.selects RX0 yX0_climbIsTooFast yX0_climbIsTooFast, Cond.code yX0_climbIsTooFast cX0_climbIsTooFast 1 (some .boolean), Cond.methodLink RX0 74 yX0_isTooFast, Cond.instanceMethod yX0_isTooFast, Cond.selects RX0 yX0_isTooFast yX0_isTooFast, Cond.code yX0_isTooFast cX0_isTooFast 1 (some .boolean)]
def wsX0_settle : List Cond := .code yX0_settle cX0_settle 2 (some .int) :: ((wsX0_settle_r1 ++ (wsX0_settle_r2 ++ (wsX0_settle_r3 ++ (wsX0_settle_r4 ++ wsX0_settle_r5)))) ++ wsX00)
def wsX0_press_r1 : List Cond := [Cond.classLink RX0 26 "java/lang/IllegalArgumentException", Cond.initialized "java/lang/IllegalArgumentException", Cond.methodLink RX0 33 yX0_stateAsNumber, Cond.instanceMethod yX0_stateAsNumber, Cond.selects RX0 yX0_stateAsNumber yX0_stateAsNumber, Cond.initialized RX0, Cond.code yX0_stateAsNumber cX0_stateAsNumber 1 (some .int), Cond.fieldLink RX0 7 "ModeDesk" "active" "[I", Cond.fieldLink RX0 90 "ModeDesk" "navArmed" "Z", Cond.fieldLink RX0 93 "ModeDesk" "approachArmed" "Z", Cond.fieldLink RX0 96 "ModeDesk" "glideArmed" "Z", Cond.fieldLink RX0 63 "ModeDesk" "engaged" "Z", Cond.fieldLink RX0 111 "ModeDesk" "leader" "I", Cond.methodLink RX0 107 yX0_bit, Cond.static yX0_bit, Cond.code yX0_bit cX0_bit 2 (some .int), Cond.methodLink RX0 37 yX0_stopFlashing, Cond.instanceMethod yX0_stopFlashing, Cond.selects RX0 yX0_stopFlashing yX0_stopFlashing, Cond.code yX0_stopFlashing cX0_stopFlashing 1 none, Cond.fieldLink RX0 13 "ModeDesk" "flashing" "[I", Cond.methodLink RX0 40 yX0_obey, Cond.instanceMethod yX0_obey, Cond.selects RX0 yX0_obey yX0_obey]
def wsX0_press_r2 : List Cond := [Cond.code yX0_obey cX0_obey 2 none, Cond.methodLink RX0 67 yX0_isAnyChannelSound, Cond.instanceMethod yX0_isAnyChannelSound, Cond.selects RX0 yX0_isAnyChannelSound yX0_isAnyChannelSound, Cond.code yX0_isAnyChannelSound cX0_isAnyChannelSound 1 (some .boolean), Cond.fieldLink RX0 19 "ModeDesk" "soundness" "[Z", Cond.methodLink RX0 77 yX0_turnOnIfOff, Cond.instanceMethod yX0_turnOnIfOff, Cond.selects RX0 yX0_turnOnIfOff yX0_turnOnIfOff, Cond.code yX0_turnOnIfOff cX0_turnOnIfOff 1 none, Cond.methodLink RX0 104 yX0_isOn, Cond.instanceMethod yX0_isOn, Cond.selects RX0 yX0_isOn yX0_isOn, Cond.code yX0_isOn cX0_isOn 1 (some .boolean), Cond.methodLink RX0 131 yX0_goToBase, Cond.instanceMethod yX0_goToBase, Cond.selects RX0 yX0_goToBase yX0_goToBase, Cond.code yX0_goToBase cX0_goToBase 1 none, Cond.methodLink RX0 124 yX0_change, Cond.instanceMethod yX0_change, Cond.selects RX0 yX0_change yX0_change, Cond.code yX0_change cX0_change 5 none, Cond.fieldLink RX0 115 "ModeDesk" "changeCount" "I", Cond.fieldLink RX0 23 "ModeDesk" "changes" "[I"]
def wsX0_press_r3 : List Cond := [Cond.methodLink RX0 128 yX0_disarmAll, Cond.instanceMethod yX0_disarmAll, Cond.selects RX0 yX0_disarmAll yX0_disarmAll, Cond.code yX0_disarmAll cX0_disarmAll 1 none, Cond.methodLink RX0 134 yX0_obeyHeading, Cond.instanceMethod yX0_obeyHeading, Cond.selects RX0 yX0_obeyHeading yX0_obeyHeading, Cond.code yX0_obeyHeading cX0_obeyHeading 1 none, Cond.methodLink RX0 158 yX0_leaveCourseFor, Cond.instanceMethod yX0_leaveCourseFor, Cond.selects RX0 yX0_leaveCourseFor yX0_leaveCourseFor, Cond.code yX0_leaveCourseFor cX0_leaveCourseFor 3 none, Cond.methodLink RX0 137 yX0_obeyNav, Cond.instanceMethod yX0_obeyNav, Cond.selects RX0 yX0_obeyNav yX0_obeyNav, Cond.code yX0_obeyNav cX0_obeyNav 1 none, Cond.methodLink RX0 140 yX0_obeyApproach, Cond.instanceMethod yX0_obeyApproach, Cond.selects RX0 yX0_obeyApproach yX0_obeyApproach, Cond.code yX0_obeyApproach cX0_obeyApproach 1 none, Cond.methodLink RX0 143 yX0_obeyVertical, Cond.instanceMethod yX0_obeyVertical, Cond.selects RX0 yX0_obeyVertical yX0_obeyVertical, Cond.code yX0_obeyVertical cX0_obeyVertical 2 none]
def wsX0_press_r4 : List Cond := [Cond.methodLink RX0 146 yX0_obeyAround, Cond.instanceMethod yX0_obeyAround, Cond.selects RX0 yX0_obeyAround yX0_obeyAround, Cond.code yX0_obeyAround cX0_obeyAround 1 none, Cond.methodLink RX0 80 yX0_disengageWithWarning, Cond.instanceMethod yX0_disengageWithWarning, Cond.selects RX0 yX0_disengageWithWarning yX0_disengageWithWarning, Cond.code yX0_disengageWithWarning cX0_disengageWithWarning 1 none, Cond.fieldLink RX0 83 "ModeDesk" "warning" "Z", Cond.methodLink RX0 149 yX0_obeySync, Cond.instanceMethod yX0_obeySync, Cond.selects RX0 yX0_obeySync yX0_obeySync, Cond.code yX0_obeySync cX0_obeySync 1 none, Cond.methodLink RX0 152 yX0_obeyTransfer, Cond.instanceMethod yX0_obeyTransfer, Cond.selects RX0 yX0_obeyTransfer yX0_obeyTransfer, Cond.code yX0_obeyTransfer cX0_obeyTransfer 2 none, Cond.methodLink RX0 155 yX0_obeyDirector, Cond.instanceMethod yX0_obeyDirector, Cond.selects RX0 yX0_obeyDirector yX0_obeyDirector, Cond.code yX0_obeyDirector cX0_obeyDirector 1 none, Cond.methodLink RX0 162 yX0_turnOff, Cond.instanceMethod yX0_turnOff, Cond.selects RX0 yX0_turnOff yX0_turnOff]
def wsX0_press_r5 : List Cond := [Cond.code yX0_turnOff cX0_turnOff 2 none, Cond.methodLink RX0 44 yX0_settle, Cond.instanceMethod yX0_settle, Cond.selects RX0 yX0_settle yX0_settle, Cond.code yX0_settle cX0_settle 2 (some .int), Cond.methodLink RX0 166 yX0_comesAboutByItself, Cond.instanceMethod yX0_comesAboutByItself, Cond.selects RX0 yX0_comesAboutByItself yX0_comesAboutByItself, Cond.code yX0_comesAboutByItself cX0_comesAboutByItself 1 (some .boolean), Cond.methodLink RX0 169 yX0_leaderFails, Cond.instanceMethod yX0_leaderFails, Cond.selects RX0 yX0_leaderFails yX0_leaderFails, Cond.code yX0_leaderFails cX0_leaderFails 2 (some .boolean), Cond.methodLink RX0 172 yX0_courseIsLost, Cond.instanceMethod yX0_courseIsLost, Cond.selects RX0 yX0_courseIsLost yX0_courseIsLost, Cond.code yX0_courseIsLost cX0_courseIsLost 2 (some .boolean), Cond.fieldLink RX0 16 "ModeDesk" "measures" "[I", Cond.methodLink RX0 175 yX0_pathIsLost, Cond.instanceMethod yX0_pathIsLost, Cond.selects RX0 yX0_pathIsLost yX0_pathIsLost, Cond.code yX0_pathIsLost cX0_pathIsLost 2 (some .boolean), Cond.methodLink RX0 178 yX0_navIsReached, Cond.instanceMethod yX0_navIsReached]
def wsX0_press_r6 : List Cond := [Cond.selects RX0 yX0_navIsReached yX0_navIsReached, Cond.code yX0_navIsReached cX0_navIsReached 1 (some .boolean), Cond.methodLink RX0 199 yX0_isCourseWithin, Cond.instanceMethod yX0_isCourseWithin, Cond.selects RX0 yX0_isCourseWithin yX0_isCourseWithin, Cond.code yX0_isCourseWithin cX0_isCourseWithin 2 (some .boolean), Cond.methodLink RX0 118 Lib.Math.abs.name, Cond.static Lib.Math.abs.name, Cond.initialized "java/lang/Math", Cond.code Lib.Math.abs.name Lib.Math.abs.code 1 (some .int), Cond.methodLink RX0 181 yX0_approachIsReached, Cond.instanceMethod yX0_approachIsReached, Cond.selects RX0 yX0_approachIsReached yX0_approachIsReached, Cond.code yX0_approachIsReached cX0_approachIsReached 1 (some .boolean), Cond.methodLink RX0 184 yX0_glideIsReached, Cond.instanceMethod yX0_glideIsReached, Cond.selects RX0 yX0_glideIsReached yX0_glideIsReached, Cond.code yX0_glideIsReached cX0_glideIsReached 1 (some .boolean), Cond.methodLink RX0 202 yX0_isPathWithin, Cond.instanceMethod yX0_isPathWithin, Cond.selects RX0 yX0_isPathWithin yX0_isPathWithin, Cond.code yX0_isPathWithin cX0_isPathWithin 2 (some .boolean), Cond.methodLink RX0 187 yX0_heightComesNear, Cond.instanceMethod yX0_heightComesNear]
def wsX0_press_r7 : List Cond := [Cond.selects RX0 yX0_heightComesNear yX0_heightComesNear, Cond.code yX0_heightComesNear cX0_heightComesNear 1 (some .boolean), Cond.methodLink RX0 99 yX0_isCaptureArmed, Cond.instanceMethod yX0_isCaptureArmed, Cond.selects RX0 yX0_isCaptureArmed yX0_isCaptureArmed, Cond.code yX0_isCaptureArmed cX0_isCaptureArmed 2 (some .boolean), Cond.methodLink RX0 205 yX0_isHeightWithin, Cond.instanceMethod yX0_isHeightWithin, Cond.selects RX0 yX0_isHeightWithin yX0_isHeightWithin, Cond.code yX0_isHeightWithin cX0_isHeightWithin 2 (some .boolean), Cond.methodLink RX0 190 yX0_heightIsReached, Cond.instanceMethod yX0_heightIsReached, Cond.selects RX0 yX0_heightIsReached yX0_heightIsReached, Cond.code yX0_heightIsReached cX0_heightIsReached 1 (some .boolean), Cond.methodLink RX0 193 yX0_heightIsLost, Cond.instanceMethod yX0_heightIsLost, Cond.selects RX0 yX0_heightIsLost yX0_heightIsLost, Cond.code yX0_heightIsLost cX0_heightIsLost 1 (some .boolean), Cond.methodLink RX0 196 yX0_climbIsTooFast, Cond.instanceMethod yX0_climbIsTooFast, Cond.selects RX0 yX0_climbIsTooFast yX0_climbIsTooFast, Cond.code yX0_climbIsTooFast cX0_climbIsTooFast 1 (some .boolean), Cond.methodLink RX0 74 yX0_isTooFast, Cond.instanceMethod yX0_isTooFast]
def wsX0_press_r8 : List Cond := [Cond.selects RX0 yX0_isTooFast yX0_isTooFast, Cond.code yX0_isTooFast cX0_isTooFast 1 (some .boolean)]
def wsX0_press : List Cond := .code yX0_press cX0_press 3 (some .int) :: ((wsX0_press_r1 ++ (wsX0_press_r2 ++ (wsX0_press_r3 ++ (wsX0_press_r4 ++ (wsX0_press_r5 ++ (wsX0_press_r6 ++ (wsX0_press_r7 ++ wsX0_press_r8))))))) ++ wsX00 ++ (vx_atS RX0 30 "java/lang/IllegalArgumentException" ["java/lang/RuntimeException", "java/lang/Exception"]).filter goodWord)
def wsX0_isMeasure : List Cond := .code yX0_isMeasure cX0_isMeasure 1 (some .boolean) :: ([])
def wsX0_sense_r1 : List Cond := [Cond.classLink RX0 26 "java/lang/IllegalArgumentException", Cond.initialized "java/lang/IllegalArgumentException", Cond.fieldLink RX0 53 "ModeDesk" "LOWEST" "[I", Cond.fieldLink RX0 56 "ModeDesk" "HIGHEST" "[I", Cond.fieldLink RX0 16 "ModeDesk" "measures" "[I", Cond.methodLink RX0 47 yX0_isMeasure, Cond.static yX0_isMeasure, Cond.initialized RX0, Cond.code yX0_isMeasure cX0_isMeasure 1 (some .boolean), Cond.methodLink RX0 44 yX0_settle, Cond.instanceMethod yX0_settle, Cond.selects RX0 yX0_settle yX0_settle, Cond.code yX0_settle cX0_settle 2 (some .int), Cond.methodLink RX0 166 yX0_comesAboutByItself, Cond.instanceMethod yX0_comesAboutByItself, Cond.selects RX0 yX0_comesAboutByItself yX0_comesAboutByItself, Cond.code yX0_comesAboutByItself cX0_comesAboutByItself 1 (some .boolean), Cond.methodLink RX0 169 yX0_leaderFails, Cond.instanceMethod yX0_leaderFails, Cond.selects RX0 yX0_leaderFails yX0_leaderFails, Cond.code yX0_leaderFails cX0_leaderFails 2 (some .boolean), Cond.fieldLink RX0 19 "ModeDesk" "soundness" "[Z", Cond.fieldLink RX0 111 "ModeDesk" "leader" "I", Cond.methodLink RX0 104 yX0_isOn]
def wsX0_sense_r2 : List Cond := [Cond.instanceMethod yX0_isOn, Cond.selects RX0 yX0_isOn yX0_isOn, Cond.code yX0_isOn cX0_isOn 1 (some .boolean), Cond.fieldLink RX0 7 "ModeDesk" "active" "[I", Cond.methodLink RX0 162 yX0_turnOff, Cond.instanceMethod yX0_turnOff, Cond.selects RX0 yX0_turnOff yX0_turnOff, Cond.code yX0_turnOff cX0_turnOff 2 none, Cond.methodLink RX0 124 yX0_change, Cond.instanceMethod yX0_change, Cond.selects RX0 yX0_change yX0_change, Cond.code yX0_change cX0_change 5 none, Cond.fieldLink RX0 13 "ModeDesk" "flashing" "[I", Cond.fieldLink RX0 115 "ModeDesk" "changeCount" "I", Cond.fieldLink RX0 23 "ModeDesk" "changes" "[I", Cond.methodLink RX0 107 yX0_bit, Cond.static yX0_bit, Cond.code yX0_bit cX0_bit 2 (some .int), Cond.methodLink RX0 128 yX0_disarmAll, Cond.instanceMethod yX0_disarmAll, Cond.selects RX0 yX0_disarmAll yX0_disarmAll, Cond.code yX0_disarmAll cX0_disarmAll 1 none, Cond.fieldLink RX0 90 "ModeDesk" "navArmed" "Z", Cond.fieldLink RX0 93 "ModeDesk" "approachArmed" "Z"]
def wsX0_sense_r3 : List Cond := [Cond.fieldLink RX0 96 "ModeDesk" "glideArmed" "Z", Cond.methodLink RX0 80 yX0_disengageWithWarning, Cond.instanceMethod yX0_disengageWithWarning, Cond.selects RX0 yX0_disengageWithWarning yX0_disengageWithWarning, Cond.code yX0_disengageWithWarning cX0_disengageWithWarning 1 none, Cond.fieldLink RX0 63 "ModeDesk" "engaged" "Z", Cond.fieldLink RX0 83 "ModeDesk" "warning" "Z", Cond.methodLink RX0 37 yX0_stopFlashing, Cond.instanceMethod yX0_stopFlashing, Cond.selects RX0 yX0_stopFlashing yX0_stopFlashing, Cond.code yX0_stopFlashing cX0_stopFlashing 1 none, Cond.methodLink RX0 172 yX0_courseIsLost, Cond.instanceMethod yX0_courseIsLost, Cond.selects RX0 yX0_courseIsLost yX0_courseIsLost, Cond.code yX0_courseIsLost cX0_courseIsLost 2 (some .boolean), Cond.methodLink RX0 158 yX0_leaveCourseFor, Cond.instanceMethod yX0_leaveCourseFor, Cond.selects RX0 yX0_leaveCourseFor yX0_leaveCourseFor, Cond.code yX0_leaveCourseFor cX0_leaveCourseFor 3 none, Cond.methodLink RX0 175 yX0_pathIsLost, Cond.instanceMethod yX0_pathIsLost, Cond.selects RX0 yX0_pathIsLost yX0_pathIsLost, Cond.code yX0_pathIsLost cX0_pathIsLost 2 (some .boolean), Cond.methodLink RX0 178 yX0_navIsReached]
def wsX0_sense_r4 : List Cond := [Cond.instanceMethod yX0_navIsReached, Cond.selects RX0 yX0_navIsReached yX0_navIsReached, Cond.code yX0_navIsReached cX0_navIsReached 1 (some .boolean), Cond.methodLink RX0 199 yX0_isCourseWithin, Cond.instanceMethod yX0_isCourseWithin, Cond.selects RX0 yX0_isCourseWithin yX0_isCourseWithin, Cond.code yX0_isCourseWithin cX0_isCourseWithin 2 (some .boolean), Cond.methodLink RX0 118 Lib.Math.abs.name, Cond.static Lib.Math.abs.name, Cond.initialized "java/lang/Math", Cond.code Lib.Math.abs.name Lib.Math.abs.code 1 (some .int), Cond.methodLink RX0 181 yX0_approachIsReached, Cond.instanceMethod yX0_approachIsReached, Cond.selects RX0 yX0_approachIsReached yX0_approachIsReached, Cond.code yX0_approachIsReached cX0_approachIsReached 1 (some .boolean), Cond.methodLink RX0 184 yX0_glideIsReached, Cond.instanceMethod yX0_glideIsReached, Cond.selects RX0 yX0_glideIsReached yX0_glideIsReached, Cond.code yX0_glideIsReached cX0_glideIsReached 1 (some .boolean), Cond.methodLink RX0 202 yX0_isPathWithin, Cond.instanceMethod yX0_isPathWithin, Cond.selects RX0 yX0_isPathWithin yX0_isPathWithin, Cond.code yX0_isPathWithin cX0_isPathWithin 2 (some .boolean), Cond.methodLink RX0 187 yX0_heightComesNear]
def wsX0_sense_r5 : List Cond := [Cond.instanceMethod yX0_heightComesNear, Cond.selects RX0 yX0_heightComesNear yX0_heightComesNear, Cond.code yX0_heightComesNear cX0_heightComesNear 1 (some .boolean), Cond.methodLink RX0 99 yX0_isCaptureArmed, Cond.instanceMethod yX0_isCaptureArmed, Cond.selects RX0 yX0_isCaptureArmed yX0_isCaptureArmed, Cond.code yX0_isCaptureArmed cX0_isCaptureArmed 2 (some .boolean), Cond.methodLink RX0 205 yX0_isHeightWithin, Cond.instanceMethod yX0_isHeightWithin, Cond.selects RX0 yX0_isHeightWithin yX0_isHeightWithin, Cond.code yX0_isHeightWithin cX0_isHeightWithin 2 (some .boolean), Cond.methodLink RX0 190 yX0_heightIsReached, Cond.instanceMethod yX0_heightIsReached, Cond.selects RX0 yX0_heightIsReached yX0_heightIsReached, Cond.code yX0_heightIsReached cX0_heightIsReached 1 (some .boolean), Cond.methodLink RX0 193 yX0_heightIsLost, Cond.instanceMethod yX0_heightIsLost, Cond.selects RX0 yX0_heightIsLost yX0_heightIsLost, Cond.code yX0_heightIsLost cX0_heightIsLost 1 (some .boolean), Cond.methodLink RX0 196 yX0_climbIsTooFast, Cond.instanceMethod yX0_climbIsTooFast, Cond.selects RX0 yX0_climbIsTooFast yX0_climbIsTooFast, Cond.code yX0_climbIsTooFast cX0_climbIsTooFast 1 (some .boolean), Cond.methodLink RX0 74 yX0_isTooFast]
def wsX0_sense_r6 : List Cond := [Cond.instanceMethod yX0_isTooFast, Cond.selects RX0 yX0_isTooFast yX0_isTooFast, Cond.code yX0_isTooFast cX0_isTooFast 1 (some .boolean)]
def wsX0_sense : List Cond := .code yX0_sense cX0_sense 3 (some .int) :: ((wsX0_sense_r1 ++ (wsX0_sense_r2 ++ (wsX0_sense_r3 ++ (wsX0_sense_r4 ++ (wsX0_sense_r5 ++ wsX0_sense_r6))))) ++ wsX00 ++ (vx_atS RX0 30 "java/lang/IllegalArgumentException" ["java/lang/RuntimeException", "java/lang/Exception"]).filter goodWord)
def wsX0_channel_r1 : List Cond := [Cond.classLink RX0 26 "java/lang/IllegalArgumentException", Cond.initialized "java/lang/IllegalArgumentException", Cond.fieldLink RX0 19 "ModeDesk" "soundness" "[Z", Cond.methodLink RX0 44 yX0_settle, Cond.instanceMethod yX0_settle, Cond.selects RX0 yX0_settle yX0_settle, Cond.initialized RX0, Cond.code yX0_settle cX0_settle 2 (some .int), Cond.methodLink RX0 166 yX0_comesAboutByItself, Cond.instanceMethod yX0_comesAboutByItself, Cond.selects RX0 yX0_comesAboutByItself yX0_comesAboutByItself, Cond.code yX0_comesAboutByItself cX0_comesAboutByItself 1 (some .boolean), Cond.methodLink RX0 169 yX0_leaderFails, Cond.instanceMethod yX0_leaderFails, Cond.selects RX0 yX0_leaderFails yX0_leaderFails, Cond.code yX0_leaderFails cX0_leaderFails 2 (some .boolean), Cond.fieldLink RX0 111 "ModeDesk" "leader" "I", Cond.methodLink RX0 104 yX0_isOn, Cond.instanceMethod yX0_isOn, Cond.selects RX0 yX0_isOn yX0_isOn, Cond.code yX0_isOn cX0_isOn 1 (some .boolean), Cond.fieldLink RX0 7 "ModeDesk" "active" "[I", Cond.methodLink RX0 162 yX0_turnOff, Cond.instanceMethod yX0_turnOff]
def wsX0_channel_r2 : List Cond := [Cond.selects RX0 yX0_turnOff yX0_turnOff, Cond.code yX0_turnOff cX0_turnOff 2 none, Cond.methodLink RX0 124 yX0_change, Cond.instanceMethod yX0_change, Cond.selects RX0 yX0_change yX0_change, Cond.code yX0_change cX0_change 5 none, Cond.fieldLink RX0 13 "ModeDesk" "flashing" "[I", Cond.fieldLink RX0 115 "ModeDesk" "changeCount" "I", Cond.fieldLink RX0 23 "ModeDesk" "changes" "[I", Cond.methodLink RX0 107 yX0_bit, Cond.static yX0_bit, Cond.code yX0_bit cX0_bit 2 (some .int), Cond.methodLink RX0 128 yX0_disarmAll, Cond.instanceMethod yX0_disarmAll, Cond.selects RX0 yX0_disarmAll yX0_disarmAll, Cond.code yX0_disarmAll cX0_disarmAll 1 none, Cond.fieldLink RX0 90 "ModeDesk" "navArmed" "Z", Cond.fieldLink RX0 93 "ModeDesk" "approachArmed" "Z", Cond.fieldLink RX0 96 "ModeDesk" "glideArmed" "Z", Cond.methodLink RX0 80 yX0_disengageWithWarning, Cond.instanceMethod yX0_disengageWithWarning, Cond.selects RX0 yX0_disengageWithWarning yX0_disengageWithWarning, Cond.code yX0_disengageWithWarning cX0_disengageWithWarning 1 none, Cond.fieldLink RX0 63 "ModeDesk" "engaged" "Z"]
def wsX0_channel_r3 : List Cond := [Cond.fieldLink RX0 83 "ModeDesk" "warning" "Z", Cond.methodLink RX0 37 yX0_stopFlashing, Cond.instanceMethod yX0_stopFlashing, Cond.selects RX0 yX0_stopFlashing yX0_stopFlashing, Cond.code yX0_stopFlashing cX0_stopFlashing 1 none, Cond.methodLink RX0 172 yX0_courseIsLost, Cond.instanceMethod yX0_courseIsLost, Cond.selects RX0 yX0_courseIsLost yX0_courseIsLost, Cond.code yX0_courseIsLost cX0_courseIsLost 2 (some .boolean), Cond.fieldLink RX0 16 "ModeDesk" "measures" "[I", Cond.methodLink RX0 158 yX0_leaveCourseFor, Cond.instanceMethod yX0_leaveCourseFor, Cond.selects RX0 yX0_leaveCourseFor yX0_leaveCourseFor, Cond.code yX0_leaveCourseFor cX0_leaveCourseFor 3 none, Cond.methodLink RX0 175 yX0_pathIsLost, Cond.instanceMethod yX0_pathIsLost, Cond.selects RX0 yX0_pathIsLost yX0_pathIsLost, Cond.code yX0_pathIsLost cX0_pathIsLost 2 (some .boolean), Cond.methodLink RX0 178 yX0_navIsReached, Cond.instanceMethod yX0_navIsReached, Cond.selects RX0 yX0_navIsReached yX0_navIsReached, Cond.code yX0_navIsReached cX0_navIsReached 1 (some .boolean), Cond.methodLink RX0 199 yX0_isCourseWithin, Cond.instanceMethod yX0_isCourseWithin]
def wsX0_channel_r4 : List Cond := [Cond.selects RX0 yX0_isCourseWithin yX0_isCourseWithin, Cond.code yX0_isCourseWithin cX0_isCourseWithin 2 (some .boolean), Cond.methodLink RX0 118 Lib.Math.abs.name, Cond.static Lib.Math.abs.name, Cond.initialized "java/lang/Math", Cond.code Lib.Math.abs.name Lib.Math.abs.code 1 (some .int), Cond.methodLink RX0 181 yX0_approachIsReached, Cond.instanceMethod yX0_approachIsReached, Cond.selects RX0 yX0_approachIsReached yX0_approachIsReached, Cond.code yX0_approachIsReached cX0_approachIsReached 1 (some .boolean), Cond.methodLink RX0 184 yX0_glideIsReached, Cond.instanceMethod yX0_glideIsReached, Cond.selects RX0 yX0_glideIsReached yX0_glideIsReached, Cond.code yX0_glideIsReached cX0_glideIsReached 1 (some .boolean), Cond.methodLink RX0 202 yX0_isPathWithin, Cond.instanceMethod yX0_isPathWithin, Cond.selects RX0 yX0_isPathWithin yX0_isPathWithin, Cond.code yX0_isPathWithin cX0_isPathWithin 2 (some .boolean), Cond.methodLink RX0 187 yX0_heightComesNear, Cond.instanceMethod yX0_heightComesNear, Cond.selects RX0 yX0_heightComesNear yX0_heightComesNear, Cond.code yX0_heightComesNear cX0_heightComesNear 1 (some .boolean), Cond.methodLink RX0 99 yX0_isCaptureArmed, Cond.instanceMethod yX0_isCaptureArmed]
def wsX0_channel_r5 : List Cond := [Cond.selects RX0 yX0_isCaptureArmed yX0_isCaptureArmed, Cond.code yX0_isCaptureArmed cX0_isCaptureArmed 2 (some .boolean), Cond.methodLink RX0 205 yX0_isHeightWithin, Cond.instanceMethod yX0_isHeightWithin, Cond.selects RX0 yX0_isHeightWithin yX0_isHeightWithin, Cond.code yX0_isHeightWithin cX0_isHeightWithin 2 (some .boolean), Cond.methodLink RX0 190 yX0_heightIsReached, Cond.instanceMethod yX0_heightIsReached, Cond.selects RX0 yX0_heightIsReached yX0_heightIsReached, Cond.code yX0_heightIsReached cX0_heightIsReached 1 (some .boolean), Cond.methodLink RX0 193 yX0_heightIsLost, Cond.instanceMethod yX0_heightIsLost, Cond.selects RX0 yX0_heightIsLost yX0_heightIsLost, Cond.code yX0_heightIsLost cX0_heightIsLost 1 (some .boolean), Cond.methodLink RX0 196 yX0_climbIsTooFast, Cond.instanceMethod yX0_climbIsTooFast, Cond.selects RX0 yX0_climbIsTooFast yX0_climbIsTooFast, Cond.code yX0_climbIsTooFast cX0_climbIsTooFast 1 (some .boolean), Cond.methodLink RX0 74 yX0_isTooFast, Cond.instanceMethod yX0_isTooFast, Cond.selects RX0 yX0_isTooFast yX0_isTooFast, Cond.code yX0_isTooFast cX0_isTooFast 1 (some .boolean)]
def wsX0_channel : List Cond := .code yX0_channel cX0_channel 3 (some .int) :: ((wsX0_channel_r1 ++ (wsX0_channel_r2 ++ (wsX0_channel_r3 ++ (wsX0_channel_r4 ++ wsX0_channel_r5)))) ++ wsX00 ++ (vx_atS RX0 30 "java/lang/IllegalArgumentException" ["java/lang/RuntimeException", "java/lang/Exception"]).filter goodWord)
def wsX0_isAroundAnywhere : List Cond := .code yX0_isAroundAnywhere cX0_isAroundAnywhere 1 (some .boolean) :: ([.fieldLink RX0 7 "ModeDesk" "active" "[I"] ++ wsX00)
def wsX0_engage_r1 : List Cond := [Cond.fieldLink RX0 63 "ModeDesk" "engaged" "Z", Cond.methodLink RX0 67 yX0_isAnyChannelSound, Cond.instanceMethod yX0_isAnyChannelSound, Cond.selects RX0 yX0_isAnyChannelSound yX0_isAnyChannelSound, Cond.initialized RX0, Cond.code yX0_isAnyChannelSound cX0_isAnyChannelSound 1 (some .boolean), Cond.fieldLink RX0 19 "ModeDesk" "soundness" "[Z", Cond.methodLink RX0 71 yX0_isAroundAnywhere, Cond.instanceMethod yX0_isAroundAnywhere, Cond.selects RX0 yX0_isAroundAnywhere yX0_isAroundAnywhere, Cond.code yX0_isAroundAnywhere cX0_isAroundAnywhere 1 (some .boolean), Cond.fieldLink RX0 7 "ModeDesk" "active" "[I", Cond.methodLink RX0 74 yX0_isTooFast, Cond.instanceMethod yX0_isTooFast, Cond.selects RX0 yX0_isTooFast yX0_isTooFast, Cond.code yX0_isTooFast cX0_isTooFast 1 (some .boolean), Cond.fieldLink RX0 16 "ModeDesk" "measures" "[I", Cond.methodLink RX0 77 yX0_turnOnIfOff, Cond.instanceMethod yX0_turnOnIfOff, Cond.selects RX0 yX0_turnOnIfOff yX0_turnOnIfOff, Cond.code yX0_turnOnIfOff cX0_turnOnIfOff 1 none, Cond.methodLink RX0 104 yX0_isOn, Cond.instanceMethod yX0_isOn, Cond.selects RX0 yX0_isOn yX0_isOn]
def wsX0_engage_r2 : List Cond := [Cond.code yX0_isOn cX0_isOn 1 (some .boolean), Cond.methodLink RX0 131 yX0_goToBase, Cond.instanceMethod yX0_goToBase, Cond.selects RX0 yX0_goToBase yX0_goToBase, Cond.code yX0_goToBase cX0_goToBase 1 none, Cond.methodLink RX0 124 yX0_change, Cond.instanceMethod yX0_change, Cond.selects RX0 yX0_change yX0_change, Cond.code yX0_change cX0_change 5 none, Cond.fieldLink RX0 13 "ModeDesk" "flashing" "[I", Cond.fieldLink RX0 115 "ModeDesk" "changeCount" "I", Cond.fieldLink RX0 23 "ModeDesk" "changes" "[I", Cond.methodLink RX0 107 yX0_bit, Cond.static yX0_bit, Cond.code yX0_bit cX0_bit 2 (some .int), Cond.methodLink RX0 128 yX0_disarmAll, Cond.instanceMethod yX0_disarmAll, Cond.selects RX0 yX0_disarmAll yX0_disarmAll, Cond.code yX0_disarmAll cX0_disarmAll 1 none, Cond.fieldLink RX0 90 "ModeDesk" "navArmed" "Z", Cond.fieldLink RX0 93 "ModeDesk" "approachArmed" "Z", Cond.fieldLink RX0 96 "ModeDesk" "glideArmed" "Z", Cond.methodLink RX0 44 yX0_settle, Cond.instanceMethod yX0_settle]
def wsX0_engage_r3 : List Cond := [Cond.selects RX0 yX0_settle yX0_settle, Cond.code yX0_settle cX0_settle 2 (some .int), Cond.methodLink RX0 166 yX0_comesAboutByItself, Cond.instanceMethod yX0_comesAboutByItself, Cond.selects RX0 yX0_comesAboutByItself yX0_comesAboutByItself, Cond.code yX0_comesAboutByItself cX0_comesAboutByItself 1 (some .boolean), Cond.methodLink RX0 169 yX0_leaderFails, Cond.instanceMethod yX0_leaderFails, Cond.selects RX0 yX0_leaderFails yX0_leaderFails, Cond.code yX0_leaderFails cX0_leaderFails 2 (some .boolean), Cond.fieldLink RX0 111 "ModeDesk" "leader" "I", Cond.methodLink RX0 162 yX0_turnOff, Cond.instanceMethod yX0_turnOff, Cond.selects RX0 yX0_turnOff yX0_turnOff, Cond.code yX0_turnOff cX0_turnOff 2 none, Cond.methodLink RX0 80 yX0_disengageWithWarning, Cond.instanceMethod yX0_disengageWithWarning, Cond.selects RX0 yX0_disengageWithWarning yX0_disengageWithWarning, Cond.code yX0_disengageWithWarning cX0_disengageWithWarning 1 none, Cond.fieldLink RX0 83 "ModeDesk" "warning" "Z", Cond.methodLink RX0 37 yX0_stopFlashing, Cond.instanceMethod yX0_stopFlashing, Cond.selects RX0 yX0_stopFlashing yX0_stopFlashing, Cond.code yX0_stopFlashing cX0_stopFlashing 1 none]
def wsX0_engage_r4 : List Cond := [Cond.methodLink RX0 172 yX0_courseIsLost, Cond.instanceMethod yX0_courseIsLost, Cond.selects RX0 yX0_courseIsLost yX0_courseIsLost, Cond.code yX0_courseIsLost cX0_courseIsLost 2 (some .boolean), Cond.methodLink RX0 158 yX0_leaveCourseFor, Cond.instanceMethod yX0_leaveCourseFor, Cond.selects RX0 yX0_leaveCourseFor yX0_leaveCourseFor, Cond.code yX0_leaveCourseFor cX0_leaveCourseFor 3 none, Cond.methodLink RX0 175 yX0_pathIsLost, Cond.instanceMethod yX0_pathIsLost, Cond.selects RX0 yX0_pathIsLost yX0_pathIsLost, Cond.code yX0_pathIsLost cX0_pathIsLost 2 (some .boolean), Cond.methodLink RX0 178 yX0_navIsReached, Cond.instanceMethod yX0_navIsReached, Cond.selects RX0 yX0_navIsReached yX0_navIsReached, Cond.code yX0_navIsReached cX0_navIsReached 1 (some .boolean), Cond.methodLink RX0 199 yX0_isCourseWithin, Cond.instanceMethod yX0_isCourseWithin, Cond.selects RX0 yX0_isCourseWithin yX0_isCourseWithin, Cond.code yX0_isCourseWithin cX0_isCourseWithin 2 (some .boolean), Cond.methodLink RX0 118 Lib.Math.abs.name, Cond.static Lib.Math.abs.name, Cond.initialized "java/lang/Math", Cond.code Lib.Math.abs.name Lib.Math.abs.code 1 (some .int)]
def wsX0_engage_r5 : List Cond := [Cond.methodLink RX0 181 yX0_approachIsReached, Cond.instanceMethod yX0_approachIsReached, Cond.selects RX0 yX0_approachIsReached yX0_approachIsReached, Cond.code yX0_approachIsReached cX0_approachIsReached 1 (some .boolean), Cond.methodLink RX0 184 yX0_glideIsReached, Cond.instanceMethod yX0_glideIsReached, Cond.selects RX0 yX0_glideIsReached yX0_glideIsReached, Cond.code yX0_glideIsReached cX0_glideIsReached 1 (some .boolean), Cond.methodLink RX0 202 yX0_isPathWithin, Cond.instanceMethod yX0_isPathWithin, Cond.selects RX0 yX0_isPathWithin yX0_isPathWithin, Cond.code yX0_isPathWithin cX0_isPathWithin 2 (some .boolean), Cond.methodLink RX0 187 yX0_heightComesNear, Cond.instanceMethod yX0_heightComesNear, Cond.selects RX0 yX0_heightComesNear yX0_heightComesNear, Cond.code yX0_heightComesNear cX0_heightComesNear 1 (some .boolean), Cond.methodLink RX0 99 yX0_isCaptureArmed, Cond.instanceMethod yX0_isCaptureArmed, Cond.selects RX0 yX0_isCaptureArmed yX0_isCaptureArmed, Cond.code yX0_isCaptureArmed cX0_isCaptureArmed 2 (some .boolean), Cond.methodLink RX0 205 yX0_isHeightWithin, Cond.instanceMethod yX0_isHeightWithin, Cond.selects RX0 yX0_isHeightWithin yX0_isHeightWithin, Cond.code yX0_isHeightWithin cX0_isHeightWithin 2 (some .boolean)]
def wsX0_engage_r6 : List Cond := [Cond.methodLink RX0 190 yX0_heightIsReached, Cond.instanceMethod yX0_heightIsReached, Cond.selects RX0 yX0_heightIsReached yX0_heightIsReached, Cond.code yX0_heightIsReached cX0_heightIsReached 1 (some .boolean), Cond.methodLink RX0 193 yX0_heightIsLost, Cond.instanceMethod yX0_heightIsLost, Cond.selects RX0 yX0_heightIsLost yX0_heightIsLost, Cond.code yX0_heightIsLost cX0_heightIsLost 1 (some .boolean), Cond.methodLink RX0 196 yX0_climbIsTooFast, Cond.instanceMethod yX0_climbIsTooFast, Cond.selects RX0 yX0_climbIsTooFast yX0_climbIsTooFast, Cond.code yX0_climbIsTooFast cX0_climbIsTooFast 1 (some .boolean)]
def wsX0_engage : List Cond := .code yX0_engage cX0_engage 1 (some .int) :: ((wsX0_engage_r1 ++ (wsX0_engage_r2 ++ (wsX0_engage_r3 ++ (wsX0_engage_r4 ++ (wsX0_engage_r5 ++ wsX0_engage_r6))))) ++ wsX00)
def wsX0_disconnect : List Cond := .code yX0_disconnect cX0_disconnect 1 (some .int) :: ([.fieldLink RX0 63 "ModeDesk" "engaged" "Z", .fieldLink RX0 83 "ModeDesk" "warning" "Z", .methodLink RX0 80 yX0_disengageWithWarning, .instanceMethod yX0_disengageWithWarning, .selects RX0 yX0_disengageWithWarning yX0_disengageWithWarning, .initialized RX0, .code yX0_disengageWithWarning cX0_disengageWithWarning 1 none] ++ wsX00)
def wsX0_step : List Cond := .code yX0_step cX0_step 4 (some .int) :: ([.classLink RX0 26 "java/lang/IllegalArgumentException", .initialized "java/lang/IllegalArgumentException", .fieldLink RX0 13 "ModeDesk" "flashing" "[I"] ++ wsX00 ++ (vx_atS RX0 30 "java/lang/IllegalArgumentException" ["java/lang/RuntimeException", "java/lang/Exception"]).filter goodWord)
def wsX0_mode : List Cond := .code yX0_mode cX0_mode 2 (some .int) :: ([.classLink RX0 26 "java/lang/IllegalArgumentException", .initialized "java/lang/IllegalArgumentException", .fieldLink RX0 7 "ModeDesk" "active" "[I"] ++ wsX00 ++ (vx_atS RX0 30 "java/lang/IllegalArgumentException" ["java/lang/RuntimeException", "java/lang/Exception"]).filter goodWord)
def wsX0_armed : List Cond := .code yX0_armed cX0_armed 2 (some .boolean) :: ([.classLink RX0 26 "java/lang/IllegalArgumentException", .initialized "java/lang/IllegalArgumentException", .fieldLink RX0 90 "ModeDesk" "navArmed" "Z", .fieldLink RX0 93 "ModeDesk" "approachArmed" "Z", .fieldLink RX0 96 "ModeDesk" "glideArmed" "Z", .methodLink RX0 99 yX0_isCaptureArmed, .instanceMethod yX0_isCaptureArmed, .selects RX0 yX0_isCaptureArmed yX0_isCaptureArmed, .initialized RX0, .code yX0_isCaptureArmed cX0_isCaptureArmed 2 (some .boolean), .fieldLink RX0 7 "ModeDesk" "active" "[I"] ++ wsX00 ++ (vx_atS RX0 30 "java/lang/IllegalArgumentException" ["java/lang/RuntimeException", "java/lang/Exception"]).filter goodWord)
def wsX0_shown : List Cond := .code yX0_shown cX0_shown 1 (some .int) :: ([.fieldLink RX0 63 "ModeDesk" "engaged" "Z", .fieldLink RX0 83 "ModeDesk" "warning" "Z", .fieldLink RX0 13 "ModeDesk" "flashing" "[I", .fieldLink RX0 111 "ModeDesk" "leader" "I", .methodLink RX0 104 yX0_isOn, .instanceMethod yX0_isOn, .selects RX0 yX0_isOn yX0_isOn, .initialized RX0, .code yX0_isOn cX0_isOn 1 (some .boolean), .fieldLink RX0 7 "ModeDesk" "active" "[I", .methodLink RX0 107 yX0_bit, .static yX0_bit, .code yX0_bit cX0_bit 2 (some .int)] ++ wsX00)
def wsX0_kept : List Cond := .code yX0_kept cX0_kept 4 (some .int) :: ([.fieldLink RX0 115 "ModeDesk" "changeCount" "I", .fieldLink RX0 23 "ModeDesk" "changes" "[I"] ++ wsX00)
def wsX0_measure : List Cond := .code yX0_measure cX0_measure 2 (some .int) :: ([.classLink RX0 26 "java/lang/IllegalArgumentException", .initialized "java/lang/IllegalArgumentException", .fieldLink RX0 16 "ModeDesk" "measures" "[I", .methodLink RX0 47 yX0_isMeasure, .static yX0_isMeasure, .initialized RX0, .code yX0_isMeasure cX0_isMeasure 1 (some .boolean)] ++ wsX00 ++ (vx_atS RX0 30 "java/lang/IllegalArgumentException" ["java/lang/RuntimeException", "java/lang/Exception"]).filter goodWord)
def wsX1_init : List Cond := .code yX1_init cX1_init 1 none :: ([.methodLink RX1 1 objectInit, .instanceMethod objectInit, .code objectInit ⟨#[0xb1]⟩ 1 none, .arrayClass .int, .fieldLink RX1 7 "ModeDeskModel" "values" "[I", .fieldLink RX1 13 "ModeDeskModel" "rows" "[I", .fieldLink RX1 16 "ModeDeskModel" "leader" "I"] ++ wsX10)
def wsX1_thrown : List Cond := .code yX1_thrown cX1_thrown 1 (some .int) :: ([.fieldLink RX1 20 "ModeDeskModel" "thrown" "I"] ++ wsX10)
def wsX1_good : List Cond := .code yX1_good cX1_good 2 (some .boolean) :: ([.fieldLink RX1 20 "ModeDeskModel" "thrown" "I"] ++ wsX10)
def wsX1_keep : List Cond := .code yX1_keep cX1_keep 5 none :: ([.fieldLink RX1 23 "ModeDeskModel" "kept" "I", .fieldLink RX1 13 "ModeDeskModel" "rows" "[I"] ++ wsX10)
def wsX1_lateralTo : List Cond := .code yX1_lateralTo cX1_lateralTo 3 none :: ([.fieldLink RX1 26 "ModeDeskModel" "lateral" "I", .fieldLink RX1 33 "ModeDeskModel" "flash0" "I", .methodLink RX1 29 yX1_keep, .instanceMethod yX1_keep, .selects RX1 yX1_keep yX1_keep, .initialized RX1, .code yX1_keep cX1_keep 5 none, .fieldLink RX1 23 "ModeDeskModel" "kept" "I", .fieldLink RX1 13 "ModeDeskModel" "rows" "[I"] ++ wsX10)
def wsX1_verticalTo : List Cond := .code yX1_verticalTo cX1_verticalTo 3 none :: ([.fieldLink RX1 36 "ModeDeskModel" "vertical" "I", .fieldLink RX1 39 "ModeDeskModel" "flash1" "I", .methodLink RX1 29 yX1_keep, .instanceMethod yX1_keep, .selects RX1 yX1_keep yX1_keep, .initialized RX1, .code yX1_keep cX1_keep 5 none, .fieldLink RX1 23 "ModeDeskModel" "kept" "I", .fieldLink RX1 13 "ModeDeskModel" "rows" "[I"] ++ wsX10)
def wsX1_noneArmed : List Cond := .code yX1_noneArmed cX1_noneArmed 1 none :: ([.fieldLink RX1 42 "ModeDeskModel" "armedLateral" "I", .fieldLink RX1 45 "ModeDeskModel" "armedGlide" "Z"] ++ wsX10)
def wsX1_base_r1 : List Cond := [Cond.methodLink RX1 49 yX1_noneArmed, Cond.instanceMethod yX1_noneArmed, Cond.selects RX1 yX1_noneArmed yX1_noneArmed, Cond.initialized RX1, Cond.code yX1_noneArmed cX1_noneArmed 1 none, Cond.fieldLink RX1 42 "ModeDeskModel" "armedLateral" "I", Cond.fieldLink RX1 45 "ModeDeskModel" "armedGlide" "Z", Cond.methodLink RX1 52 yX1_lateralTo, Cond.instanceMethod yX1_lateralTo, Cond.selects RX1 yX1_lateralTo yX1_lateralTo, Cond.code yX1_lateralTo cX1_lateralTo 3 none, Cond.fieldLink RX1 26 "ModeDeskModel" "lateral" "I", Cond.fieldLink RX1 33 "ModeDeskModel" "flash0" "I", Cond.methodLink RX1 29 yX1_keep, Cond.instanceMethod yX1_keep, Cond.selects RX1 yX1_keep yX1_keep, Cond.code yX1_keep cX1_keep 5 none, Cond.fieldLink RX1 23 "ModeDeskModel" "kept" "I", Cond.fieldLink RX1 13 "ModeDeskModel" "rows" "[I", Cond.methodLink RX1 56 yX1_verticalTo, Cond.instanceMethod yX1_verticalTo, Cond.selects RX1 yX1_verticalTo yX1_verticalTo, Cond.code yX1_verticalTo cX1_verticalTo 3 none, Cond.fieldLink RX1 36 "ModeDeskModel" "vertical" "I"]
def wsX1_base_r2 : List Cond := [Cond.fieldLink RX1 39 "ModeDeskModel" "flash1" "I"]
def wsX1_base : List Cond := .code yX1_base cX1_base 2 none :: ((wsX1_base_r1 ++ wsX1_base_r2) ++ wsX10)
def wsX1_goOff_r1 : List Cond := [Cond.fieldLink RX1 59 "ModeDeskModel" "warning" "Z", Cond.fieldLink RX1 62 "ModeDeskModel" "engaged" "Z", Cond.fieldLink RX1 33 "ModeDeskModel" "flash0" "I", Cond.fieldLink RX1 39 "ModeDeskModel" "flash1" "I", Cond.methodLink RX1 49 yX1_noneArmed, Cond.instanceMethod yX1_noneArmed, Cond.selects RX1 yX1_noneArmed yX1_noneArmed, Cond.initialized RX1, Cond.code yX1_noneArmed cX1_noneArmed 1 none, Cond.fieldLink RX1 42 "ModeDeskModel" "armedLateral" "I", Cond.fieldLink RX1 45 "ModeDeskModel" "armedGlide" "Z", Cond.methodLink RX1 52 yX1_lateralTo, Cond.instanceMethod yX1_lateralTo, Cond.selects RX1 yX1_lateralTo yX1_lateralTo, Cond.code yX1_lateralTo cX1_lateralTo 3 none, Cond.fieldLink RX1 26 "ModeDeskModel" "lateral" "I", Cond.methodLink RX1 29 yX1_keep, Cond.instanceMethod yX1_keep, Cond.selects RX1 yX1_keep yX1_keep, Cond.code yX1_keep cX1_keep 5 none, Cond.fieldLink RX1 23 "ModeDeskModel" "kept" "I", Cond.fieldLink RX1 13 "ModeDeskModel" "rows" "[I", Cond.methodLink RX1 56 yX1_verticalTo, Cond.instanceMethod yX1_verticalTo]
def wsX1_goOff_r2 : List Cond := [Cond.selects RX1 yX1_verticalTo yX1_verticalTo, Cond.code yX1_verticalTo cX1_verticalTo 3 none, Cond.fieldLink RX1 36 "ModeDeskModel" "vertical" "I"]
def wsX1_goOff : List Cond := .code yX1_goOff cX1_goOff 2 none :: ((wsX1_goOff_r1 ++ wsX1_goOff_r2) ++ wsX10)
def wsX1_isBad : List Cond := .code yX1_isBad cX1_isBad 2 (some .boolean) :: ([.fieldLink RX1 65 "ModeDeskModel" "bad0" "Z", .fieldLink RX1 68 "ModeDeskModel" "bad1" "Z"] ++ wsX10)
def wsX1_size : List Cond := .code yX1_size cX1_size 1 (some .int) :: ([])
def wsX1_apart : List Cond := .code yX1_apart cX1_apart 1 (some .int) :: ([.fieldLink RX1 7 "ModeDeskModel" "values" "[I", .methodLink RX1 71 yX1_size, .static yX1_size, .initialized RX1, .code yX1_size cX1_size 1 (some .int)] ++ wsX10)
def wsX1_rule : List Cond := .code yX1_rule cX1_rule 3 (some .int) :: ([.fieldLink RX1 7 "ModeDeskModel" "values" "[I", .fieldLink RX1 26 "ModeDeskModel" "lateral" "I", .fieldLink RX1 16 "ModeDeskModel" "leader" "I", .fieldLink RX1 36 "ModeDeskModel" "vertical" "I", .fieldLink RX1 42 "ModeDeskModel" "armedLateral" "I", .fieldLink RX1 45 "ModeDeskModel" "armedGlide" "Z", .methodLink RX1 75 yX1_isBad, .instanceMethod yX1_isBad, .selects RX1 yX1_isBad yX1_isBad, .initialized RX1, .code yX1_isBad cX1_isBad 2 (some .boolean), .fieldLink RX1 65 "ModeDeskModel" "bad0" "Z", .fieldLink RX1 68 "ModeDeskModel" "bad1" "Z", .methodLink RX1 71 yX1_size, .static yX1_size, .code yX1_size cX1_size 1 (some .int), .methodLink RX1 79 yX1_apart, .instanceMethod yX1_apart, .selects RX1 yX1_apart yX1_apart, .code yX1_apart cX1_apart 1 (some .int)] ++ wsX10)
def wsX1_comes_r1 : List Cond := [Cond.fieldLink RX1 16 "ModeDeskModel" "leader" "I", Cond.fieldLink RX1 36 "ModeDeskModel" "vertical" "I", Cond.fieldLink RX1 45 "ModeDeskModel" "armedGlide" "Z", Cond.fieldLink RX1 42 "ModeDeskModel" "armedLateral" "I", Cond.methodLink RX1 75 yX1_isBad, Cond.instanceMethod yX1_isBad, Cond.selects RX1 yX1_isBad yX1_isBad, Cond.initialized RX1, Cond.code yX1_isBad cX1_isBad 2 (some .boolean), Cond.fieldLink RX1 65 "ModeDeskModel" "bad0" "Z", Cond.fieldLink RX1 68 "ModeDeskModel" "bad1" "Z", Cond.methodLink RX1 83 yX1_goOff, Cond.instanceMethod yX1_goOff, Cond.selects RX1 yX1_goOff yX1_goOff, Cond.code yX1_goOff cX1_goOff 2 none, Cond.fieldLink RX1 59 "ModeDeskModel" "warning" "Z", Cond.fieldLink RX1 62 "ModeDeskModel" "engaged" "Z", Cond.fieldLink RX1 33 "ModeDeskModel" "flash0" "I", Cond.fieldLink RX1 39 "ModeDeskModel" "flash1" "I", Cond.methodLink RX1 49 yX1_noneArmed, Cond.instanceMethod yX1_noneArmed, Cond.selects RX1 yX1_noneArmed yX1_noneArmed, Cond.code yX1_noneArmed cX1_noneArmed 1 none, Cond.methodLink RX1 52 yX1_lateralTo]
def wsX1_comes_r2 : List Cond := [Cond.instanceMethod yX1_lateralTo, Cond.selects RX1 yX1_lateralTo yX1_lateralTo, Cond.code yX1_lateralTo cX1_lateralTo 3 none, Cond.fieldLink RX1 26 "ModeDeskModel" "lateral" "I", Cond.methodLink RX1 29 yX1_keep, Cond.instanceMethod yX1_keep, Cond.selects RX1 yX1_keep yX1_keep, Cond.code yX1_keep cX1_keep 5 none, Cond.fieldLink RX1 23 "ModeDeskModel" "kept" "I", Cond.fieldLink RX1 13 "ModeDeskModel" "rows" "[I", Cond.methodLink RX1 56 yX1_verticalTo, Cond.instanceMethod yX1_verticalTo, Cond.selects RX1 yX1_verticalTo yX1_verticalTo, Cond.code yX1_verticalTo cX1_verticalTo 3 none]
def wsX1_comes : List Cond := .code yX1_comes cX1_comes 2 none :: ((wsX1_comes_r1 ++ wsX1_comes_r2) ++ wsX10)
def wsX1_settle_r1 : List Cond := [Cond.methodLink RX1 87 yX1_rule, Cond.instanceMethod yX1_rule, Cond.selects RX1 yX1_rule yX1_rule, Cond.initialized RX1, Cond.code yX1_rule cX1_rule 3 (some .int), Cond.fieldLink RX1 7 "ModeDeskModel" "values" "[I", Cond.fieldLink RX1 26 "ModeDeskModel" "lateral" "I", Cond.fieldLink RX1 16 "ModeDeskModel" "leader" "I", Cond.fieldLink RX1 36 "ModeDeskModel" "vertical" "I", Cond.fieldLink RX1 42 "ModeDeskModel" "armedLateral" "I", Cond.fieldLink RX1 45 "ModeDeskModel" "armedGlide" "Z", Cond.methodLink RX1 75 yX1_isBad, Cond.instanceMethod yX1_isBad, Cond.selects RX1 yX1_isBad yX1_isBad, Cond.code yX1_isBad cX1_isBad 2 (some .boolean), Cond.fieldLink RX1 65 "ModeDeskModel" "bad0" "Z", Cond.fieldLink RX1 68 "ModeDeskModel" "bad1" "Z", Cond.methodLink RX1 71 yX1_size, Cond.static yX1_size, Cond.code yX1_size cX1_size 1 (some .int), Cond.methodLink RX1 79 yX1_apart, Cond.instanceMethod yX1_apart, Cond.selects RX1 yX1_apart yX1_apart, Cond.code yX1_apart cX1_apart 1 (some .int)]
def wsX1_settle_r2 : List Cond := [Cond.methodLink RX1 90 yX1_comes, Cond.instanceMethod yX1_comes, Cond.selects RX1 yX1_comes yX1_comes, Cond.code yX1_comes cX1_comes 2 none, Cond.methodLink RX1 83 yX1_goOff, Cond.instanceMethod yX1_goOff, Cond.selects RX1 yX1_goOff yX1_goOff, Cond.code yX1_goOff cX1_goOff 2 none, Cond.fieldLink RX1 59 "ModeDeskModel" "warning" "Z", Cond.fieldLink RX1 62 "ModeDeskModel" "engaged" "Z", Cond.fieldLink RX1 33 "ModeDeskModel" "flash0" "I", Cond.fieldLink RX1 39 "ModeDeskModel" "flash1" "I", Cond.methodLink RX1 49 yX1_noneArmed, Cond.instanceMethod yX1_noneArmed, Cond.selects RX1 yX1_noneArmed yX1_noneArmed, Cond.code yX1_noneArmed cX1_noneArmed 1 none, Cond.methodLink RX1 52 yX1_lateralTo, Cond.instanceMethod yX1_lateralTo, Cond.selects RX1 yX1_lateralTo yX1_lateralTo, Cond.code yX1_lateralTo cX1_lateralTo 3 none, Cond.methodLink RX1 29 yX1_keep, Cond.instanceMethod yX1_keep, Cond.selects RX1 yX1_keep yX1_keep, Cond.code yX1_keep cX1_keep 5 none]
def wsX1_settle_r3 : List Cond := [Cond.fieldLink RX1 23 "ModeDeskModel" "kept" "I", Cond.fieldLink RX1 13 "ModeDeskModel" "rows" "[I", Cond.methodLink RX1 56 yX1_verticalTo, Cond.instanceMethod yX1_verticalTo, Cond.selects RX1 yX1_verticalTo yX1_verticalTo, Cond.code yX1_verticalTo cX1_verticalTo 3 none]
def wsX1_settle : List Cond := .code yX1_settle cX1_settle 3 (some .int) :: ((wsX1_settle_r1 ++ (wsX1_settle_r2 ++ wsX1_settle_r3)) ++ wsX10)
def wsX1_outOfApproach : List Cond := .code yX1_outOfApproach cX1_outOfApproach 3 none :: ([.fieldLink RX1 26 "ModeDeskModel" "lateral" "I", .fieldLink RX1 36 "ModeDeskModel" "vertical" "I", .fieldLink RX1 45 "ModeDeskModel" "armedGlide" "Z", .fieldLink RX1 42 "ModeDeskModel" "armedLateral" "I", .methodLink RX1 52 yX1_lateralTo, .instanceMethod yX1_lateralTo, .selects RX1 yX1_lateralTo yX1_lateralTo, .initialized RX1, .code yX1_lateralTo cX1_lateralTo 3 none, .fieldLink RX1 33 "ModeDeskModel" "flash0" "I", .methodLink RX1 29 yX1_keep, .instanceMethod yX1_keep, .selects RX1 yX1_keep yX1_keep, .code yX1_keep cX1_keep 5 none, .fieldLink RX1 23 "ModeDeskModel" "kept" "I", .fieldLink RX1 13 "ModeDeskModel" "rows" "[I", .methodLink RX1 56 yX1_verticalTo, .instanceMethod yX1_verticalTo, .selects RX1 yX1_verticalTo yX1_verticalTo, .code yX1_verticalTo cX1_verticalTo 3 none, .fieldLink RX1 39 "ModeDeskModel" "flash1" "I"] ++ wsX10)
def wsX1_navButton : List Cond := .code yX1_navButton cX1_navButton 1 none :: ([.fieldLink RX1 26 "ModeDeskModel" "lateral" "I", .fieldLink RX1 42 "ModeDeskModel" "armedLateral" "I", .fieldLink RX1 45 "ModeDeskModel" "armedGlide" "Z", .methodLink RX1 52 yX1_lateralTo, .instanceMethod yX1_lateralTo, .selects RX1 yX1_lateralTo yX1_lateralTo, .initialized RX1, .code yX1_lateralTo cX1_lateralTo 3 none, .fieldLink RX1 33 "ModeDeskModel" "flash0" "I", .methodLink RX1 29 yX1_keep, .instanceMethod yX1_keep, .selects RX1 yX1_keep yX1_keep, .code yX1_keep cX1_keep 5 none, .fieldLink RX1 23 "ModeDeskModel" "kept" "I", .fieldLink RX1 13 "ModeDeskModel" "rows" "[I"] ++ wsX10)
def wsX1_approachButton_r1 : List Cond := [Cond.fieldLink RX1 26 "ModeDeskModel" "lateral" "I", Cond.fieldLink RX1 45 "ModeDeskModel" "armedGlide" "Z", Cond.fieldLink RX1 42 "ModeDeskModel" "armedLateral" "I", Cond.methodLink RX1 93 yX1_outOfApproach, Cond.instanceMethod yX1_outOfApproach, Cond.selects RX1 yX1_outOfApproach yX1_outOfApproach, Cond.initialized RX1, Cond.code yX1_outOfApproach cX1_outOfApproach 3 none, Cond.fieldLink RX1 36 "ModeDeskModel" "vertical" "I", Cond.methodLink RX1 52 yX1_lateralTo, Cond.instanceMethod yX1_lateralTo, Cond.selects RX1 yX1_lateralTo yX1_lateralTo, Cond.code yX1_lateralTo cX1_lateralTo 3 none, Cond.fieldLink RX1 33 "ModeDeskModel" "flash0" "I", Cond.methodLink RX1 29 yX1_keep, Cond.instanceMethod yX1_keep, Cond.selects RX1 yX1_keep yX1_keep, Cond.code yX1_keep cX1_keep 5 none, Cond.fieldLink RX1 23 "ModeDeskModel" "kept" "I", Cond.fieldLink RX1 13 "ModeDeskModel" "rows" "[I", Cond.methodLink RX1 56 yX1_verticalTo, Cond.instanceMethod yX1_verticalTo, Cond.selects RX1 yX1_verticalTo yX1_verticalTo, Cond.code yX1_verticalTo cX1_verticalTo 3 none]
def wsX1_approachButton_r2 : List Cond := [Cond.fieldLink RX1 39 "ModeDeskModel" "flash1" "I", Cond.methodLink RX1 49 yX1_noneArmed, Cond.instanceMethod yX1_noneArmed, Cond.selects RX1 yX1_noneArmed yX1_noneArmed, Cond.code yX1_noneArmed cX1_noneArmed 1 none]
def wsX1_approachButton : List Cond := .code yX1_approachButton cX1_approachButton 1 none :: ((wsX1_approachButton_r1 ++ wsX1_approachButton_r2) ++ wsX10)
def wsX1_button_r1 : List Cond := [Cond.fieldLink RX1 26 "ModeDeskModel" "lateral" "I", Cond.fieldLink RX1 36 "ModeDeskModel" "vertical" "I", Cond.fieldLink RX1 59 "ModeDeskModel" "warning" "Z", Cond.fieldLink RX1 62 "ModeDeskModel" "engaged" "Z", Cond.fieldLink RX1 16 "ModeDeskModel" "leader" "I", Cond.fieldLink RX1 65 "ModeDeskModel" "bad0" "Z", Cond.fieldLink RX1 68 "ModeDeskModel" "bad1" "Z", Cond.methodLink RX1 93 yX1_outOfApproach, Cond.instanceMethod yX1_outOfApproach, Cond.selects RX1 yX1_outOfApproach yX1_outOfApproach, Cond.initialized RX1, Cond.code yX1_outOfApproach cX1_outOfApproach 3 none, Cond.fieldLink RX1 45 "ModeDeskModel" "armedGlide" "Z", Cond.fieldLink RX1 42 "ModeDeskModel" "armedLateral" "I", Cond.methodLink RX1 52 yX1_lateralTo, Cond.instanceMethod yX1_lateralTo, Cond.selects RX1 yX1_lateralTo yX1_lateralTo, Cond.code yX1_lateralTo cX1_lateralTo 3 none, Cond.fieldLink RX1 33 "ModeDeskModel" "flash0" "I", Cond.methodLink RX1 29 yX1_keep, Cond.instanceMethod yX1_keep, Cond.selects RX1 yX1_keep yX1_keep, Cond.code yX1_keep cX1_keep 5 none, Cond.fieldLink RX1 23 "ModeDeskModel" "kept" "I"]
def wsX1_button_r2 : List Cond := [Cond.fieldLink RX1 13 "ModeDeskModel" "rows" "[I", Cond.methodLink RX1 56 yX1_verticalTo, Cond.instanceMethod yX1_verticalTo, Cond.selects RX1 yX1_verticalTo yX1_verticalTo, Cond.code yX1_verticalTo cX1_verticalTo 3 none, Cond.fieldLink RX1 39 "ModeDeskModel" "flash1" "I", Cond.methodLink RX1 96 yX1_navButton, Cond.instanceMethod yX1_navButton, Cond.selects RX1 yX1_navButton yX1_navButton, Cond.code yX1_navButton cX1_navButton 1 none, Cond.methodLink RX1 99 yX1_approachButton, Cond.instanceMethod yX1_approachButton, Cond.selects RX1 yX1_approachButton yX1_approachButton, Cond.code yX1_approachButton cX1_approachButton 1 none, Cond.methodLink RX1 49 yX1_noneArmed, Cond.instanceMethod yX1_noneArmed, Cond.selects RX1 yX1_noneArmed yX1_noneArmed, Cond.code yX1_noneArmed cX1_noneArmed 1 none, Cond.methodLink RX1 75 yX1_isBad, Cond.instanceMethod yX1_isBad, Cond.selects RX1 yX1_isBad yX1_isBad, Cond.code yX1_isBad cX1_isBad 2 (some .boolean), Cond.methodLink RX1 102 yX1_base, Cond.instanceMethod yX1_base]
def wsX1_button_r3 : List Cond := [Cond.selects RX1 yX1_base yX1_base, Cond.code yX1_base cX1_base 2 none, Cond.methodLink RX1 83 yX1_goOff, Cond.instanceMethod yX1_goOff, Cond.selects RX1 yX1_goOff yX1_goOff, Cond.code yX1_goOff cX1_goOff 2 none]
def wsX1_button : List Cond := .code yX1_button cX1_button 2 none :: ((wsX1_button_r1 ++ (wsX1_button_r2 ++ wsX1_button_r3)) ++ wsX10)
def wsX1_sum : List Cond := .code yX1_sum cX1_sum 1 (some .int) :: ([.fieldLink RX1 26 "ModeDeskModel" "lateral" "I", .fieldLink RX1 36 "ModeDeskModel" "vertical" "I", .fieldLink RX1 42 "ModeDeskModel" "armedLateral" "I", .fieldLink RX1 45 "ModeDeskModel" "armedGlide" "Z", .fieldLink RX1 62 "ModeDeskModel" "engaged" "Z", .fieldLink RX1 16 "ModeDeskModel" "leader" "I"] ++ wsX10)
def wsX1_press_r1 : List Cond := [Cond.fieldLink RX1 33 "ModeDeskModel" "flash0" "I", Cond.fieldLink RX1 39 "ModeDeskModel" "flash1" "I", Cond.fieldLink RX1 65 "ModeDeskModel" "bad0" "Z", Cond.fieldLink RX1 68 "ModeDeskModel" "bad1" "Z", Cond.fieldLink RX1 26 "ModeDeskModel" "lateral" "I", Cond.methodLink RX1 105 yX1_good, Cond.instanceMethod yX1_good, Cond.selects RX1 yX1_good yX1_good, Cond.initialized RX1, Cond.code yX1_good cX1_good 2 (some .boolean), Cond.fieldLink RX1 20 "ModeDeskModel" "thrown" "I", Cond.methodLink RX1 109 yX1_sum, Cond.instanceMethod yX1_sum, Cond.selects RX1 yX1_sum yX1_sum, Cond.code yX1_sum cX1_sum 1 (some .int), Cond.fieldLink RX1 36 "ModeDeskModel" "vertical" "I", Cond.fieldLink RX1 42 "ModeDeskModel" "armedLateral" "I", Cond.fieldLink RX1 45 "ModeDeskModel" "armedGlide" "Z", Cond.fieldLink RX1 62 "ModeDeskModel" "engaged" "Z", Cond.fieldLink RX1 16 "ModeDeskModel" "leader" "I", Cond.methodLink RX1 102 yX1_base, Cond.instanceMethod yX1_base, Cond.selects RX1 yX1_base yX1_base, Cond.code yX1_base cX1_base 2 none]
def wsX1_press_r2 : List Cond := [Cond.methodLink RX1 49 yX1_noneArmed, Cond.instanceMethod yX1_noneArmed, Cond.selects RX1 yX1_noneArmed yX1_noneArmed, Cond.code yX1_noneArmed cX1_noneArmed 1 none, Cond.methodLink RX1 52 yX1_lateralTo, Cond.instanceMethod yX1_lateralTo, Cond.selects RX1 yX1_lateralTo yX1_lateralTo, Cond.code yX1_lateralTo cX1_lateralTo 3 none, Cond.methodLink RX1 29 yX1_keep, Cond.instanceMethod yX1_keep, Cond.selects RX1 yX1_keep yX1_keep, Cond.code yX1_keep cX1_keep 5 none, Cond.fieldLink RX1 23 "ModeDeskModel" "kept" "I", Cond.fieldLink RX1 13 "ModeDeskModel" "rows" "[I", Cond.methodLink RX1 56 yX1_verticalTo, Cond.instanceMethod yX1_verticalTo, Cond.selects RX1 yX1_verticalTo yX1_verticalTo, Cond.code yX1_verticalTo cX1_verticalTo 3 none, Cond.methodLink RX1 112 yX1_button, Cond.instanceMethod yX1_button, Cond.selects RX1 yX1_button yX1_button, Cond.code yX1_button cX1_button 2 none, Cond.fieldLink RX1 59 "ModeDeskModel" "warning" "Z", Cond.methodLink RX1 93 yX1_outOfApproach]
def wsX1_press_r3 : List Cond := [Cond.instanceMethod yX1_outOfApproach, Cond.selects RX1 yX1_outOfApproach yX1_outOfApproach, Cond.code yX1_outOfApproach cX1_outOfApproach 3 none, Cond.methodLink RX1 96 yX1_navButton, Cond.instanceMethod yX1_navButton, Cond.selects RX1 yX1_navButton yX1_navButton, Cond.code yX1_navButton cX1_navButton 1 none, Cond.methodLink RX1 99 yX1_approachButton, Cond.instanceMethod yX1_approachButton, Cond.selects RX1 yX1_approachButton yX1_approachButton, Cond.code yX1_approachButton cX1_approachButton 1 none, Cond.methodLink RX1 75 yX1_isBad, Cond.instanceMethod yX1_isBad, Cond.selects RX1 yX1_isBad yX1_isBad, Cond.code yX1_isBad cX1_isBad 2 (some .boolean), Cond.methodLink RX1 83 yX1_goOff, Cond.instanceMethod yX1_goOff, Cond.selects RX1 yX1_goOff yX1_goOff, Cond.code yX1_goOff cX1_goOff 2 none, Cond.methodLink RX1 115 yX1_settle, Cond.instanceMethod yX1_settle, Cond.selects RX1 yX1_settle yX1_settle, Cond.code yX1_settle cX1_settle 3 (some .int), Cond.methodLink RX1 87 yX1_rule]
def wsX1_press_r4 : List Cond := [Cond.instanceMethod yX1_rule, Cond.selects RX1 yX1_rule yX1_rule, Cond.code yX1_rule cX1_rule 3 (some .int), Cond.fieldLink RX1 7 "ModeDeskModel" "values" "[I", Cond.methodLink RX1 71 yX1_size, Cond.static yX1_size, Cond.code yX1_size cX1_size 1 (some .int), Cond.methodLink RX1 79 yX1_apart, Cond.instanceMethod yX1_apart, Cond.selects RX1 yX1_apart yX1_apart, Cond.code yX1_apart cX1_apart 1 (some .int), Cond.methodLink RX1 90 yX1_comes, Cond.instanceMethod yX1_comes, Cond.selects RX1 yX1_comes yX1_comes, Cond.code yX1_comes cX1_comes 2 none]
def wsX1_press : List Cond := .code yX1_press cX1_press 5 (some .int) :: ((wsX1_press_r1 ++ (wsX1_press_r2 ++ (wsX1_press_r3 ++ wsX1_press_r4))) ++ wsX10)
def wsX1_sense_r1 : List Cond := [Cond.constant RX1 118 (50000), Cond.fieldLink RX1 7 "ModeDeskModel" "values" "[I", Cond.methodLink RX1 105 yX1_good, Cond.instanceMethod yX1_good, Cond.selects RX1 yX1_good yX1_good, Cond.initialized RX1, Cond.code yX1_good cX1_good 2 (some .boolean), Cond.fieldLink RX1 20 "ModeDeskModel" "thrown" "I", Cond.methodLink RX1 115 yX1_settle, Cond.instanceMethod yX1_settle, Cond.selects RX1 yX1_settle yX1_settle, Cond.code yX1_settle cX1_settle 3 (some .int), Cond.methodLink RX1 87 yX1_rule, Cond.instanceMethod yX1_rule, Cond.selects RX1 yX1_rule yX1_rule, Cond.code yX1_rule cX1_rule 3 (some .int), Cond.fieldLink RX1 26 "ModeDeskModel" "lateral" "I", Cond.fieldLink RX1 16 "ModeDeskModel" "leader" "I", Cond.fieldLink RX1 36 "ModeDeskModel" "vertical" "I", Cond.fieldLink RX1 42 "ModeDeskModel" "armedLateral" "I", Cond.fieldLink RX1 45 "ModeDeskModel" "armedGlide" "Z", Cond.methodLink RX1 75 yX1_isBad, Cond.instanceMethod yX1_isBad, Cond.selects RX1 yX1_isBad yX1_isBad]
def wsX1_sense_r2 : List Cond := [Cond.code yX1_isBad cX1_isBad 2 (some .boolean), Cond.fieldLink RX1 65 "ModeDeskModel" "bad0" "Z", Cond.fieldLink RX1 68 "ModeDeskModel" "bad1" "Z", Cond.methodLink RX1 71 yX1_size, Cond.static yX1_size, Cond.code yX1_size cX1_size 1 (some .int), Cond.methodLink RX1 79 yX1_apart, Cond.instanceMethod yX1_apart, Cond.selects RX1 yX1_apart yX1_apart, Cond.code yX1_apart cX1_apart 1 (some .int), Cond.methodLink RX1 90 yX1_comes, Cond.instanceMethod yX1_comes, Cond.selects RX1 yX1_comes yX1_comes, Cond.code yX1_comes cX1_comes 2 none, Cond.methodLink RX1 83 yX1_goOff, Cond.instanceMethod yX1_goOff, Cond.selects RX1 yX1_goOff yX1_goOff, Cond.code yX1_goOff cX1_goOff 2 none, Cond.fieldLink RX1 59 "ModeDeskModel" "warning" "Z", Cond.fieldLink RX1 62 "ModeDeskModel" "engaged" "Z", Cond.fieldLink RX1 33 "ModeDeskModel" "flash0" "I", Cond.fieldLink RX1 39 "ModeDeskModel" "flash1" "I", Cond.methodLink RX1 49 yX1_noneArmed, Cond.instanceMethod yX1_noneArmed]
def wsX1_sense_r3 : List Cond := [Cond.selects RX1 yX1_noneArmed yX1_noneArmed, Cond.code yX1_noneArmed cX1_noneArmed 1 none, Cond.methodLink RX1 52 yX1_lateralTo, Cond.instanceMethod yX1_lateralTo, Cond.selects RX1 yX1_lateralTo yX1_lateralTo, Cond.code yX1_lateralTo cX1_lateralTo 3 none, Cond.methodLink RX1 29 yX1_keep, Cond.instanceMethod yX1_keep, Cond.selects RX1 yX1_keep yX1_keep, Cond.code yX1_keep cX1_keep 5 none, Cond.fieldLink RX1 23 "ModeDeskModel" "kept" "I", Cond.fieldLink RX1 13 "ModeDeskModel" "rows" "[I", Cond.methodLink RX1 56 yX1_verticalTo, Cond.instanceMethod yX1_verticalTo, Cond.selects RX1 yX1_verticalTo yX1_verticalTo, Cond.code yX1_verticalTo cX1_verticalTo 3 none]
def wsX1_sense : List Cond := .code yX1_sense cX1_sense 5 (some .int) :: ((wsX1_sense_r1 ++ (wsX1_sense_r2 ++ wsX1_sense_r3)) ++ wsX10)
def wsX1_channel_r1 : List Cond := [Cond.fieldLink RX1 65 "ModeDeskModel" "bad0" "Z", Cond.fieldLink RX1 68 "ModeDeskModel" "bad1" "Z", Cond.methodLink RX1 105 yX1_good, Cond.instanceMethod yX1_good, Cond.selects RX1 yX1_good yX1_good, Cond.initialized RX1, Cond.code yX1_good cX1_good 2 (some .boolean), Cond.fieldLink RX1 20 "ModeDeskModel" "thrown" "I", Cond.methodLink RX1 115 yX1_settle, Cond.instanceMethod yX1_settle, Cond.selects RX1 yX1_settle yX1_settle, Cond.code yX1_settle cX1_settle 3 (some .int), Cond.methodLink RX1 87 yX1_rule, Cond.instanceMethod yX1_rule, Cond.selects RX1 yX1_rule yX1_rule, Cond.code yX1_rule cX1_rule 3 (some .int), Cond.fieldLink RX1 7 "ModeDeskModel" "values" "[I", Cond.fieldLink RX1 26 "ModeDeskModel" "lateral" "I", Cond.fieldLink RX1 16 "ModeDeskModel" "leader" "I", Cond.fieldLink RX1 36 "ModeDeskModel" "vertical" "I", Cond.fieldLink RX1 42 "ModeDeskModel" "armedLateral" "I", Cond.fieldLink RX1 45 "ModeDeskModel" "armedGlide" "Z", Cond.methodLink RX1 75 yX1_isBad, Cond.instanceMethod yX1_isBad]
def wsX1_channel_r2 : List Cond := [Cond.selects RX1 yX1_isBad yX1_isBad, Cond.code yX1_isBad cX1_isBad 2 (some .boolean), Cond.methodLink RX1 71 yX1_size, Cond.static yX1_size, Cond.code yX1_size cX1_size 1 (some .int), Cond.methodLink RX1 79 yX1_apart, Cond.instanceMethod yX1_apart, Cond.selects RX1 yX1_apart yX1_apart, Cond.code yX1_apart cX1_apart 1 (some .int), Cond.methodLink RX1 90 yX1_comes, Cond.instanceMethod yX1_comes, Cond.selects RX1 yX1_comes yX1_comes, Cond.code yX1_comes cX1_comes 2 none, Cond.methodLink RX1 83 yX1_goOff, Cond.instanceMethod yX1_goOff, Cond.selects RX1 yX1_goOff yX1_goOff, Cond.code yX1_goOff cX1_goOff 2 none, Cond.fieldLink RX1 59 "ModeDeskModel" "warning" "Z", Cond.fieldLink RX1 62 "ModeDeskModel" "engaged" "Z", Cond.fieldLink RX1 33 "ModeDeskModel" "flash0" "I", Cond.fieldLink RX1 39 "ModeDeskModel" "flash1" "I", Cond.methodLink RX1 49 yX1_noneArmed, Cond.instanceMethod yX1_noneArmed, Cond.selects RX1 yX1_noneArmed yX1_noneArmed]
def wsX1_channel_r3 : List Cond := [Cond.code yX1_noneArmed cX1_noneArmed 1 none, Cond.methodLink RX1 52 yX1_lateralTo, Cond.instanceMethod yX1_lateralTo, Cond.selects RX1 yX1_lateralTo yX1_lateralTo, Cond.code yX1_lateralTo cX1_lateralTo 3 none, Cond.methodLink RX1 29 yX1_keep, Cond.instanceMethod yX1_keep, Cond.selects RX1 yX1_keep yX1_keep, Cond.code yX1_keep cX1_keep 5 none, Cond.fieldLink RX1 23 "ModeDeskModel" "kept" "I", Cond.fieldLink RX1 13 "ModeDeskModel" "rows" "[I", Cond.methodLink RX1 56 yX1_verticalTo, Cond.instanceMethod yX1_verticalTo, Cond.selects RX1 yX1_verticalTo yX1_verticalTo, Cond.code yX1_verticalTo cX1_verticalTo 3 none]
def wsX1_channel : List Cond := .code yX1_channel cX1_channel 3 (some .int) :: ((wsX1_channel_r1 ++ (wsX1_channel_r2 ++ wsX1_channel_r3)) ++ wsX10)
def wsX1_engage_r1 : List Cond := [Cond.fieldLink RX1 20 "ModeDeskModel" "thrown" "I", Cond.fieldLink RX1 62 "ModeDeskModel" "engaged" "Z", Cond.fieldLink RX1 65 "ModeDeskModel" "bad0" "Z", Cond.fieldLink RX1 68 "ModeDeskModel" "bad1" "Z", Cond.fieldLink RX1 26 "ModeDeskModel" "lateral" "I", Cond.fieldLink RX1 36 "ModeDeskModel" "vertical" "I", Cond.fieldLink RX1 7 "ModeDeskModel" "values" "[I", Cond.methodLink RX1 102 yX1_base, Cond.instanceMethod yX1_base, Cond.selects RX1 yX1_base yX1_base, Cond.initialized RX1, Cond.code yX1_base cX1_base 2 none, Cond.methodLink RX1 49 yX1_noneArmed, Cond.instanceMethod yX1_noneArmed, Cond.selects RX1 yX1_noneArmed yX1_noneArmed, Cond.code yX1_noneArmed cX1_noneArmed 1 none, Cond.fieldLink RX1 42 "ModeDeskModel" "armedLateral" "I", Cond.fieldLink RX1 45 "ModeDeskModel" "armedGlide" "Z", Cond.methodLink RX1 52 yX1_lateralTo, Cond.instanceMethod yX1_lateralTo, Cond.selects RX1 yX1_lateralTo yX1_lateralTo, Cond.code yX1_lateralTo cX1_lateralTo 3 none, Cond.fieldLink RX1 33 "ModeDeskModel" "flash0" "I", Cond.methodLink RX1 29 yX1_keep]
def wsX1_engage_r2 : List Cond := [Cond.instanceMethod yX1_keep, Cond.selects RX1 yX1_keep yX1_keep, Cond.code yX1_keep cX1_keep 5 none, Cond.fieldLink RX1 23 "ModeDeskModel" "kept" "I", Cond.fieldLink RX1 13 "ModeDeskModel" "rows" "[I", Cond.methodLink RX1 56 yX1_verticalTo, Cond.instanceMethod yX1_verticalTo, Cond.selects RX1 yX1_verticalTo yX1_verticalTo, Cond.code yX1_verticalTo cX1_verticalTo 3 none, Cond.fieldLink RX1 39 "ModeDeskModel" "flash1" "I", Cond.methodLink RX1 115 yX1_settle, Cond.instanceMethod yX1_settle, Cond.selects RX1 yX1_settle yX1_settle, Cond.code yX1_settle cX1_settle 3 (some .int), Cond.methodLink RX1 87 yX1_rule, Cond.instanceMethod yX1_rule, Cond.selects RX1 yX1_rule yX1_rule, Cond.code yX1_rule cX1_rule 3 (some .int), Cond.fieldLink RX1 16 "ModeDeskModel" "leader" "I", Cond.methodLink RX1 75 yX1_isBad, Cond.instanceMethod yX1_isBad, Cond.selects RX1 yX1_isBad yX1_isBad, Cond.code yX1_isBad cX1_isBad 2 (some .boolean), Cond.methodLink RX1 71 yX1_size]
def wsX1_engage_r3 : List Cond := [Cond.static yX1_size, Cond.code yX1_size cX1_size 1 (some .int), Cond.methodLink RX1 79 yX1_apart, Cond.instanceMethod yX1_apart, Cond.selects RX1 yX1_apart yX1_apart, Cond.code yX1_apart cX1_apart 1 (some .int), Cond.methodLink RX1 90 yX1_comes, Cond.instanceMethod yX1_comes, Cond.selects RX1 yX1_comes yX1_comes, Cond.code yX1_comes cX1_comes 2 none, Cond.methodLink RX1 83 yX1_goOff, Cond.instanceMethod yX1_goOff, Cond.selects RX1 yX1_goOff yX1_goOff, Cond.code yX1_goOff cX1_goOff 2 none, Cond.fieldLink RX1 59 "ModeDeskModel" "warning" "Z"]
def wsX1_engage : List Cond := .code yX1_engage cX1_engage 2 (some .int) :: ((wsX1_engage_r1 ++ (wsX1_engage_r2 ++ wsX1_engage_r3)) ++ wsX10)
def wsX1_disconnect : List Cond := .code yX1_disconnect cX1_disconnect 2 (some .int) :: ([.fieldLink RX1 20 "ModeDeskModel" "thrown" "I", .fieldLink RX1 62 "ModeDeskModel" "engaged" "Z", .fieldLink RX1 59 "ModeDeskModel" "warning" "Z"] ++ wsX10)
def wsX1_step : List Cond := .code yX1_step cX1_step 3 (some .int) :: ([.fieldLink RX1 33 "ModeDeskModel" "flash0" "I", .fieldLink RX1 39 "ModeDeskModel" "flash1" "I", .methodLink RX1 105 yX1_good, .instanceMethod yX1_good, .selects RX1 yX1_good yX1_good, .initialized RX1, .code yX1_good cX1_good 2 (some .boolean), .fieldLink RX1 20 "ModeDeskModel" "thrown" "I"] ++ wsX10)
def wsX1_mode : List Cond := .code yX1_mode cX1_mode 2 (some .int) :: ([.fieldLink RX1 26 "ModeDeskModel" "lateral" "I", .fieldLink RX1 36 "ModeDeskModel" "vertical" "I", .methodLink RX1 105 yX1_good, .instanceMethod yX1_good, .selects RX1 yX1_good yX1_good, .initialized RX1, .code yX1_good cX1_good 2 (some .boolean), .fieldLink RX1 20 "ModeDeskModel" "thrown" "I"] ++ wsX10)
def wsX1_armed : List Cond := .code yX1_armed cX1_armed 2 (some .boolean) :: ([.fieldLink RX1 42 "ModeDeskModel" "armedLateral" "I", .fieldLink RX1 45 "ModeDeskModel" "armedGlide" "Z", .fieldLink RX1 36 "ModeDeskModel" "vertical" "I", .methodLink RX1 105 yX1_good, .instanceMethod yX1_good, .selects RX1 yX1_good yX1_good, .initialized RX1, .code yX1_good cX1_good 2 (some .boolean), .fieldLink RX1 20 "ModeDeskModel" "thrown" "I"] ++ wsX10)
def wsX1_shown : List Cond := .code yX1_shown cX1_shown 2 (some .int) :: ([.fieldLink RX1 20 "ModeDeskModel" "thrown" "I", .fieldLink RX1 26 "ModeDeskModel" "lateral" "I", .fieldLink RX1 62 "ModeDeskModel" "engaged" "Z", .fieldLink RX1 59 "ModeDeskModel" "warning" "Z", .fieldLink RX1 33 "ModeDeskModel" "flash0" "I", .fieldLink RX1 39 "ModeDeskModel" "flash1" "I", .fieldLink RX1 16 "ModeDeskModel" "leader" "I"] ++ wsX10)
def wsX1_kept : List Cond := .code yX1_kept cX1_kept 3 (some .int) :: ([.fieldLink RX1 20 "ModeDeskModel" "thrown" "I", .fieldLink RX1 23 "ModeDeskModel" "kept" "I", .fieldLink RX1 13 "ModeDeskModel" "rows" "[I"] ++ wsX10)
def wsX1_measure : List Cond := .code yX1_measure cX1_measure 2 (some .int) :: ([.fieldLink RX1 7 "ModeDeskModel" "values" "[I", .methodLink RX1 105 yX1_good, .instanceMethod yX1_good, .selects RX1 yX1_good yX1_good, .initialized RX1, .code yX1_good cX1_good 2 (some .boolean), .fieldLink RX1 20 "ModeDeskModel" "thrown" "I"] ++ wsX10)
def wsJ9_abs_0f7a4 : List Cond := .code yJ9_abs_0f7a4 cJ9_abs_0f7a4 1 (some .int) :: ([])
def wsL_press_r1 : List Cond := [Cond.classLink RL 13 "java/lang/IllegalArgumentException", Cond.methodLink RL 7 yX0_press, Cond.instanceMethod yX0_press, Cond.selects RX0 yX0_press yX0_press, Cond.initialized RX0, Cond.code yX0_press cX0_press 3 (some .int), Cond.classLink RX0 26 "java/lang/IllegalArgumentException", Cond.initialized "java/lang/IllegalArgumentException", Cond.methodLink RX0 33 yX0_stateAsNumber, Cond.instanceMethod yX0_stateAsNumber, Cond.selects RX0 yX0_stateAsNumber yX0_stateAsNumber, Cond.code yX0_stateAsNumber cX0_stateAsNumber 1 (some .int), Cond.fieldLink RX0 7 "ModeDesk" "active" "[I", Cond.fieldLink RX0 90 "ModeDesk" "navArmed" "Z", Cond.fieldLink RX0 93 "ModeDesk" "approachArmed" "Z", Cond.fieldLink RX0 96 "ModeDesk" "glideArmed" "Z", Cond.fieldLink RX0 63 "ModeDesk" "engaged" "Z", Cond.fieldLink RX0 111 "ModeDesk" "leader" "I", Cond.methodLink RX0 107 yX0_bit, Cond.static yX0_bit, Cond.code yX0_bit cX0_bit 2 (some .int), Cond.methodLink RX0 37 yX0_stopFlashing, Cond.instanceMethod yX0_stopFlashing, Cond.selects RX0 yX0_stopFlashing yX0_stopFlashing]
def wsL_press_r2 : List Cond := [Cond.code yX0_stopFlashing cX0_stopFlashing 1 none, Cond.fieldLink RX0 13 "ModeDesk" "flashing" "[I", Cond.methodLink RX0 40 yX0_obey, Cond.instanceMethod yX0_obey, Cond.selects RX0 yX0_obey yX0_obey, Cond.code yX0_obey cX0_obey 2 none, Cond.methodLink RX0 67 yX0_isAnyChannelSound, Cond.instanceMethod yX0_isAnyChannelSound, Cond.selects RX0 yX0_isAnyChannelSound yX0_isAnyChannelSound, Cond.code yX0_isAnyChannelSound cX0_isAnyChannelSound 1 (some .boolean), Cond.fieldLink RX0 19 "ModeDesk" "soundness" "[Z", Cond.methodLink RX0 77 yX0_turnOnIfOff, Cond.instanceMethod yX0_turnOnIfOff, Cond.selects RX0 yX0_turnOnIfOff yX0_turnOnIfOff, Cond.code yX0_turnOnIfOff cX0_turnOnIfOff 1 none, Cond.methodLink RX0 104 yX0_isOn, Cond.instanceMethod yX0_isOn, Cond.selects RX0 yX0_isOn yX0_isOn, Cond.code yX0_isOn cX0_isOn 1 (some .boolean), Cond.methodLink RX0 131 yX0_goToBase, Cond.instanceMethod yX0_goToBase, Cond.selects RX0 yX0_goToBase yX0_goToBase, Cond.code yX0_goToBase cX0_goToBase 1 none, Cond.methodLink RX0 124 yX0_change]
def wsL_press_r3 : List Cond := [Cond.instanceMethod yX0_change, Cond.selects RX0 yX0_change yX0_change, Cond.code yX0_change cX0_change 5 none, Cond.fieldLink RX0 115 "ModeDesk" "changeCount" "I", Cond.fieldLink RX0 23 "ModeDesk" "changes" "[I", Cond.methodLink RX0 128 yX0_disarmAll, Cond.instanceMethod yX0_disarmAll, Cond.selects RX0 yX0_disarmAll yX0_disarmAll, Cond.code yX0_disarmAll cX0_disarmAll 1 none, Cond.methodLink RX0 134 yX0_obeyHeading, Cond.instanceMethod yX0_obeyHeading, Cond.selects RX0 yX0_obeyHeading yX0_obeyHeading, Cond.code yX0_obeyHeading cX0_obeyHeading 1 none, Cond.methodLink RX0 158 yX0_leaveCourseFor, Cond.instanceMethod yX0_leaveCourseFor, Cond.selects RX0 yX0_leaveCourseFor yX0_leaveCourseFor, Cond.code yX0_leaveCourseFor cX0_leaveCourseFor 3 none, Cond.methodLink RX0 137 yX0_obeyNav, Cond.instanceMethod yX0_obeyNav, Cond.selects RX0 yX0_obeyNav yX0_obeyNav, Cond.code yX0_obeyNav cX0_obeyNav 1 none, Cond.methodLink RX0 140 yX0_obeyApproach, Cond.instanceMethod yX0_obeyApproach, Cond.selects RX0 yX0_obeyApproach yX0_obeyApproach]
def wsL_press_r4 : List Cond := [Cond.code yX0_obeyApproach cX0_obeyApproach 1 none, Cond.methodLink RX0 143 yX0_obeyVertical, Cond.instanceMethod yX0_obeyVertical, Cond.selects RX0 yX0_obeyVertical yX0_obeyVertical, Cond.code yX0_obeyVertical cX0_obeyVertical 2 none, Cond.methodLink RX0 146 yX0_obeyAround, Cond.instanceMethod yX0_obeyAround, Cond.selects RX0 yX0_obeyAround yX0_obeyAround, Cond.code yX0_obeyAround cX0_obeyAround 1 none, Cond.methodLink RX0 80 yX0_disengageWithWarning, Cond.instanceMethod yX0_disengageWithWarning, Cond.selects RX0 yX0_disengageWithWarning yX0_disengageWithWarning, Cond.code yX0_disengageWithWarning cX0_disengageWithWarning 1 none, Cond.fieldLink RX0 83 "ModeDesk" "warning" "Z", Cond.methodLink RX0 149 yX0_obeySync, Cond.instanceMethod yX0_obeySync, Cond.selects RX0 yX0_obeySync yX0_obeySync, Cond.code yX0_obeySync cX0_obeySync 1 none, Cond.methodLink RX0 152 yX0_obeyTransfer, Cond.instanceMethod yX0_obeyTransfer, Cond.selects RX0 yX0_obeyTransfer yX0_obeyTransfer, Cond.code yX0_obeyTransfer cX0_obeyTransfer 2 none, Cond.methodLink RX0 155 yX0_obeyDirector, Cond.instanceMethod yX0_obeyDirector]
def wsL_press_r5 : List Cond := [Cond.selects RX0 yX0_obeyDirector yX0_obeyDirector, Cond.code yX0_obeyDirector cX0_obeyDirector 1 none, Cond.methodLink RX0 162 yX0_turnOff, Cond.instanceMethod yX0_turnOff, Cond.selects RX0 yX0_turnOff yX0_turnOff, Cond.code yX0_turnOff cX0_turnOff 2 none, Cond.methodLink RX0 44 yX0_settle, Cond.instanceMethod yX0_settle, Cond.selects RX0 yX0_settle yX0_settle, Cond.code yX0_settle cX0_settle 2 (some .int), Cond.methodLink RX0 166 yX0_comesAboutByItself, Cond.instanceMethod yX0_comesAboutByItself, Cond.selects RX0 yX0_comesAboutByItself yX0_comesAboutByItself, Cond.code yX0_comesAboutByItself cX0_comesAboutByItself 1 (some .boolean), Cond.methodLink RX0 169 yX0_leaderFails, Cond.instanceMethod yX0_leaderFails, Cond.selects RX0 yX0_leaderFails yX0_leaderFails, Cond.code yX0_leaderFails cX0_leaderFails 2 (some .boolean), Cond.methodLink RX0 172 yX0_courseIsLost, Cond.instanceMethod yX0_courseIsLost, Cond.selects RX0 yX0_courseIsLost yX0_courseIsLost, Cond.code yX0_courseIsLost cX0_courseIsLost 2 (some .boolean), Cond.fieldLink RX0 16 "ModeDesk" "measures" "[I", Cond.methodLink RX0 175 yX0_pathIsLost]
def wsL_press_r6 : List Cond := [Cond.instanceMethod yX0_pathIsLost, Cond.selects RX0 yX0_pathIsLost yX0_pathIsLost, Cond.code yX0_pathIsLost cX0_pathIsLost 2 (some .boolean), Cond.methodLink RX0 178 yX0_navIsReached, Cond.instanceMethod yX0_navIsReached, Cond.selects RX0 yX0_navIsReached yX0_navIsReached, Cond.code yX0_navIsReached cX0_navIsReached 1 (some .boolean), Cond.methodLink RX0 199 yX0_isCourseWithin, Cond.instanceMethod yX0_isCourseWithin, Cond.selects RX0 yX0_isCourseWithin yX0_isCourseWithin, Cond.code yX0_isCourseWithin cX0_isCourseWithin 2 (some .boolean), Cond.methodLink RX0 118 Lib.Math.abs.name, Cond.static Lib.Math.abs.name, Cond.initialized "java/lang/Math", Cond.code Lib.Math.abs.name Lib.Math.abs.code 1 (some .int), Cond.methodLink RX0 181 yX0_approachIsReached, Cond.instanceMethod yX0_approachIsReached, Cond.selects RX0 yX0_approachIsReached yX0_approachIsReached, Cond.code yX0_approachIsReached cX0_approachIsReached 1 (some .boolean), Cond.methodLink RX0 184 yX0_glideIsReached, Cond.instanceMethod yX0_glideIsReached, Cond.selects RX0 yX0_glideIsReached yX0_glideIsReached, Cond.code yX0_glideIsReached cX0_glideIsReached 1 (some .boolean), Cond.methodLink RX0 202 yX0_isPathWithin]
def wsL_press_r7 : List Cond := [Cond.instanceMethod yX0_isPathWithin, Cond.selects RX0 yX0_isPathWithin yX0_isPathWithin, Cond.code yX0_isPathWithin cX0_isPathWithin 2 (some .boolean), Cond.methodLink RX0 187 yX0_heightComesNear, Cond.instanceMethod yX0_heightComesNear, Cond.selects RX0 yX0_heightComesNear yX0_heightComesNear, Cond.code yX0_heightComesNear cX0_heightComesNear 1 (some .boolean), Cond.methodLink RX0 99 yX0_isCaptureArmed, Cond.instanceMethod yX0_isCaptureArmed, Cond.selects RX0 yX0_isCaptureArmed yX0_isCaptureArmed, Cond.code yX0_isCaptureArmed cX0_isCaptureArmed 2 (some .boolean), Cond.methodLink RX0 205 yX0_isHeightWithin, Cond.instanceMethod yX0_isHeightWithin, Cond.selects RX0 yX0_isHeightWithin yX0_isHeightWithin, Cond.code yX0_isHeightWithin cX0_isHeightWithin 2 (some .boolean), Cond.methodLink RX0 190 yX0_heightIsReached, Cond.instanceMethod yX0_heightIsReached, Cond.selects RX0 yX0_heightIsReached yX0_heightIsReached, Cond.code yX0_heightIsReached cX0_heightIsReached 1 (some .boolean), Cond.methodLink RX0 193 yX0_heightIsLost, Cond.instanceMethod yX0_heightIsLost, Cond.selects RX0 yX0_heightIsLost yX0_heightIsLost, Cond.code yX0_heightIsLost cX0_heightIsLost 1 (some .boolean), Cond.methodLink RX0 196 yX0_climbIsTooFast]
def wsL_press_r8 : List Cond := [Cond.instanceMethod yX0_climbIsTooFast, Cond.selects RX0 yX0_climbIsTooFast yX0_climbIsTooFast, Cond.code yX0_climbIsTooFast cX0_climbIsTooFast 1 (some .boolean), Cond.methodLink RX0 74 yX0_isTooFast, Cond.instanceMethod yX0_isTooFast, Cond.selects RX0 yX0_isTooFast yX0_isTooFast, Cond.code yX0_isTooFast cX0_isTooFast 1 (some .boolean)]
def wsL_press : List Cond := .codeWith yL_press cL_press 4 (some .int) [(0, 9, 12, 13)] :: ((wsL_press_r1 ++ (wsL_press_r2 ++ (wsL_press_r3 ++ (wsL_press_r4 ++ (wsL_press_r5 ++ (wsL_press_r6 ++ (wsL_press_r7 ++ wsL_press_r8))))))) ++ wsX00 ++ (vx_atS RX0 30 "java/lang/IllegalArgumentException" ["java/lang/RuntimeException", "java/lang/Exception"]).filter goodWord)
def wsL_sense_r1 : List Cond := [Cond.classLink RL 13 "java/lang/IllegalArgumentException", Cond.methodLink RL 15 yX0_sense, Cond.instanceMethod yX0_sense, Cond.selects RX0 yX0_sense yX0_sense, Cond.initialized RX0, Cond.code yX0_sense cX0_sense 3 (some .int), Cond.classLink RX0 26 "java/lang/IllegalArgumentException", Cond.initialized "java/lang/IllegalArgumentException", Cond.fieldLink RX0 53 "ModeDesk" "LOWEST" "[I", Cond.fieldLink RX0 56 "ModeDesk" "HIGHEST" "[I", Cond.fieldLink RX0 16 "ModeDesk" "measures" "[I", Cond.methodLink RX0 47 yX0_isMeasure, Cond.static yX0_isMeasure, Cond.code yX0_isMeasure cX0_isMeasure 1 (some .boolean), Cond.methodLink RX0 44 yX0_settle, Cond.instanceMethod yX0_settle, Cond.selects RX0 yX0_settle yX0_settle, Cond.code yX0_settle cX0_settle 2 (some .int), Cond.methodLink RX0 166 yX0_comesAboutByItself, Cond.instanceMethod yX0_comesAboutByItself, Cond.selects RX0 yX0_comesAboutByItself yX0_comesAboutByItself, Cond.code yX0_comesAboutByItself cX0_comesAboutByItself 1 (some .boolean), Cond.methodLink RX0 169 yX0_leaderFails, Cond.instanceMethod yX0_leaderFails]
def wsL_sense_r2 : List Cond := [Cond.selects RX0 yX0_leaderFails yX0_leaderFails, Cond.code yX0_leaderFails cX0_leaderFails 2 (some .boolean), Cond.fieldLink RX0 19 "ModeDesk" "soundness" "[Z", Cond.fieldLink RX0 111 "ModeDesk" "leader" "I", Cond.methodLink RX0 104 yX0_isOn, Cond.instanceMethod yX0_isOn, Cond.selects RX0 yX0_isOn yX0_isOn, Cond.code yX0_isOn cX0_isOn 1 (some .boolean), Cond.fieldLink RX0 7 "ModeDesk" "active" "[I", Cond.methodLink RX0 162 yX0_turnOff, Cond.instanceMethod yX0_turnOff, Cond.selects RX0 yX0_turnOff yX0_turnOff, Cond.code yX0_turnOff cX0_turnOff 2 none, Cond.methodLink RX0 124 yX0_change, Cond.instanceMethod yX0_change, Cond.selects RX0 yX0_change yX0_change, Cond.code yX0_change cX0_change 5 none, Cond.fieldLink RX0 13 "ModeDesk" "flashing" "[I", Cond.fieldLink RX0 115 "ModeDesk" "changeCount" "I", Cond.fieldLink RX0 23 "ModeDesk" "changes" "[I", Cond.methodLink RX0 107 yX0_bit, Cond.static yX0_bit, Cond.code yX0_bit cX0_bit 2 (some .int), Cond.methodLink RX0 128 yX0_disarmAll]
def wsL_sense_r3 : List Cond := [Cond.instanceMethod yX0_disarmAll, Cond.selects RX0 yX0_disarmAll yX0_disarmAll, Cond.code yX0_disarmAll cX0_disarmAll 1 none, Cond.fieldLink RX0 90 "ModeDesk" "navArmed" "Z", Cond.fieldLink RX0 93 "ModeDesk" "approachArmed" "Z", Cond.fieldLink RX0 96 "ModeDesk" "glideArmed" "Z", Cond.methodLink RX0 80 yX0_disengageWithWarning, Cond.instanceMethod yX0_disengageWithWarning, Cond.selects RX0 yX0_disengageWithWarning yX0_disengageWithWarning, Cond.code yX0_disengageWithWarning cX0_disengageWithWarning 1 none, Cond.fieldLink RX0 63 "ModeDesk" "engaged" "Z", Cond.fieldLink RX0 83 "ModeDesk" "warning" "Z", Cond.methodLink RX0 37 yX0_stopFlashing, Cond.instanceMethod yX0_stopFlashing, Cond.selects RX0 yX0_stopFlashing yX0_stopFlashing, Cond.code yX0_stopFlashing cX0_stopFlashing 1 none, Cond.methodLink RX0 172 yX0_courseIsLost, Cond.instanceMethod yX0_courseIsLost, Cond.selects RX0 yX0_courseIsLost yX0_courseIsLost, Cond.code yX0_courseIsLost cX0_courseIsLost 2 (some .boolean), Cond.methodLink RX0 158 yX0_leaveCourseFor, Cond.instanceMethod yX0_leaveCourseFor, Cond.selects RX0 yX0_leaveCourseFor yX0_leaveCourseFor, Cond.code yX0_leaveCourseFor cX0_leaveCourseFor 3 none]
def wsL_sense_r4 : List Cond := [Cond.methodLink RX0 175 yX0_pathIsLost, Cond.instanceMethod yX0_pathIsLost, Cond.selects RX0 yX0_pathIsLost yX0_pathIsLost, Cond.code yX0_pathIsLost cX0_pathIsLost 2 (some .boolean), Cond.methodLink RX0 178 yX0_navIsReached, Cond.instanceMethod yX0_navIsReached, Cond.selects RX0 yX0_navIsReached yX0_navIsReached, Cond.code yX0_navIsReached cX0_navIsReached 1 (some .boolean), Cond.methodLink RX0 199 yX0_isCourseWithin, Cond.instanceMethod yX0_isCourseWithin, Cond.selects RX0 yX0_isCourseWithin yX0_isCourseWithin, Cond.code yX0_isCourseWithin cX0_isCourseWithin 2 (some .boolean), Cond.methodLink RX0 118 Lib.Math.abs.name, Cond.static Lib.Math.abs.name, Cond.initialized "java/lang/Math", Cond.code Lib.Math.abs.name Lib.Math.abs.code 1 (some .int), Cond.methodLink RX0 181 yX0_approachIsReached, Cond.instanceMethod yX0_approachIsReached, Cond.selects RX0 yX0_approachIsReached yX0_approachIsReached, Cond.code yX0_approachIsReached cX0_approachIsReached 1 (some .boolean), Cond.methodLink RX0 184 yX0_glideIsReached, Cond.instanceMethod yX0_glideIsReached, Cond.selects RX0 yX0_glideIsReached yX0_glideIsReached, Cond.code yX0_glideIsReached cX0_glideIsReached 1 (some .boolean)]
def wsL_sense_r5 : List Cond := [Cond.methodLink RX0 202 yX0_isPathWithin, Cond.instanceMethod yX0_isPathWithin, Cond.selects RX0 yX0_isPathWithin yX0_isPathWithin, Cond.code yX0_isPathWithin cX0_isPathWithin 2 (some .boolean), Cond.methodLink RX0 187 yX0_heightComesNear, Cond.instanceMethod yX0_heightComesNear, Cond.selects RX0 yX0_heightComesNear yX0_heightComesNear, Cond.code yX0_heightComesNear cX0_heightComesNear 1 (some .boolean), Cond.methodLink RX0 99 yX0_isCaptureArmed, Cond.instanceMethod yX0_isCaptureArmed, Cond.selects RX0 yX0_isCaptureArmed yX0_isCaptureArmed, Cond.code yX0_isCaptureArmed cX0_isCaptureArmed 2 (some .boolean), Cond.methodLink RX0 205 yX0_isHeightWithin, Cond.instanceMethod yX0_isHeightWithin, Cond.selects RX0 yX0_isHeightWithin yX0_isHeightWithin, Cond.code yX0_isHeightWithin cX0_isHeightWithin 2 (some .boolean), Cond.methodLink RX0 190 yX0_heightIsReached, Cond.instanceMethod yX0_heightIsReached, Cond.selects RX0 yX0_heightIsReached yX0_heightIsReached, Cond.code yX0_heightIsReached cX0_heightIsReached 1 (some .boolean), Cond.methodLink RX0 193 yX0_heightIsLost, Cond.instanceMethod yX0_heightIsLost, Cond.selects RX0 yX0_heightIsLost yX0_heightIsLost, Cond.code yX0_heightIsLost cX0_heightIsLost 1 (some .boolean)]
def wsL_sense_r6 : List Cond := [Cond.methodLink RX0 196 yX0_climbIsTooFast, Cond.instanceMethod yX0_climbIsTooFast, Cond.selects RX0 yX0_climbIsTooFast yX0_climbIsTooFast, Cond.code yX0_climbIsTooFast cX0_climbIsTooFast 1 (some .boolean), Cond.methodLink RX0 74 yX0_isTooFast, Cond.instanceMethod yX0_isTooFast, Cond.selects RX0 yX0_isTooFast yX0_isTooFast, Cond.code yX0_isTooFast cX0_isTooFast 1 (some .boolean)]
def wsL_sense : List Cond := .codeWith yL_sense cL_sense 5 (some .int) [(0, 10, 13, 13)] :: ((wsL_sense_r1 ++ (wsL_sense_r2 ++ (wsL_sense_r3 ++ (wsL_sense_r4 ++ (wsL_sense_r5 ++ wsL_sense_r6))))) ++ wsX00 ++ (vx_atS RX0 30 "java/lang/IllegalArgumentException" ["java/lang/RuntimeException", "java/lang/Exception"]).filter goodWord)
def wsL_channel_r1 : List Cond := [Cond.classLink RL 13 "java/lang/IllegalArgumentException", Cond.methodLink RL 19 yX0_channel, Cond.instanceMethod yX0_channel, Cond.selects RX0 yX0_channel yX0_channel, Cond.initialized RX0, Cond.code yX0_channel cX0_channel 3 (some .int), Cond.classLink RX0 26 "java/lang/IllegalArgumentException", Cond.initialized "java/lang/IllegalArgumentException", Cond.fieldLink RX0 19 "ModeDesk" "soundness" "[Z", Cond.methodLink RX0 44 yX0_settle, Cond.instanceMethod yX0_settle, Cond.selects RX0 yX0_settle yX0_settle, Cond.code yX0_settle cX0_settle 2 (some .int), Cond.methodLink RX0 166 yX0_comesAboutByItself, Cond.instanceMethod yX0_comesAboutByItself, Cond.selects RX0 yX0_comesAboutByItself yX0_comesAboutByItself, Cond.code yX0_comesAboutByItself cX0_comesAboutByItself 1 (some .boolean), Cond.methodLink RX0 169 yX0_leaderFails, Cond.instanceMethod yX0_leaderFails, Cond.selects RX0 yX0_leaderFails yX0_leaderFails, Cond.code yX0_leaderFails cX0_leaderFails 2 (some .boolean), Cond.fieldLink RX0 111 "ModeDesk" "leader" "I", Cond.methodLink RX0 104 yX0_isOn, Cond.instanceMethod yX0_isOn]
def wsL_channel_r2 : List Cond := [Cond.selects RX0 yX0_isOn yX0_isOn, Cond.code yX0_isOn cX0_isOn 1 (some .boolean), Cond.fieldLink RX0 7 "ModeDesk" "active" "[I", Cond.methodLink RX0 162 yX0_turnOff, Cond.instanceMethod yX0_turnOff, Cond.selects RX0 yX0_turnOff yX0_turnOff, Cond.code yX0_turnOff cX0_turnOff 2 none, Cond.methodLink RX0 124 yX0_change, Cond.instanceMethod yX0_change, Cond.selects RX0 yX0_change yX0_change, Cond.code yX0_change cX0_change 5 none, Cond.fieldLink RX0 13 "ModeDesk" "flashing" "[I", Cond.fieldLink RX0 115 "ModeDesk" "changeCount" "I", Cond.fieldLink RX0 23 "ModeDesk" "changes" "[I", Cond.methodLink RX0 107 yX0_bit, Cond.static yX0_bit, Cond.code yX0_bit cX0_bit 2 (some .int), Cond.methodLink RX0 128 yX0_disarmAll, Cond.instanceMethod yX0_disarmAll, Cond.selects RX0 yX0_disarmAll yX0_disarmAll, Cond.code yX0_disarmAll cX0_disarmAll 1 none, Cond.fieldLink RX0 90 "ModeDesk" "navArmed" "Z", Cond.fieldLink RX0 93 "ModeDesk" "approachArmed" "Z", Cond.fieldLink RX0 96 "ModeDesk" "glideArmed" "Z"]
def wsL_channel_r3 : List Cond := [Cond.methodLink RX0 80 yX0_disengageWithWarning, Cond.instanceMethod yX0_disengageWithWarning, Cond.selects RX0 yX0_disengageWithWarning yX0_disengageWithWarning, Cond.code yX0_disengageWithWarning cX0_disengageWithWarning 1 none, Cond.fieldLink RX0 63 "ModeDesk" "engaged" "Z", Cond.fieldLink RX0 83 "ModeDesk" "warning" "Z", Cond.methodLink RX0 37 yX0_stopFlashing, Cond.instanceMethod yX0_stopFlashing, Cond.selects RX0 yX0_stopFlashing yX0_stopFlashing, Cond.code yX0_stopFlashing cX0_stopFlashing 1 none, Cond.methodLink RX0 172 yX0_courseIsLost, Cond.instanceMethod yX0_courseIsLost, Cond.selects RX0 yX0_courseIsLost yX0_courseIsLost, Cond.code yX0_courseIsLost cX0_courseIsLost 2 (some .boolean), Cond.fieldLink RX0 16 "ModeDesk" "measures" "[I", Cond.methodLink RX0 158 yX0_leaveCourseFor, Cond.instanceMethod yX0_leaveCourseFor, Cond.selects RX0 yX0_leaveCourseFor yX0_leaveCourseFor, Cond.code yX0_leaveCourseFor cX0_leaveCourseFor 3 none, Cond.methodLink RX0 175 yX0_pathIsLost, Cond.instanceMethod yX0_pathIsLost, Cond.selects RX0 yX0_pathIsLost yX0_pathIsLost, Cond.code yX0_pathIsLost cX0_pathIsLost 2 (some .boolean), Cond.methodLink RX0 178 yX0_navIsReached]
def wsL_channel_r4 : List Cond := [Cond.instanceMethod yX0_navIsReached, Cond.selects RX0 yX0_navIsReached yX0_navIsReached, Cond.code yX0_navIsReached cX0_navIsReached 1 (some .boolean), Cond.methodLink RX0 199 yX0_isCourseWithin, Cond.instanceMethod yX0_isCourseWithin, Cond.selects RX0 yX0_isCourseWithin yX0_isCourseWithin, Cond.code yX0_isCourseWithin cX0_isCourseWithin 2 (some .boolean), Cond.methodLink RX0 118 Lib.Math.abs.name, Cond.static Lib.Math.abs.name, Cond.initialized "java/lang/Math", Cond.code Lib.Math.abs.name Lib.Math.abs.code 1 (some .int), Cond.methodLink RX0 181 yX0_approachIsReached, Cond.instanceMethod yX0_approachIsReached, Cond.selects RX0 yX0_approachIsReached yX0_approachIsReached, Cond.code yX0_approachIsReached cX0_approachIsReached 1 (some .boolean), Cond.methodLink RX0 184 yX0_glideIsReached, Cond.instanceMethod yX0_glideIsReached, Cond.selects RX0 yX0_glideIsReached yX0_glideIsReached, Cond.code yX0_glideIsReached cX0_glideIsReached 1 (some .boolean), Cond.methodLink RX0 202 yX0_isPathWithin, Cond.instanceMethod yX0_isPathWithin, Cond.selects RX0 yX0_isPathWithin yX0_isPathWithin, Cond.code yX0_isPathWithin cX0_isPathWithin 2 (some .boolean), Cond.methodLink RX0 187 yX0_heightComesNear]
def wsL_channel_r5 : List Cond := [Cond.instanceMethod yX0_heightComesNear, Cond.selects RX0 yX0_heightComesNear yX0_heightComesNear, Cond.code yX0_heightComesNear cX0_heightComesNear 1 (some .boolean), Cond.methodLink RX0 99 yX0_isCaptureArmed, Cond.instanceMethod yX0_isCaptureArmed, Cond.selects RX0 yX0_isCaptureArmed yX0_isCaptureArmed, Cond.code yX0_isCaptureArmed cX0_isCaptureArmed 2 (some .boolean), Cond.methodLink RX0 205 yX0_isHeightWithin, Cond.instanceMethod yX0_isHeightWithin, Cond.selects RX0 yX0_isHeightWithin yX0_isHeightWithin, Cond.code yX0_isHeightWithin cX0_isHeightWithin 2 (some .boolean), Cond.methodLink RX0 190 yX0_heightIsReached, Cond.instanceMethod yX0_heightIsReached, Cond.selects RX0 yX0_heightIsReached yX0_heightIsReached, Cond.code yX0_heightIsReached cX0_heightIsReached 1 (some .boolean), Cond.methodLink RX0 193 yX0_heightIsLost, Cond.instanceMethod yX0_heightIsLost, Cond.selects RX0 yX0_heightIsLost yX0_heightIsLost, Cond.code yX0_heightIsLost cX0_heightIsLost 1 (some .boolean), Cond.methodLink RX0 196 yX0_climbIsTooFast, Cond.instanceMethod yX0_climbIsTooFast, Cond.selects RX0 yX0_climbIsTooFast yX0_climbIsTooFast, Cond.code yX0_climbIsTooFast cX0_climbIsTooFast 1 (some .boolean), Cond.methodLink RX0 74 yX0_isTooFast]
def wsL_channel_r6 : List Cond := [Cond.instanceMethod yX0_isTooFast, Cond.selects RX0 yX0_isTooFast yX0_isTooFast, Cond.code yX0_isTooFast cX0_isTooFast 1 (some .boolean)]
def wsL_channel : List Cond := .codeWith yL_channel cL_channel 5 (some .int) [(0, 10, 13, 13)] :: ((wsL_channel_r1 ++ (wsL_channel_r2 ++ (wsL_channel_r3 ++ (wsL_channel_r4 ++ (wsL_channel_r5 ++ wsL_channel_r6))))) ++ wsX00 ++ (vx_atS RX0 30 "java/lang/IllegalArgumentException" ["java/lang/RuntimeException", "java/lang/Exception"]).filter goodWord)
def wsL_step : List Cond := .codeWith yL_step cL_step 4 (some .int) [(0, 9, 12, 13)] :: ([.classLink RL 13 "java/lang/IllegalArgumentException", .methodLink RL 23 yX0_step, .instanceMethod yX0_step, .selects RX0 yX0_step yX0_step, .initialized RX0, .code yX0_step cX0_step 4 (some .int), .classLink RX0 26 "java/lang/IllegalArgumentException", .initialized "java/lang/IllegalArgumentException", .fieldLink RX0 13 "ModeDesk" "flashing" "[I"] ++ wsX00 ++ (vx_atS RX0 30 "java/lang/IllegalArgumentException" ["java/lang/RuntimeException", "java/lang/Exception"]).filter goodWord)
def wsL_mode : List Cond := .codeWith yL_mode cL_mode 4 (some .int) [(0, 9, 12, 13)] :: ([.classLink RL 13 "java/lang/IllegalArgumentException", .methodLink RL 26 yX0_mode, .instanceMethod yX0_mode, .selects RX0 yX0_mode yX0_mode, .initialized RX0, .code yX0_mode cX0_mode 2 (some .int), .classLink RX0 26 "java/lang/IllegalArgumentException", .initialized "java/lang/IllegalArgumentException", .fieldLink RX0 7 "ModeDesk" "active" "[I"] ++ wsX00 ++ (vx_atS RX0 30 "java/lang/IllegalArgumentException" ["java/lang/RuntimeException", "java/lang/Exception"]).filter goodWord)
def wsL_armed : List Cond := .codeWith yL_armed cL_armed 4 (some .int) [(0, 16, 19, 13)] :: ([.classLink RL 13 "java/lang/IllegalArgumentException", .methodLink RL 29 yX0_armed, .instanceMethod yX0_armed, .selects RX0 yX0_armed yX0_armed, .initialized RX0, .code yX0_armed cX0_armed 2 (some .boolean), .classLink RX0 26 "java/lang/IllegalArgumentException", .initialized "java/lang/IllegalArgumentException", .fieldLink RX0 90 "ModeDesk" "navArmed" "Z", .fieldLink RX0 93 "ModeDesk" "approachArmed" "Z", .fieldLink RX0 96 "ModeDesk" "glideArmed" "Z", .methodLink RX0 99 yX0_isCaptureArmed, .instanceMethod yX0_isCaptureArmed, .selects RX0 yX0_isCaptureArmed yX0_isCaptureArmed, .code yX0_isCaptureArmed cX0_isCaptureArmed 2 (some .boolean), .fieldLink RX0 7 "ModeDesk" "active" "[I"] ++ wsX00 ++ (vx_atS RX0 30 "java/lang/IllegalArgumentException" ["java/lang/RuntimeException", "java/lang/Exception"]).filter goodWord)
def wsL_measure : List Cond := .codeWith yL_measure cL_measure 4 (some .int) [(0, 9, 12, 13)] :: ([.classLink RL 13 "java/lang/IllegalArgumentException", .methodLink RL 33 yX0_measure, .instanceMethod yX0_measure, .selects RX0 yX0_measure yX0_measure, .initialized RX0, .code yX0_measure cX0_measure 2 (some .int), .classLink RX0 26 "java/lang/IllegalArgumentException", .initialized "java/lang/IllegalArgumentException", .fieldLink RX0 16 "ModeDesk" "measures" "[I", .methodLink RX0 47 yX0_isMeasure, .static yX0_isMeasure, .code yX0_isMeasure cX0_isMeasure 1 (some .boolean)] ++ wsX00 ++ (vx_atS RX0 30 "java/lang/IllegalArgumentException" ["java/lang/RuntimeException", "java/lang/Exception"]).filter goodWord)
def wsL_law0_r1 : List Cond := [Cond.classLink RL 8 RX0, Cond.instantiable RX0 12, Cond.initialized RX0, Cond.classLink RL 37 RX1, Cond.instantiable RX1 15, Cond.initialized RX1, Cond.arrayClass .long, Cond.methodLink RL 36 yX0_init, Cond.instanceMethod yX0_init, Cond.code yX0_init cX0_init 1 none, Cond.methodLink RX0 1 objectInit, Cond.instanceMethod objectInit, Cond.code objectInit ⟨#[0xb1]⟩ 1 none, Cond.arrayClass .int, Cond.fieldLink RX0 7 "ModeDesk" "active" "[I", Cond.fieldLink RX0 13 "ModeDesk" "flashing" "[I", Cond.fieldLink RX0 16 "ModeDesk" "measures" "[I", Cond.arrayClass .boolean, Cond.fieldLink RX0 19 "ModeDesk" "soundness" "[Z", Cond.fieldLink RX0 23 "ModeDesk" "changes" "[I", Cond.methodLink RL 39 yX1_init, Cond.instanceMethod yX1_init, Cond.code yX1_init cX1_init 1 none, Cond.methodLink RX1 1 objectInit]
def wsL_law0_r2 : List Cond := [Cond.fieldLink RX1 7 "ModeDeskModel" "values" "[I", Cond.fieldLink RX1 13 "ModeDeskModel" "rows" "[I", Cond.fieldLink RX1 16 "ModeDeskModel" "leader" "I", Cond.methodLink RL 40 yL_press, Cond.static yL_press, Cond.initialized RL, Cond.codeWith yL_press cL_press 4 (some .int) [(0, 9, 12, 13)], Cond.classLink RL 13 "java/lang/IllegalArgumentException", Cond.methodLink RL 7 yX0_press, Cond.instanceMethod yX0_press, Cond.selects RX0 yX0_press yX0_press, Cond.code yX0_press cX0_press 3 (some .int), Cond.classLink RX0 26 "java/lang/IllegalArgumentException", Cond.initialized "java/lang/IllegalArgumentException", Cond.methodLink RX0 33 yX0_stateAsNumber, Cond.instanceMethod yX0_stateAsNumber, Cond.selects RX0 yX0_stateAsNumber yX0_stateAsNumber, Cond.code yX0_stateAsNumber cX0_stateAsNumber 1 (some .int), Cond.fieldLink RX0 90 "ModeDesk" "navArmed" "Z", Cond.fieldLink RX0 93 "ModeDesk" "approachArmed" "Z", Cond.fieldLink RX0 96 "ModeDesk" "glideArmed" "Z", Cond.fieldLink RX0 63 "ModeDesk" "engaged" "Z", Cond.fieldLink RX0 111 "ModeDesk" "leader" "I", Cond.methodLink RX0 107 yX0_bit]
def wsL_law0_r3 : List Cond := [Cond.static yX0_bit, Cond.code yX0_bit cX0_bit 2 (some .int), Cond.methodLink RX0 37 yX0_stopFlashing, Cond.instanceMethod yX0_stopFlashing, Cond.selects RX0 yX0_stopFlashing yX0_stopFlashing, Cond.code yX0_stopFlashing cX0_stopFlashing 1 none, Cond.methodLink RX0 40 yX0_obey, Cond.instanceMethod yX0_obey, Cond.selects RX0 yX0_obey yX0_obey, Cond.code yX0_obey cX0_obey 2 none, Cond.methodLink RX0 67 yX0_isAnyChannelSound, Cond.instanceMethod yX0_isAnyChannelSound, Cond.selects RX0 yX0_isAnyChannelSound yX0_isAnyChannelSound, Cond.code yX0_isAnyChannelSound cX0_isAnyChannelSound 1 (some .boolean), Cond.methodLink RX0 77 yX0_turnOnIfOff, Cond.instanceMethod yX0_turnOnIfOff, Cond.selects RX0 yX0_turnOnIfOff yX0_turnOnIfOff, Cond.code yX0_turnOnIfOff cX0_turnOnIfOff 1 none, Cond.methodLink RX0 104 yX0_isOn, Cond.instanceMethod yX0_isOn, Cond.selects RX0 yX0_isOn yX0_isOn, Cond.code yX0_isOn cX0_isOn 1 (some .boolean), Cond.methodLink RX0 131 yX0_goToBase, Cond.instanceMethod yX0_goToBase]
def wsL_law0_r4 : List Cond := [Cond.selects RX0 yX0_goToBase yX0_goToBase, Cond.code yX0_goToBase cX0_goToBase 1 none, Cond.methodLink RX0 124 yX0_change, Cond.instanceMethod yX0_change, Cond.selects RX0 yX0_change yX0_change, Cond.code yX0_change cX0_change 5 none, Cond.fieldLink RX0 115 "ModeDesk" "changeCount" "I", Cond.methodLink RX0 128 yX0_disarmAll, Cond.instanceMethod yX0_disarmAll, Cond.selects RX0 yX0_disarmAll yX0_disarmAll, Cond.code yX0_disarmAll cX0_disarmAll 1 none, Cond.methodLink RX0 134 yX0_obeyHeading, Cond.instanceMethod yX0_obeyHeading, Cond.selects RX0 yX0_obeyHeading yX0_obeyHeading, Cond.code yX0_obeyHeading cX0_obeyHeading 1 none, Cond.methodLink RX0 158 yX0_leaveCourseFor, Cond.instanceMethod yX0_leaveCourseFor, Cond.selects RX0 yX0_leaveCourseFor yX0_leaveCourseFor, Cond.code yX0_leaveCourseFor cX0_leaveCourseFor 3 none, Cond.methodLink RX0 137 yX0_obeyNav, Cond.instanceMethod yX0_obeyNav, Cond.selects RX0 yX0_obeyNav yX0_obeyNav, Cond.code yX0_obeyNav cX0_obeyNav 1 none, Cond.methodLink RX0 140 yX0_obeyApproach]
def wsL_law0_r5 : List Cond := [Cond.instanceMethod yX0_obeyApproach, Cond.selects RX0 yX0_obeyApproach yX0_obeyApproach, Cond.code yX0_obeyApproach cX0_obeyApproach 1 none, Cond.methodLink RX0 143 yX0_obeyVertical, Cond.instanceMethod yX0_obeyVertical, Cond.selects RX0 yX0_obeyVertical yX0_obeyVertical, Cond.code yX0_obeyVertical cX0_obeyVertical 2 none, Cond.methodLink RX0 146 yX0_obeyAround, Cond.instanceMethod yX0_obeyAround, Cond.selects RX0 yX0_obeyAround yX0_obeyAround, Cond.code yX0_obeyAround cX0_obeyAround 1 none, Cond.methodLink RX0 80 yX0_disengageWithWarning, Cond.instanceMethod yX0_disengageWithWarning, Cond.selects RX0 yX0_disengageWithWarning yX0_disengageWithWarning, Cond.code yX0_disengageWithWarning cX0_disengageWithWarning 1 none, Cond.fieldLink RX0 83 "ModeDesk" "warning" "Z", Cond.methodLink RX0 149 yX0_obeySync, Cond.instanceMethod yX0_obeySync, Cond.selects RX0 yX0_obeySync yX0_obeySync, Cond.code yX0_obeySync cX0_obeySync 1 none, Cond.methodLink RX0 152 yX0_obeyTransfer, Cond.instanceMethod yX0_obeyTransfer, Cond.selects RX0 yX0_obeyTransfer yX0_obeyTransfer, Cond.code yX0_obeyTransfer cX0_obeyTransfer 2 none]
def wsL_law0_r6 : List Cond := [Cond.methodLink RX0 155 yX0_obeyDirector, Cond.instanceMethod yX0_obeyDirector, Cond.selects RX0 yX0_obeyDirector yX0_obeyDirector, Cond.code yX0_obeyDirector cX0_obeyDirector 1 none, Cond.methodLink RX0 162 yX0_turnOff, Cond.instanceMethod yX0_turnOff, Cond.selects RX0 yX0_turnOff yX0_turnOff, Cond.code yX0_turnOff cX0_turnOff 2 none, Cond.methodLink RX0 44 yX0_settle, Cond.instanceMethod yX0_settle, Cond.selects RX0 yX0_settle yX0_settle, Cond.code yX0_settle cX0_settle 2 (some .int), Cond.methodLink RX0 166 yX0_comesAboutByItself, Cond.instanceMethod yX0_comesAboutByItself, Cond.selects RX0 yX0_comesAboutByItself yX0_comesAboutByItself, Cond.code yX0_comesAboutByItself cX0_comesAboutByItself 1 (some .boolean), Cond.methodLink RX0 169 yX0_leaderFails, Cond.instanceMethod yX0_leaderFails, Cond.selects RX0 yX0_leaderFails yX0_leaderFails, Cond.code yX0_leaderFails cX0_leaderFails 2 (some .boolean), Cond.methodLink RX0 172 yX0_courseIsLost, Cond.instanceMethod yX0_courseIsLost, Cond.selects RX0 yX0_courseIsLost yX0_courseIsLost, Cond.code yX0_courseIsLost cX0_courseIsLost 2 (some .boolean)]
def wsL_law0_r7 : List Cond := [Cond.methodLink RX0 175 yX0_pathIsLost, Cond.instanceMethod yX0_pathIsLost, Cond.selects RX0 yX0_pathIsLost yX0_pathIsLost, Cond.code yX0_pathIsLost cX0_pathIsLost 2 (some .boolean), Cond.methodLink RX0 178 yX0_navIsReached, Cond.instanceMethod yX0_navIsReached, Cond.selects RX0 yX0_navIsReached yX0_navIsReached, Cond.code yX0_navIsReached cX0_navIsReached 1 (some .boolean), Cond.methodLink RX0 199 yX0_isCourseWithin, Cond.instanceMethod yX0_isCourseWithin, Cond.selects RX0 yX0_isCourseWithin yX0_isCourseWithin, Cond.code yX0_isCourseWithin cX0_isCourseWithin 2 (some .boolean), Cond.methodLink RX0 118 Lib.Math.abs.name, Cond.static Lib.Math.abs.name, Cond.initialized "java/lang/Math", Cond.code Lib.Math.abs.name Lib.Math.abs.code 1 (some .int), Cond.methodLink RX0 181 yX0_approachIsReached, Cond.instanceMethod yX0_approachIsReached, Cond.selects RX0 yX0_approachIsReached yX0_approachIsReached, Cond.code yX0_approachIsReached cX0_approachIsReached 1 (some .boolean), Cond.methodLink RX0 184 yX0_glideIsReached, Cond.instanceMethod yX0_glideIsReached, Cond.selects RX0 yX0_glideIsReached yX0_glideIsReached, Cond.code yX0_glideIsReached cX0_glideIsReached 1 (some .boolean)]
def wsL_law0_r8 : List Cond := [Cond.methodLink RX0 202 yX0_isPathWithin, Cond.instanceMethod yX0_isPathWithin, Cond.selects RX0 yX0_isPathWithin yX0_isPathWithin, Cond.code yX0_isPathWithin cX0_isPathWithin 2 (some .boolean), Cond.methodLink RX0 187 yX0_heightComesNear, Cond.instanceMethod yX0_heightComesNear, Cond.selects RX0 yX0_heightComesNear yX0_heightComesNear, Cond.code yX0_heightComesNear cX0_heightComesNear 1 (some .boolean), Cond.methodLink RX0 99 yX0_isCaptureArmed, Cond.instanceMethod yX0_isCaptureArmed, Cond.selects RX0 yX0_isCaptureArmed yX0_isCaptureArmed, Cond.code yX0_isCaptureArmed cX0_isCaptureArmed 2 (some .boolean), Cond.methodLink RX0 205 yX0_isHeightWithin, Cond.instanceMethod yX0_isHeightWithin, Cond.selects RX0 yX0_isHeightWithin yX0_isHeightWithin, Cond.code yX0_isHeightWithin cX0_isHeightWithin 2 (some .boolean), Cond.methodLink RX0 190 yX0_heightIsReached, Cond.instanceMethod yX0_heightIsReached, Cond.selects RX0 yX0_heightIsReached yX0_heightIsReached, Cond.code yX0_heightIsReached cX0_heightIsReached 1 (some .boolean), Cond.methodLink RX0 193 yX0_heightIsLost, Cond.instanceMethod yX0_heightIsLost, Cond.selects RX0 yX0_heightIsLost yX0_heightIsLost, Cond.code yX0_heightIsLost cX0_heightIsLost 1 (some .boolean)]
def wsL_law0_r9 : List Cond := [Cond.methodLink RX0 196 yX0_climbIsTooFast, Cond.instanceMethod yX0_climbIsTooFast, Cond.selects RX0 yX0_climbIsTooFast yX0_climbIsTooFast, Cond.code yX0_climbIsTooFast cX0_climbIsTooFast 1 (some .boolean), Cond.methodLink RX0 74 yX0_isTooFast, Cond.instanceMethod yX0_isTooFast, Cond.selects RX0 yX0_isTooFast yX0_isTooFast, Cond.code yX0_isTooFast cX0_isTooFast 1 (some .boolean), Cond.methodLink RL 45 yX1_press, Cond.instanceMethod yX1_press, Cond.selects RX1 yX1_press yX1_press, Cond.code yX1_press cX1_press 5 (some .int), Cond.fieldLink RX1 33 "ModeDeskModel" "flash0" "I", Cond.fieldLink RX1 39 "ModeDeskModel" "flash1" "I", Cond.fieldLink RX1 65 "ModeDeskModel" "bad0" "Z", Cond.fieldLink RX1 68 "ModeDeskModel" "bad1" "Z", Cond.fieldLink RX1 26 "ModeDeskModel" "lateral" "I", Cond.methodLink RX1 105 yX1_good, Cond.instanceMethod yX1_good, Cond.selects RX1 yX1_good yX1_good, Cond.code yX1_good cX1_good 2 (some .boolean), Cond.fieldLink RX1 20 "ModeDeskModel" "thrown" "I", Cond.methodLink RX1 109 yX1_sum, Cond.instanceMethod yX1_sum]
def wsL_law0_r10 : List Cond := [Cond.selects RX1 yX1_sum yX1_sum, Cond.code yX1_sum cX1_sum 1 (some .int), Cond.fieldLink RX1 36 "ModeDeskModel" "vertical" "I", Cond.fieldLink RX1 42 "ModeDeskModel" "armedLateral" "I", Cond.fieldLink RX1 45 "ModeDeskModel" "armedGlide" "Z", Cond.fieldLink RX1 62 "ModeDeskModel" "engaged" "Z", Cond.methodLink RX1 102 yX1_base, Cond.instanceMethod yX1_base, Cond.selects RX1 yX1_base yX1_base, Cond.code yX1_base cX1_base 2 none, Cond.methodLink RX1 49 yX1_noneArmed, Cond.instanceMethod yX1_noneArmed, Cond.selects RX1 yX1_noneArmed yX1_noneArmed, Cond.code yX1_noneArmed cX1_noneArmed 1 none, Cond.methodLink RX1 52 yX1_lateralTo, Cond.instanceMethod yX1_lateralTo, Cond.selects RX1 yX1_lateralTo yX1_lateralTo, Cond.code yX1_lateralTo cX1_lateralTo 3 none, Cond.methodLink RX1 29 yX1_keep, Cond.instanceMethod yX1_keep, Cond.selects RX1 yX1_keep yX1_keep, Cond.code yX1_keep cX1_keep 5 none, Cond.fieldLink RX1 23 "ModeDeskModel" "kept" "I", Cond.methodLink RX1 56 yX1_verticalTo]
def wsL_law0_r11 : List Cond := [Cond.instanceMethod yX1_verticalTo, Cond.selects RX1 yX1_verticalTo yX1_verticalTo, Cond.code yX1_verticalTo cX1_verticalTo 3 none, Cond.methodLink RX1 112 yX1_button, Cond.instanceMethod yX1_button, Cond.selects RX1 yX1_button yX1_button, Cond.code yX1_button cX1_button 2 none, Cond.fieldLink RX1 59 "ModeDeskModel" "warning" "Z", Cond.methodLink RX1 93 yX1_outOfApproach, Cond.instanceMethod yX1_outOfApproach, Cond.selects RX1 yX1_outOfApproach yX1_outOfApproach, Cond.code yX1_outOfApproach cX1_outOfApproach 3 none, Cond.methodLink RX1 96 yX1_navButton, Cond.instanceMethod yX1_navButton, Cond.selects RX1 yX1_navButton yX1_navButton, Cond.code yX1_navButton cX1_navButton 1 none, Cond.methodLink RX1 99 yX1_approachButton, Cond.instanceMethod yX1_approachButton, Cond.selects RX1 yX1_approachButton yX1_approachButton, Cond.code yX1_approachButton cX1_approachButton 1 none, Cond.methodLink RX1 75 yX1_isBad, Cond.instanceMethod yX1_isBad, Cond.selects RX1 yX1_isBad yX1_isBad, Cond.code yX1_isBad cX1_isBad 2 (some .boolean)]
def wsL_law0_r12 : List Cond := [Cond.methodLink RX1 83 yX1_goOff, Cond.instanceMethod yX1_goOff, Cond.selects RX1 yX1_goOff yX1_goOff, Cond.code yX1_goOff cX1_goOff 2 none, Cond.methodLink RX1 115 yX1_settle, Cond.instanceMethod yX1_settle, Cond.selects RX1 yX1_settle yX1_settle, Cond.code yX1_settle cX1_settle 3 (some .int), Cond.methodLink RX1 87 yX1_rule, Cond.instanceMethod yX1_rule, Cond.selects RX1 yX1_rule yX1_rule, Cond.code yX1_rule cX1_rule 3 (some .int), Cond.methodLink RX1 71 yX1_size, Cond.static yX1_size, Cond.code yX1_size cX1_size 1 (some .int), Cond.methodLink RX1 79 yX1_apart, Cond.instanceMethod yX1_apart, Cond.selects RX1 yX1_apart yX1_apart, Cond.code yX1_apart cX1_apart 1 (some .int), Cond.methodLink RX1 90 yX1_comes, Cond.instanceMethod yX1_comes, Cond.selects RX1 yX1_comes yX1_comes, Cond.code yX1_comes cX1_comes 2 none, Cond.methodLink RL 46 yX1_thrown]
def wsL_law0_r13 : List Cond := [Cond.instanceMethod yX1_thrown, Cond.selects RX1 yX1_thrown yX1_thrown, Cond.code yX1_thrown cX1_thrown 1 (some .int), Cond.methodLink RL 50 yL_sense, Cond.static yL_sense, Cond.codeWith yL_sense cL_sense 5 (some .int) [(0, 10, 13, 13)], Cond.methodLink RL 15 yX0_sense, Cond.instanceMethod yX0_sense, Cond.selects RX0 yX0_sense yX0_sense, Cond.code yX0_sense cX0_sense 3 (some .int), Cond.fieldLink RX0 53 "ModeDesk" "LOWEST" "[I", Cond.fieldLink RX0 56 "ModeDesk" "HIGHEST" "[I", Cond.methodLink RX0 47 yX0_isMeasure, Cond.static yX0_isMeasure, Cond.code yX0_isMeasure cX0_isMeasure 1 (some .boolean), Cond.methodLink RL 53 yX1_sense, Cond.instanceMethod yX1_sense, Cond.selects RX1 yX1_sense yX1_sense, Cond.code yX1_sense cX1_sense 5 (some .int), Cond.constant RX1 118 (50000), Cond.methodLink RL 54 yL_channel, Cond.static yL_channel, Cond.codeWith yL_channel cL_channel 5 (some .int) [(0, 10, 13, 13)], Cond.methodLink RL 19 yX0_channel]
def wsL_law0_r14 : List Cond := [Cond.instanceMethod yX0_channel, Cond.selects RX0 yX0_channel yX0_channel, Cond.code yX0_channel cX0_channel 3 (some .int), Cond.methodLink RL 57 yX1_channel, Cond.instanceMethod yX1_channel, Cond.selects RX1 yX1_channel yX1_channel, Cond.code yX1_channel cX1_channel 3 (some .int), Cond.methodLink RL 58 yX0_engage, Cond.instanceMethod yX0_engage, Cond.selects RX0 yX0_engage yX0_engage, Cond.code yX0_engage cX0_engage 1 (some .int), Cond.methodLink RX0 71 yX0_isAroundAnywhere, Cond.instanceMethod yX0_isAroundAnywhere, Cond.selects RX0 yX0_isAroundAnywhere yX0_isAroundAnywhere, Cond.code yX0_isAroundAnywhere cX0_isAroundAnywhere 1 (some .boolean), Cond.methodLink RL 61 yX1_engage, Cond.instanceMethod yX1_engage, Cond.selects RX1 yX1_engage yX1_engage, Cond.code yX1_engage cX1_engage 2 (some .int), Cond.methodLink RL 62 yX0_disconnect, Cond.instanceMethod yX0_disconnect, Cond.selects RX0 yX0_disconnect yX0_disconnect, Cond.code yX0_disconnect cX0_disconnect 1 (some .int), Cond.methodLink RL 65 yX1_disconnect]
def wsL_law0_r15 : List Cond := [Cond.instanceMethod yX1_disconnect, Cond.selects RX1 yX1_disconnect yX1_disconnect, Cond.code yX1_disconnect cX1_disconnect 2 (some .int), Cond.methodLink RL 66 yL_step, Cond.static yL_step, Cond.codeWith yL_step cL_step 4 (some .int) [(0, 9, 12, 13)], Cond.methodLink RL 23 yX0_step, Cond.instanceMethod yX0_step, Cond.selects RX0 yX0_step yX0_step, Cond.code yX0_step cX0_step 4 (some .int), Cond.methodLink RL 68 yX1_step, Cond.instanceMethod yX1_step, Cond.selects RX1 yX1_step yX1_step, Cond.code yX1_step cX1_step 3 (some .int), Cond.methodLink RL 69 yL_mode, Cond.static yL_mode, Cond.codeWith yL_mode cL_mode 4 (some .int) [(0, 9, 12, 13)], Cond.methodLink RL 26 yX0_mode, Cond.instanceMethod yX0_mode, Cond.selects RX0 yX0_mode yX0_mode, Cond.code yX0_mode cX0_mode 2 (some .int), Cond.methodLink RL 71 yX1_mode, Cond.instanceMethod yX1_mode, Cond.selects RX1 yX1_mode yX1_mode]
def wsL_law0_r16 : List Cond := [Cond.code yX1_mode cX1_mode 2 (some .int), Cond.methodLink RL 72 yL_armed, Cond.static yL_armed, Cond.codeWith yL_armed cL_armed 4 (some .int) [(0, 16, 19, 13)], Cond.methodLink RL 29 yX0_armed, Cond.instanceMethod yX0_armed, Cond.selects RX0 yX0_armed yX0_armed, Cond.code yX0_armed cX0_armed 2 (some .boolean), Cond.methodLink RL 74 yX1_armed, Cond.instanceMethod yX1_armed, Cond.selects RX1 yX1_armed yX1_armed, Cond.code yX1_armed cX1_armed 2 (some .boolean), Cond.methodLink RL 75 yX0_shown, Cond.instanceMethod yX0_shown, Cond.selects RX0 yX0_shown yX0_shown, Cond.code yX0_shown cX0_shown 1 (some .int), Cond.methodLink RL 78 yX1_shown, Cond.instanceMethod yX1_shown, Cond.selects RX1 yX1_shown yX1_shown, Cond.code yX1_shown cX1_shown 2 (some .int), Cond.methodLink RL 79 yX0_kept, Cond.instanceMethod yX0_kept, Cond.selects RX0 yX0_kept yX0_kept, Cond.code yX0_kept cX0_kept 4 (some .int)]
def wsL_law0_r17 : List Cond := [Cond.methodLink RL 82 yX1_kept, Cond.instanceMethod yX1_kept, Cond.selects RX1 yX1_kept yX1_kept, Cond.code yX1_kept cX1_kept 3 (some .int), Cond.methodLink RL 83 yL_measure, Cond.static yL_measure, Cond.codeWith yL_measure cL_measure 4 (some .int) [(0, 9, 12, 13)], Cond.methodLink RL 33 yX0_measure, Cond.instanceMethod yX0_measure, Cond.selects RX0 yX0_measure yX0_measure, Cond.code yX0_measure cX0_measure 2 (some .int), Cond.methodLink RL 85 yX1_measure, Cond.instanceMethod yX1_measure, Cond.selects RX1 yX1_measure yX1_measure, Cond.code yX1_measure cX1_measure 2 (some .int)]
def wsL_law0 : List Cond := (wsL_law0_r1 ++ (wsL_law0_r2 ++ (wsL_law0_r3 ++ (wsL_law0_r4 ++ (wsL_law0_r5 ++ (wsL_law0_r6 ++ (wsL_law0_r7 ++ (wsL_law0_r8 ++ (wsL_law0_r9 ++ (wsL_law0_r10 ++ (wsL_law0_r11 ++ (wsL_law0_r12 ++ (wsL_law0_r13 ++ (wsL_law0_r14 ++ (wsL_law0_r15 ++ (wsL_law0_r16 ++ wsL_law0_r17)))))))))))))))) ++ wsX00 ++ wsX10 ++ ([] : List Cond)
def wsL_law : List Cond := wsL_law0 ++ (vx_atS RX0 30 "java/lang/IllegalArgumentException" ["java/lang/RuntimeException", "java/lang/Exception"]).filter goodWord
theorem dX0_init_0 : decode cX0_init 0 = .ok (.aload_n 0, 1) := by decide +kernel
theorem dX0_init_1 : decode cX0_init 1 = .ok (.invokespecial 1, 3) := by decide +kernel
theorem dX0_init_4 : decode cX0_init 4 = .ok (.aload_n 0, 1) := by decide +kernel
theorem dX0_init_5 : decode cX0_init 5 = .ok (.iconst 2, 1) := by decide +kernel
theorem dX0_init_6 : decode cX0_init 6 = .ok (.newarray .int, 2) := by decide +kernel
theorem dX0_init_8 : decode cX0_init 8 = .ok (.putfield 7, 3) := by decide +kernel
theorem dX0_init_11 : decode cX0_init 11 = .ok (.aload_n 0, 1) := by decide +kernel
theorem dX0_init_12 : decode cX0_init 12 = .ok (.iconst 2, 1) := by decide +kernel
theorem dX0_init_13 : decode cX0_init 13 = .ok (.newarray .int, 2) := by decide +kernel
theorem dX0_init_15 : decode cX0_init 15 = .ok (.putfield 13, 3) := by decide +kernel
theorem dX0_init_18 : decode cX0_init 18 = .ok (.aload_n 0, 1) := by decide +kernel
theorem dX0_init_19 : decode cX0_init 19 = .ok (.bipush 7, 2) := by decide +kernel
theorem dX0_init_21 : decode cX0_init 21 = .ok (.newarray .int, 2) := by decide +kernel
theorem dX0_init_23 : decode cX0_init 23 = .ok (.putfield 16, 3) := by decide +kernel
theorem dX0_init_26 : decode cX0_init 26 = .ok (.aload_n 0, 1) := by decide +kernel
theorem dX0_init_27 : decode cX0_init 27 = .ok (.iconst 2, 1) := by decide +kernel
theorem dX0_init_28 : decode cX0_init 28 = .ok (.newarray .boolean, 2) := by decide +kernel
theorem dX0_init_30 : decode cX0_init 30 = .ok (.putfield 19, 3) := by decide +kernel
theorem dX0_init_33 : decode cX0_init 33 = .ok (.aload_n 0, 1) := by decide +kernel
theorem dX0_init_34 : decode cX0_init 34 = .ok (.sipush 300, 3) := by decide +kernel
theorem dX0_init_37 : decode cX0_init 37 = .ok (.newarray .int, 2) := by decide +kernel
theorem dX0_init_39 : decode cX0_init 39 = .ok (.putfield 23, 3) := by decide +kernel
theorem dX0_init_42 : decode cX0_init 42 = .ok (.aload_n 0, 1) := by decide +kernel
theorem dX0_init_43 : decode cX0_init 43 = .ok (.getfield 19, 3) := by decide +kernel
theorem dX0_init_46 : decode cX0_init 46 = .ok (.iconst 0, 1) := by decide +kernel
theorem dX0_init_47 : decode cX0_init 47 = .ok (.iconst 1, 1) := by decide +kernel
theorem dX0_init_48 : decode cX0_init 48 = .ok (.bastore, 1) := by decide +kernel
theorem dX0_init_49 : decode cX0_init 49 = .ok (.aload_n 0, 1) := by decide +kernel
theorem dX0_init_50 : decode cX0_init 50 = .ok (.getfield 19, 3) := by decide +kernel
theorem dX0_init_53 : decode cX0_init 53 = .ok (.iconst 1, 1) := by decide +kernel
theorem dX0_init_54 : decode cX0_init 54 = .ok (.iconst 1, 1) := by decide +kernel
theorem dX0_init_55 : decode cX0_init 55 = .ok (.bastore, 1) := by decide +kernel
theorem dX0_init_56 : decode cX0_init 56 = .ok (.return_, 1) := by decide +kernel
set_option maxRecDepth 20000 in
theorem ggX0_press_X0_stateAsNumber : GoodIn wsX0_press wsX0_stateAsNumber := goodIn_r _ [7, 8, 9, 10, 11, 12, 13, 14, 15, 6, 16, 171, 172, 173, 174, 175, 176, 177, 178, 179, 180, 181, 182] (by decide +kernel) (by decide +kernel)
set_option maxRecDepth 20000 in
theorem gX0_press_X0_stateAsNumber : GoodIn wsX0_press (wsV RX0 33 RX0 yX0_stateAsNumber wsX0_stateAsNumber) := goodIn_app (goodIn_of _ (by decide +kernel)) ggX0_press_X0_stateAsNumber
set_option maxRecDepth 20000 in
theorem ggX0_press_X0_stopFlashing : GoodIn wsX0_press wsX0_stopFlashing := goodIn_r _ [20, 21, 171, 172, 173, 174, 175, 176, 177, 178, 179, 180, 181, 182] (by decide +kernel) (by decide +kernel)
set_option maxRecDepth 20000 in
theorem gX0_press_X0_stopFlashing : GoodIn wsX0_press (wsV RX0 37 RX0 yX0_stopFlashing wsX0_stopFlashing) := goodIn_app (goodIn_of _ (by decide +kernel)) ggX0_press_X0_stopFlashing
set_option maxRecDepth 20000 in
theorem ggX0_press_X0_obey : GoodIn wsX0_press wsX0_obey := goodIn_r _ [25, 26, 27, 28, 6, 29, 30, 31, 32, 33, 34, 35, 36, 37, 38, 8, 39, 40, 41, 42, 43, 44, 45, 46, 21, 47, 48, 14, 15, 16, 49, 50, 51, 52, 9, 10, 11, 53, 54, 55, 56, 57, 58, 59, 60, 61, 62, 63, 64, 65, 66, 67, 68, 69, 70, 71, 72, 73, 74, 75, 76, 77, 78, 79, 80, 12, 81, 82, 83, 84, 85, 86, 87, 88, 89, 13, 90, 91, 92, 93, 94, 95, 96, 97, 17, 18, 19, 20, 171, 172, 173, 174, 175, 176, 177, 178, 179, 180, 181, 182] (by decide +kernel) (by decide +kernel)
set_option maxRecDepth 20000 in
theorem gX0_press_X0_obey : GoodIn wsX0_press (wsV RX0 40 RX0 yX0_obey wsX0_obey) := goodIn_app (goodIn_of _ (by decide +kernel)) ggX0_press_X0_obey
set_option maxRecDepth 20000 in
theorem ggX0_press_X0_settle : GoodIn wsX0_press wsX0_settle := goodIn_r _ [101, 102, 103, 104, 6, 105, 106, 107, 108, 109, 30, 13, 35, 36, 37, 38, 8, 94, 95, 96, 97, 43, 44, 45, 46, 21, 47, 48, 14, 15, 16, 49, 50, 51, 52, 9, 10, 11, 77, 78, 79, 80, 12, 81, 17, 18, 19, 20, 110, 111, 112, 113, 114, 57, 58, 59, 60, 115, 116, 117, 118, 119, 120, 121, 122, 123, 124, 125, 126, 127, 128, 129, 130, 131, 132, 133, 134, 135, 136, 137, 138, 139, 140, 141, 142, 143, 144, 145, 146, 147, 148, 149, 150, 151, 152, 153, 154, 155, 156, 157, 158, 159, 160, 161, 162, 163, 164, 165, 166, 167, 168, 169, 170, 171, 172, 173, 174, 175, 176, 177, 178, 179, 180, 181, 182] (by decide +kernel) (by decide +kernel)
set_option maxRecDepth 20000 in
theorem gX0_press_X0_settle : GoodIn wsX0_press (wsV RX0 44 RX0 yX0_settle wsX0_settle) := goodIn_app (goodIn_of _ (by decide +kernel)) ggX0_press_X0_settle
theorem dX0_press_0 : decode cX0_press 0 = .ok (.iload_n 1, 1) := by decide +kernel
theorem dX0_press_1 : decode cX0_press 1 = .ok (.ifCond .lt 9, 3) := by decide +kernel
theorem dX0_press_4 : decode cX0_press 4 = .ok (.iload_n 1, 1) := by decide +kernel
theorem dX0_press_5 : decode cX0_press 5 = .ok (.bipush 10, 2) := by decide +kernel
theorem dX0_press_7 : decode cX0_press 7 = .ok (.if_icmp .lt 13, 3) := by decide +kernel
theorem dX0_press_10 : decode cX0_press 10 = .ok (.new 26, 3) := by decide +kernel
theorem dX0_press_13 : decode cX0_press 13 = .ok (.dup, 1) := by decide +kernel
theorem dX0_press_14 : decode cX0_press 14 = .ok (.ldc 28, 2) := by decide +kernel
theorem dX0_press_16 : decode cX0_press 16 = .ok (.invokespecial 30, 3) := by decide +kernel
theorem dX0_press_19 : decode cX0_press 19 = .ok (.athrow, 1) := by decide +kernel
theorem dX0_press_20 : decode cX0_press 20 = .ok (.aload_n 0, 1) := by decide +kernel
theorem dX0_press_21 : decode cX0_press 21 = .ok (.invokevirtual 33, 3) := by decide +kernel
theorem dX0_press_24 : decode cX0_press 24 = .ok (.istore_n 2, 1) := by decide +kernel
theorem dX0_press_25 : decode cX0_press 25 = .ok (.aload_n 0, 1) := by decide +kernel
theorem dX0_press_26 : decode cX0_press 26 = .ok (.invokevirtual 37, 3) := by decide +kernel
theorem dX0_press_29 : decode cX0_press 29 = .ok (.aload_n 0, 1) := by decide +kernel
theorem dX0_press_30 : decode cX0_press 30 = .ok (.iload_n 1, 1) := by decide +kernel
theorem dX0_press_31 : decode cX0_press 31 = .ok (.invokevirtual 40, 3) := by decide +kernel
theorem dX0_press_34 : decode cX0_press 34 = .ok (.aload_n 0, 1) := by decide +kernel
theorem dX0_press_35 : decode cX0_press 35 = .ok (.invokevirtual 44, 3) := by decide +kernel
theorem dX0_press_38 : decode cX0_press 38 = .ok (.pop, 1) := by decide +kernel
theorem dX0_press_39 : decode cX0_press 39 = .ok (.aload_n 0, 1) := by decide +kernel
theorem dX0_press_40 : decode cX0_press 40 = .ok (.invokevirtual 33, 3) := by decide +kernel
theorem dX0_press_43 : decode cX0_press 43 = .ok (.iload_n 2, 1) := by decide +kernel
theorem dX0_press_44 : decode cX0_press 44 = .ok (.if_icmp .ne 7, 3) := by decide +kernel
theorem dX0_press_47 : decode cX0_press 47 = .ok (.iconst 0, 1) := by decide +kernel
theorem dX0_press_48 : decode cX0_press 48 = .ok (.goto 4, 3) := by decide +kernel
theorem dX0_press_51 : decode cX0_press 51 = .ok (.iconst 1, 1) := by decide +kernel
theorem dX0_press_52 : decode cX0_press 52 = .ok (.ireturn, 1) := by decide +kernel
set_option maxRecDepth 20000 in
theorem ggX0_sense_X0_isMeasure : GoodIn wsX0_sense wsX0_isMeasure := goodIn_r _ [9] (by decide +kernel) (by decide +kernel)
set_option maxRecDepth 20000 in
theorem gX0_sense_X0_isMeasure : GoodIn wsX0_sense (va_wsS RX0 47 yX0_isMeasure wsX0_isMeasure) := goodIn_app (goodIn_of _ (by decide +kernel)) ggX0_sense_X0_isMeasure
set_option maxRecDepth 20000 in
theorem ggX0_sense_X0_settle : GoodIn wsX0_sense wsX0_settle := goodIn_r _ [13, 14, 15, 16, 8, 17, 18, 19, 20, 21, 22, 23, 24, 25, 26, 27, 28, 29, 30, 31, 32, 33, 34, 35, 36, 37, 38, 39, 40, 41, 42, 43, 44, 45, 46, 47, 48, 49, 50, 51, 52, 53, 54, 55, 56, 57, 58, 59, 60, 61, 62, 63, 5, 64, 65, 66, 67, 68, 69, 70, 71, 72, 73, 74, 75, 76, 77, 78, 79, 80, 81, 82, 83, 84, 85, 86, 87, 88, 89, 90, 91, 92, 93, 94, 95, 96, 97, 98, 99, 100, 101, 102, 103, 104, 105, 106, 107, 108, 109, 110, 111, 112, 113, 114, 115, 116, 117, 118, 119, 120, 121, 122, 123, 124, 125, 126, 127, 128, 129, 130, 131, 132, 133, 134, 135] (by decide +kernel) (by decide +kernel)
set_option maxRecDepth 20000 in
theorem gX0_sense_X0_settle : GoodIn wsX0_sense (wsV RX0 44 RX0 yX0_settle wsX0_settle) := goodIn_app (goodIn_of _ (by decide +kernel)) ggX0_sense_X0_settle
theorem dX0_sense_0 : decode cX0_sense 0 = .ok (.iload_n 1, 1) := by decide +kernel
theorem dX0_sense_1 : decode cX0_sense 1 = .ok (.invokestatic 47, 3) := by decide +kernel
theorem dX0_sense_4 : decode cX0_sense 4 = .ok (.ifCond .ne 13, 3) := by decide +kernel
theorem dX0_sense_7 : decode cX0_sense 7 = .ok (.new 26, 3) := by decide +kernel
theorem dX0_sense_10 : decode cX0_sense 10 = .ok (.dup, 1) := by decide +kernel
theorem dX0_sense_11 : decode cX0_sense 11 = .ok (.ldc 51, 2) := by decide +kernel
theorem dX0_sense_13 : decode cX0_sense 13 = .ok (.invokespecial 30, 3) := by decide +kernel
theorem dX0_sense_16 : decode cX0_sense 16 = .ok (.athrow, 1) := by decide +kernel
theorem dX0_sense_17 : decode cX0_sense 17 = .ok (.iload_n 2, 1) := by decide +kernel
theorem dX0_sense_18 : decode cX0_sense 18 = .ok (.getstatic 53, 3) := by decide +kernel
theorem dX0_sense_21 : decode cX0_sense 21 = .ok (.iload_n 1, 1) := by decide +kernel
theorem dX0_sense_22 : decode cX0_sense 22 = .ok (.iaload, 1) := by decide +kernel
theorem dX0_sense_23 : decode cX0_sense 23 = .ok (.if_icmp .lt 12, 3) := by decide +kernel
theorem dX0_sense_26 : decode cX0_sense 26 = .ok (.iload_n 2, 1) := by decide +kernel
theorem dX0_sense_27 : decode cX0_sense 27 = .ok (.getstatic 56, 3) := by decide +kernel
theorem dX0_sense_30 : decode cX0_sense 30 = .ok (.iload_n 1, 1) := by decide +kernel
theorem dX0_sense_31 : decode cX0_sense 31 = .ok (.iaload, 1) := by decide +kernel
theorem dX0_sense_32 : decode cX0_sense 32 = .ok (.if_icmp .le 13, 3) := by decide +kernel
theorem dX0_sense_35 : decode cX0_sense 35 = .ok (.new 26, 3) := by decide +kernel
theorem dX0_sense_38 : decode cX0_sense 38 = .ok (.dup, 1) := by decide +kernel
theorem dX0_sense_39 : decode cX0_sense 39 = .ok (.ldc 59, 2) := by decide +kernel
theorem dX0_sense_41 : decode cX0_sense 41 = .ok (.invokespecial 30, 3) := by decide +kernel
theorem dX0_sense_44 : decode cX0_sense 44 = .ok (.athrow, 1) := by decide +kernel
theorem dX0_sense_45 : decode cX0_sense 45 = .ok (.aload_n 0, 1) := by decide +kernel
theorem dX0_sense_46 : decode cX0_sense 46 = .ok (.getfield 16, 3) := by decide +kernel
theorem dX0_sense_49 : decode cX0_sense 49 = .ok (.iload_n 1, 1) := by decide +kernel
theorem dX0_sense_50 : decode cX0_sense 50 = .ok (.iload_n 2, 1) := by decide +kernel
theorem dX0_sense_51 : decode cX0_sense 51 = .ok (.iastore, 1) := by decide +kernel
theorem dX0_sense_52 : decode cX0_sense 52 = .ok (.aload_n 0, 1) := by decide +kernel
theorem dX0_sense_53 : decode cX0_sense 53 = .ok (.invokevirtual 44, 3) := by decide +kernel
theorem dX0_sense_56 : decode cX0_sense 56 = .ok (.ireturn, 1) := by decide +kernel
set_option maxRecDepth 20000 in
theorem ggX0_channel_X0_settle : GoodIn wsX0_channel wsX0_settle := goodIn_r _ [8, 9, 10, 11, 7, 12, 13, 14, 15, 16, 3, 17, 18, 19, 20, 21, 22, 23, 24, 25, 26, 27, 28, 29, 30, 31, 32, 33, 34, 35, 36, 37, 38, 39, 40, 41, 42, 43, 44, 45, 46, 47, 48, 49, 50, 51, 52, 53, 54, 55, 56, 57, 58, 59, 60, 61, 62, 63, 64, 65, 66, 67, 68, 69, 70, 71, 72, 73, 74, 75, 76, 77, 78, 79, 80, 81, 82, 83, 84, 85, 86, 87, 88, 89, 90, 91, 92, 93, 94, 95, 96, 97, 98, 99, 100, 101, 102, 103, 104, 105, 106, 107, 108, 109, 110, 111, 112, 113, 114, 115, 116, 117, 118, 119, 120, 121, 122, 123, 124, 125, 126, 127, 128, 129, 130] (by decide +kernel) (by decide +kernel)
set_option maxRecDepth 20000 in
theorem gX0_channel_X0_settle : GoodIn wsX0_channel (wsV RX0 44 RX0 yX0_settle wsX0_settle) := goodIn_app (goodIn_of _ (by decide +kernel)) ggX0_channel_X0_settle
theorem dX0_channel_0 : decode cX0_channel 0 = .ok (.iload_n 1, 1) := by decide +kernel
theorem dX0_channel_1 : decode cX0_channel 1 = .ok (.ifCond .eq 18, 3) := by decide +kernel
theorem dX0_channel_4 : decode cX0_channel 4 = .ok (.iload_n 1, 1) := by decide +kernel
theorem dX0_channel_5 : decode cX0_channel 5 = .ok (.iconst 1, 1) := by decide +kernel
theorem dX0_channel_6 : decode cX0_channel 6 = .ok (.if_icmp .eq 13, 3) := by decide +kernel
theorem dX0_channel_9 : decode cX0_channel 9 = .ok (.new 26, 3) := by decide +kernel
theorem dX0_channel_12 : decode cX0_channel 12 = .ok (.dup, 1) := by decide +kernel
theorem dX0_channel_13 : decode cX0_channel 13 = .ok (.ldc 61, 2) := by decide +kernel
theorem dX0_channel_15 : decode cX0_channel 15 = .ok (.invokespecial 30, 3) := by decide +kernel
theorem dX0_channel_18 : decode cX0_channel 18 = .ok (.athrow, 1) := by decide +kernel
theorem dX0_channel_19 : decode cX0_channel 19 = .ok (.aload_n 0, 1) := by decide +kernel
theorem dX0_channel_20 : decode cX0_channel 20 = .ok (.getfield 19, 3) := by decide +kernel
theorem dX0_channel_23 : decode cX0_channel 23 = .ok (.iload_n 1, 1) := by decide +kernel
theorem dX0_channel_24 : decode cX0_channel 24 = .ok (.iload_n 2, 1) := by decide +kernel
theorem dX0_channel_25 : decode cX0_channel 25 = .ok (.bastore, 1) := by decide +kernel
theorem dX0_channel_26 : decode cX0_channel 26 = .ok (.aload_n 0, 1) := by decide +kernel
theorem dX0_channel_27 : decode cX0_channel 27 = .ok (.invokevirtual 44, 3) := by decide +kernel
theorem dX0_channel_30 : decode cX0_channel 30 = .ok (.ireturn, 1) := by decide +kernel
set_option maxRecDepth 20000 in
theorem ggX0_engage_X0_isAnyChannelSound : GoodIn wsX0_engage wsX0_isAnyChannelSound := goodIn_r _ [6, 7, 133, 134, 135, 136, 137, 138, 139, 140, 141, 142, 143, 144] (by decide +kernel) (by decide +kernel)
set_option maxRecDepth 20000 in
theorem gX0_engage_X0_isAnyChannelSound : GoodIn wsX0_engage (wsV RX0 67 RX0 yX0_isAnyChannelSound wsX0_isAnyChannelSound) := goodIn_app (goodIn_of _ (by decide +kernel)) ggX0_engage_X0_isAnyChannelSound
set_option maxRecDepth 20000 in
theorem ggX0_engage_X0_isAroundAnywhere : GoodIn wsX0_engage wsX0_isAroundAnywhere := goodIn_r _ [11, 12, 133, 134, 135, 136, 137, 138, 139, 140, 141, 142, 143, 144] (by decide +kernel) (by decide +kernel)
set_option maxRecDepth 20000 in
theorem gX0_engage_X0_isAroundAnywhere : GoodIn wsX0_engage (wsV RX0 71 RX0 yX0_isAroundAnywhere wsX0_isAroundAnywhere) := goodIn_app (goodIn_of _ (by decide +kernel)) ggX0_engage_X0_isAroundAnywhere
set_option maxRecDepth 20000 in
theorem ggX0_engage_X0_isTooFast : GoodIn wsX0_engage wsX0_isTooFast := goodIn_r _ [16, 17, 133, 134, 135, 136, 137, 138, 139, 140, 141, 142, 143, 144] (by decide +kernel) (by decide +kernel)
set_option maxRecDepth 20000 in
theorem gX0_engage_X0_isTooFast : GoodIn wsX0_engage (wsV RX0 74 RX0 yX0_isTooFast wsX0_isTooFast) := goodIn_app (goodIn_of _ (by decide +kernel)) ggX0_engage_X0_isTooFast
set_option maxRecDepth 20000 in
theorem ggX0_engage_X0_turnOnIfOff : GoodIn wsX0_engage wsX0_turnOnIfOff := goodIn_r _ [21, 22, 23, 24, 5, 25, 12, 26, 27, 28, 29, 30, 31, 32, 33, 34, 35, 36, 37, 38, 39, 40, 41, 42, 43, 44, 45, 46, 133, 134, 135, 136, 137, 138, 139, 140, 141, 142, 143, 144] (by decide +kernel) (by decide +kernel)
set_option maxRecDepth 20000 in
theorem gX0_engage_X0_turnOnIfOff : GoodIn wsX0_engage (wsV RX0 77 RX0 yX0_turnOnIfOff wsX0_turnOnIfOff) := goodIn_app (goodIn_of _ (by decide +kernel)) ggX0_engage_X0_turnOnIfOff
set_option maxRecDepth 20000 in
theorem ggX0_engage_X0_settle : GoodIn wsX0_engage wsX0_settle := goodIn_r _ [50, 51, 52, 53, 5, 54, 55, 56, 57, 58, 7, 59, 22, 23, 24, 25, 12, 60, 61, 62, 63, 30, 31, 32, 33, 34, 35, 36, 37, 38, 39, 40, 41, 42, 43, 44, 45, 46, 64, 65, 66, 67, 1, 68, 69, 70, 71, 72, 73, 74, 75, 76, 17, 77, 78, 79, 80, 81, 82, 83, 84, 85, 86, 87, 88, 89, 90, 91, 92, 93, 94, 95, 96, 97, 98, 99, 100, 101, 102, 103, 104, 105, 106, 107, 108, 109, 110, 111, 112, 113, 114, 115, 116, 117, 118, 119, 120, 121, 122, 123, 124, 125, 126, 127, 128, 129, 130, 131, 132, 13, 14, 15, 16, 133, 134, 135, 136, 137, 138, 139, 140, 141, 142, 143, 144] (by decide +kernel) (by decide +kernel)
set_option maxRecDepth 20000 in
theorem gX0_engage_X0_settle : GoodIn wsX0_engage (wsV RX0 44 RX0 yX0_settle wsX0_settle) := goodIn_app (goodIn_of _ (by decide +kernel)) ggX0_engage_X0_settle
theorem dX0_engage_0 : decode cX0_engage 0 = .ok (.aload_n 0, 1) := by decide +kernel
theorem dX0_engage_1 : decode cX0_engage 1 = .ok (.getfield 63, 3) := by decide +kernel
theorem dX0_engage_4 : decode cX0_engage 4 = .ok (.ifCond .ne 24, 3) := by decide +kernel
theorem dX0_engage_7 : decode cX0_engage 7 = .ok (.aload_n 0, 1) := by decide +kernel
theorem dX0_engage_8 : decode cX0_engage 8 = .ok (.invokevirtual 67, 3) := by decide +kernel
theorem dX0_engage_11 : decode cX0_engage 11 = .ok (.ifCond .eq 17, 3) := by decide +kernel
theorem dX0_engage_14 : decode cX0_engage 14 = .ok (.aload_n 0, 1) := by decide +kernel
theorem dX0_engage_15 : decode cX0_engage 15 = .ok (.invokevirtual 71, 3) := by decide +kernel
theorem dX0_engage_18 : decode cX0_engage 18 = .ok (.ifCond .ne 10, 3) := by decide +kernel
theorem dX0_engage_21 : decode cX0_engage 21 = .ok (.aload_n 0, 1) := by decide +kernel
theorem dX0_engage_22 : decode cX0_engage 22 = .ok (.invokevirtual 74, 3) := by decide +kernel
theorem dX0_engage_25 : decode cX0_engage 25 = .ok (.ifCond .eq 5, 3) := by decide +kernel
theorem dX0_engage_28 : decode cX0_engage 28 = .ok (.iconst 0, 1) := by decide +kernel
theorem dX0_engage_29 : decode cX0_engage 29 = .ok (.ireturn, 1) := by decide +kernel
theorem dX0_engage_30 : decode cX0_engage 30 = .ok (.aload_n 0, 1) := by decide +kernel
theorem dX0_engage_31 : decode cX0_engage 31 = .ok (.invokevirtual 77, 3) := by decide +kernel
theorem dX0_engage_34 : decode cX0_engage 34 = .ok (.aload_n 0, 1) := by decide +kernel
theorem dX0_engage_35 : decode cX0_engage 35 = .ok (.iconst 1, 1) := by decide +kernel
theorem dX0_engage_36 : decode cX0_engage 36 = .ok (.putfield 63, 3) := by decide +kernel
theorem dX0_engage_39 : decode cX0_engage 39 = .ok (.aload_n 0, 1) := by decide +kernel
theorem dX0_engage_40 : decode cX0_engage 40 = .ok (.invokevirtual 44, 3) := by decide +kernel
theorem dX0_engage_43 : decode cX0_engage 43 = .ok (.pop, 1) := by decide +kernel
theorem dX0_engage_44 : decode cX0_engage 44 = .ok (.iconst 1, 1) := by decide +kernel
theorem dX0_engage_45 : decode cX0_engage 45 = .ok (.ireturn, 1) := by decide +kernel
set_option maxRecDepth 20000 in
theorem ggX0_disconnect_X0_disengageWithWarning : GoodIn wsX0_disconnect wsX0_disengageWithWarning := goodIn_r _ [7, 1, 2, 8, 9, 10, 11, 12, 13, 14, 15, 16, 17, 18, 19] (by decide +kernel) (by decide +kernel)
set_option maxRecDepth 20000 in
theorem gX0_disconnect_X0_disengageWithWarning : GoodIn wsX0_disconnect (wsV RX0 80 RX0 yX0_disengageWithWarning wsX0_disengageWithWarning) := goodIn_app (goodIn_of _ (by decide +kernel)) ggX0_disconnect_X0_disengageWithWarning
theorem dX0_disconnect_0 : decode cX0_disconnect 0 = .ok (.aload_n 0, 1) := by decide +kernel
theorem dX0_disconnect_1 : decode cX0_disconnect 1 = .ok (.getfield 63, 3) := by decide +kernel
theorem dX0_disconnect_4 : decode cX0_disconnect 4 = .ok (.ifCond .eq 9, 3) := by decide +kernel
theorem dX0_disconnect_7 : decode cX0_disconnect 7 = .ok (.aload_n 0, 1) := by decide +kernel
theorem dX0_disconnect_8 : decode cX0_disconnect 8 = .ok (.invokevirtual 80, 3) := by decide +kernel
theorem dX0_disconnect_11 : decode cX0_disconnect 11 = .ok (.iconst 2, 1) := by decide +kernel
theorem dX0_disconnect_12 : decode cX0_disconnect 12 = .ok (.ireturn, 1) := by decide +kernel
theorem dX0_disconnect_13 : decode cX0_disconnect 13 = .ok (.aload_n 0, 1) := by decide +kernel
theorem dX0_disconnect_14 : decode cX0_disconnect 14 = .ok (.getfield 83, 3) := by decide +kernel
theorem dX0_disconnect_17 : decode cX0_disconnect 17 = .ok (.ifCond .eq 10, 3) := by decide +kernel
theorem dX0_disconnect_20 : decode cX0_disconnect 20 = .ok (.aload_n 0, 1) := by decide +kernel
theorem dX0_disconnect_21 : decode cX0_disconnect 21 = .ok (.iconst 0, 1) := by decide +kernel
theorem dX0_disconnect_22 : decode cX0_disconnect 22 = .ok (.putfield 83, 3) := by decide +kernel
theorem dX0_disconnect_25 : decode cX0_disconnect 25 = .ok (.iconst 1, 1) := by decide +kernel
theorem dX0_disconnect_26 : decode cX0_disconnect 26 = .ok (.ireturn, 1) := by decide +kernel
theorem dX0_disconnect_27 : decode cX0_disconnect 27 = .ok (.iconst 0, 1) := by decide +kernel
theorem dX0_disconnect_28 : decode cX0_disconnect 28 = .ok (.ireturn, 1) := by decide +kernel
theorem dX0_step_0 : decode cX0_step 0 = .ok (.iload_n 1, 1) := by decide +kernel
theorem dX0_step_1 : decode cX0_step 1 = .ok (.iconst 1, 1) := by decide +kernel
theorem dX0_step_2 : decode cX0_step 2 = .ok (.if_icmp .ge 13, 3) := by decide +kernel
theorem dX0_step_5 : decode cX0_step 5 = .ok (.new 26, 3) := by decide +kernel
theorem dX0_step_8 : decode cX0_step 8 = .ok (.dup, 1) := by decide +kernel
theorem dX0_step_9 : decode cX0_step 9 = .ok (.ldc 86, 2) := by decide +kernel
theorem dX0_step_11 : decode cX0_step 11 = .ok (.invokespecial 30, 3) := by decide +kernel
theorem dX0_step_14 : decode cX0_step 14 = .ok (.athrow, 1) := by decide +kernel
theorem dX0_step_15 : decode cX0_step 15 = .ok (.iconst 0, 1) := by decide +kernel
theorem dX0_step_16 : decode cX0_step 16 = .ok (.istore_n 2, 1) := by decide +kernel
theorem dX0_step_17 : decode cX0_step 17 = .ok (.iconst 0, 1) := by decide +kernel
theorem dX0_step_18 : decode cX0_step 18 = .ok (.istore_n 3, 1) := by decide +kernel
theorem dX0_step_19 : decode cX0_step 19 = .ok (.iload_n 3, 1) := by decide +kernel
theorem dX0_step_20 : decode cX0_step 20 = .ok (.iconst 1, 1) := by decide +kernel
theorem dX0_step_21 : decode cX0_step 21 = .ok (.if_icmp .gt 49, 3) := by decide +kernel
theorem dX0_step_24 : decode cX0_step 24 = .ok (.aload_n 0, 1) := by decide +kernel
theorem dX0_step_25 : decode cX0_step 25 = .ok (.getfield 13, 3) := by decide +kernel
theorem dX0_step_28 : decode cX0_step 28 = .ok (.iload_n 3, 1) := by decide +kernel
theorem dX0_step_29 : decode cX0_step 29 = .ok (.iload_n 1, 1) := by decide +kernel
theorem dX0_step_30 : decode cX0_step 30 = .ok (.aload_n 0, 1) := by decide +kernel
theorem dX0_step_31 : decode cX0_step 31 = .ok (.getfield 13, 3) := by decide +kernel
theorem dX0_step_34 : decode cX0_step 34 = .ok (.iload_n 3, 1) := by decide +kernel
theorem dX0_step_35 : decode cX0_step 35 = .ok (.iaload, 1) := by decide +kernel
theorem dX0_step_36 : decode cX0_step 36 = .ok (.if_icmp .lt 7, 3) := by decide +kernel
theorem dX0_step_39 : decode cX0_step 39 = .ok (.iconst 0, 1) := by decide +kernel
theorem dX0_step_40 : decode cX0_step 40 = .ok (.goto 11, 3) := by decide +kernel
theorem dX0_step_43 : decode cX0_step 43 = .ok (.aload_n 0, 1) := by decide +kernel
theorem dX0_step_44 : decode cX0_step 44 = .ok (.getfield 13, 3) := by decide +kernel
theorem dX0_step_47 : decode cX0_step 47 = .ok (.iload_n 3, 1) := by decide +kernel
theorem dX0_step_48 : decode cX0_step 48 = .ok (.iaload, 1) := by decide +kernel
theorem dX0_step_49 : decode cX0_step 49 = .ok (.iload_n 1, 1) := by decide +kernel
theorem dX0_step_50 : decode cX0_step 50 = .ok (.isub, 1) := by decide +kernel
theorem dX0_step_51 : decode cX0_step 51 = .ok (.iastore, 1) := by decide +kernel
theorem dX0_step_52 : decode cX0_step 52 = .ok (.aload_n 0, 1) := by decide +kernel
theorem dX0_step_53 : decode cX0_step 53 = .ok (.getfield 13, 3) := by decide +kernel
theorem dX0_step_56 : decode cX0_step 56 = .ok (.iload_n 3, 1) := by decide +kernel
theorem dX0_step_57 : decode cX0_step 57 = .ok (.iaload, 1) := by decide +kernel
theorem dX0_step_58 : decode cX0_step 58 = .ok (.ifCond .le 6, 3) := by decide +kernel
theorem dX0_step_61 : decode cX0_step 61 = .ok (.iinc 2 1, 3) := by decide +kernel
theorem dX0_step_64 : decode cX0_step 64 = .ok (.iinc 3 1, 3) := by decide +kernel
theorem dX0_step_67 : decode cX0_step 67 = .ok (.goto (-48), 3) := by decide +kernel
theorem dX0_step_70 : decode cX0_step 70 = .ok (.iload_n 2, 1) := by decide +kernel
theorem dX0_step_71 : decode cX0_step 71 = .ok (.ireturn, 1) := by decide +kernel
theorem dX0_mode_0 : decode cX0_mode 0 = .ok (.iload_n 1, 1) := by decide +kernel
theorem dX0_mode_1 : decode cX0_mode 1 = .ok (.ifCond .eq 18, 3) := by decide +kernel
theorem dX0_mode_4 : decode cX0_mode 4 = .ok (.iload_n 1, 1) := by decide +kernel
theorem dX0_mode_5 : decode cX0_mode 5 = .ok (.iconst 1, 1) := by decide +kernel
theorem dX0_mode_6 : decode cX0_mode 6 = .ok (.if_icmp .eq 13, 3) := by decide +kernel
theorem dX0_mode_9 : decode cX0_mode 9 = .ok (.new 26, 3) := by decide +kernel
theorem dX0_mode_12 : decode cX0_mode 12 = .ok (.dup, 1) := by decide +kernel
theorem dX0_mode_13 : decode cX0_mode 13 = .ok (.ldc 88, 2) := by decide +kernel
theorem dX0_mode_15 : decode cX0_mode 15 = .ok (.invokespecial 30, 3) := by decide +kernel
theorem dX0_mode_18 : decode cX0_mode 18 = .ok (.athrow, 1) := by decide +kernel
theorem dX0_mode_19 : decode cX0_mode 19 = .ok (.aload_n 0, 1) := by decide +kernel
theorem dX0_mode_20 : decode cX0_mode 20 = .ok (.getfield 7, 3) := by decide +kernel
theorem dX0_mode_23 : decode cX0_mode 23 = .ok (.iload_n 1, 1) := by decide +kernel
theorem dX0_mode_24 : decode cX0_mode 24 = .ok (.iaload, 1) := by decide +kernel
theorem dX0_mode_25 : decode cX0_mode 25 = .ok (.ireturn, 1) := by decide +kernel
set_option maxRecDepth 20000 in
theorem ggX0_armed_X0_isCaptureArmed : GoodIn wsX0_armed wsX0_isCaptureArmed := goodIn_r _ [10, 11, 12, 13, 14, 15, 16, 17, 18, 19, 20, 21, 22, 23] (by decide +kernel) (by decide +kernel)
set_option maxRecDepth 20000 in
theorem gX0_armed_X0_isCaptureArmed : GoodIn wsX0_armed (wsV RX0 99 RX0 yX0_isCaptureArmed wsX0_isCaptureArmed) := goodIn_app (goodIn_of _ (by decide +kernel)) ggX0_armed_X0_isCaptureArmed
theorem dX0_armed_0 : decode cX0_armed 0 = .ok (.iload_n 1, 1) := by decide +kernel
theorem dX0_armed_1 : decode cX0_armed 1 = .ok (.tableswitch 51 0 3 #[31, 36, 41, 46], 31) := by decide +kernel
theorem dX0_armed_32 : decode cX0_armed 32 = .ok (.aload_n 0, 1) := by decide +kernel
theorem dX0_armed_33 : decode cX0_armed 33 = .ok (.getfield 90, 3) := by decide +kernel
theorem dX0_armed_36 : decode cX0_armed 36 = .ok (.ireturn, 1) := by decide +kernel
theorem dX0_armed_37 : decode cX0_armed 37 = .ok (.aload_n 0, 1) := by decide +kernel
theorem dX0_armed_38 : decode cX0_armed 38 = .ok (.getfield 93, 3) := by decide +kernel
theorem dX0_armed_41 : decode cX0_armed 41 = .ok (.ireturn, 1) := by decide +kernel
theorem dX0_armed_42 : decode cX0_armed 42 = .ok (.aload_n 0, 1) := by decide +kernel
theorem dX0_armed_43 : decode cX0_armed 43 = .ok (.getfield 96, 3) := by decide +kernel
theorem dX0_armed_46 : decode cX0_armed 46 = .ok (.ireturn, 1) := by decide +kernel
theorem dX0_armed_47 : decode cX0_armed 47 = .ok (.aload_n 0, 1) := by decide +kernel
theorem dX0_armed_48 : decode cX0_armed 48 = .ok (.invokevirtual 99, 3) := by decide +kernel
theorem dX0_armed_51 : decode cX0_armed 51 = .ok (.ireturn, 1) := by decide +kernel
theorem dX0_armed_52 : decode cX0_armed 52 = .ok (.new 26, 3) := by decide +kernel
theorem dX0_armed_55 : decode cX0_armed 55 = .ok (.dup, 1) := by decide +kernel
theorem dX0_armed_56 : decode cX0_armed 56 = .ok (.ldc 102, 2) := by decide +kernel
theorem dX0_armed_58 : decode cX0_armed 58 = .ok (.invokespecial 30, 3) := by decide +kernel
theorem dX0_armed_61 : decode cX0_armed 61 = .ok (.athrow, 1) := by decide +kernel
set_option maxRecDepth 20000 in
theorem ggX0_shown_X0_isOn : GoodIn wsX0_shown wsX0_isOn := goodIn_r _ [9, 10, 14, 15, 16, 17, 18, 19, 20, 21, 22, 23, 24, 25] (by decide +kernel) (by decide +kernel)
set_option maxRecDepth 20000 in
theorem gX0_shown_X0_isOn : GoodIn wsX0_shown (wsV RX0 104 RX0 yX0_isOn wsX0_isOn) := goodIn_app (goodIn_of _ (by decide +kernel)) ggX0_shown_X0_isOn
set_option maxRecDepth 20000 in
theorem ggX0_shown_X0_bit : GoodIn wsX0_shown wsX0_bit := goodIn_r _ [13] (by decide +kernel) (by decide +kernel)
set_option maxRecDepth 20000 in
theorem gX0_shown_X0_bit : GoodIn wsX0_shown (va_wsS RX0 107 yX0_bit wsX0_bit) := goodIn_app (goodIn_of _ (by decide +kernel)) ggX0_shown_X0_bit
theorem dX0_shown_0 : decode cX0_shown 0 = .ok (.aload_n 0, 1) := by decide +kernel
theorem dX0_shown_1 : decode cX0_shown 1 = .ok (.invokevirtual 104, 3) := by decide +kernel
theorem dX0_shown_4 : decode cX0_shown 4 = .ok (.iconst 1, 1) := by decide +kernel
theorem dX0_shown_5 : decode cX0_shown 5 = .ok (.invokestatic 107, 3) := by decide +kernel
theorem dX0_shown_8 : decode cX0_shown 8 = .ok (.aload_n 0, 1) := by decide +kernel
theorem dX0_shown_9 : decode cX0_shown 9 = .ok (.getfield 63, 3) := by decide +kernel
theorem dX0_shown_12 : decode cX0_shown 12 = .ok (.iconst 2, 1) := by decide +kernel
theorem dX0_shown_13 : decode cX0_shown 13 = .ok (.invokestatic 107, 3) := by decide +kernel
theorem dX0_shown_16 : decode cX0_shown 16 = .ok (.ior, 1) := by decide +kernel
theorem dX0_shown_17 : decode cX0_shown 17 = .ok (.aload_n 0, 1) := by decide +kernel
theorem dX0_shown_18 : decode cX0_shown 18 = .ok (.getfield 83, 3) := by decide +kernel
theorem dX0_shown_21 : decode cX0_shown 21 = .ok (.iconst 4, 1) := by decide +kernel
theorem dX0_shown_22 : decode cX0_shown 22 = .ok (.invokestatic 107, 3) := by decide +kernel
theorem dX0_shown_25 : decode cX0_shown 25 = .ok (.ior, 1) := by decide +kernel
theorem dX0_shown_26 : decode cX0_shown 26 = .ok (.aload_n 0, 1) := by decide +kernel
theorem dX0_shown_27 : decode cX0_shown 27 = .ok (.getfield 13, 3) := by decide +kernel
theorem dX0_shown_30 : decode cX0_shown 30 = .ok (.iconst 0, 1) := by decide +kernel
theorem dX0_shown_31 : decode cX0_shown 31 = .ok (.iaload, 1) := by decide +kernel
theorem dX0_shown_32 : decode cX0_shown 32 = .ok (.ifCond .le 7, 3) := by decide +kernel
theorem dX0_shown_35 : decode cX0_shown 35 = .ok (.iconst 1, 1) := by decide +kernel
theorem dX0_shown_36 : decode cX0_shown 36 = .ok (.goto 4, 3) := by decide +kernel
theorem dX0_shown_39 : decode cX0_shown 39 = .ok (.iconst 0, 1) := by decide +kernel
theorem dX0_shown_40 : decode cX0_shown 40 = .ok (.bipush 8, 2) := by decide +kernel
theorem dX0_shown_42 : decode cX0_shown 42 = .ok (.invokestatic 107, 3) := by decide +kernel
theorem dX0_shown_45 : decode cX0_shown 45 = .ok (.ior, 1) := by decide +kernel
theorem dX0_shown_46 : decode cX0_shown 46 = .ok (.aload_n 0, 1) := by decide +kernel
theorem dX0_shown_47 : decode cX0_shown 47 = .ok (.getfield 13, 3) := by decide +kernel
theorem dX0_shown_50 : decode cX0_shown 50 = .ok (.iconst 1, 1) := by decide +kernel
theorem dX0_shown_51 : decode cX0_shown 51 = .ok (.iaload, 1) := by decide +kernel
theorem dX0_shown_52 : decode cX0_shown 52 = .ok (.ifCond .le 7, 3) := by decide +kernel
theorem dX0_shown_55 : decode cX0_shown 55 = .ok (.iconst 1, 1) := by decide +kernel
theorem dX0_shown_56 : decode cX0_shown 56 = .ok (.goto 4, 3) := by decide +kernel
theorem dX0_shown_59 : decode cX0_shown 59 = .ok (.iconst 0, 1) := by decide +kernel
theorem dX0_shown_60 : decode cX0_shown 60 = .ok (.bipush 16, 2) := by decide +kernel
theorem dX0_shown_62 : decode cX0_shown 62 = .ok (.invokestatic 107, 3) := by decide +kernel
theorem dX0_shown_65 : decode cX0_shown 65 = .ok (.ior, 1) := by decide +kernel
theorem dX0_shown_66 : decode cX0_shown 66 = .ok (.aload_n 0, 1) := by decide +kernel
theorem dX0_shown_67 : decode cX0_shown 67 = .ok (.getfield 111, 3) := by decide +kernel
theorem dX0_shown_70 : decode cX0_shown 70 = .ok (.iconst 1, 1) := by decide +kernel
theorem dX0_shown_71 : decode cX0_shown 71 = .ok (.if_icmp .ne 7, 3) := by decide +kernel
theorem dX0_shown_74 : decode cX0_shown 74 = .ok (.iconst 1, 1) := by decide +kernel
theorem dX0_shown_75 : decode cX0_shown 75 = .ok (.goto 4, 3) := by decide +kernel
theorem dX0_shown_78 : decode cX0_shown 78 = .ok (.iconst 0, 1) := by decide +kernel
theorem dX0_shown_79 : decode cX0_shown 79 = .ok (.bipush 32, 2) := by decide +kernel
theorem dX0_shown_81 : decode cX0_shown 81 = .ok (.invokestatic 107, 3) := by decide +kernel
theorem dX0_shown_84 : decode cX0_shown 84 = .ok (.ior, 1) := by decide +kernel
theorem dX0_shown_85 : decode cX0_shown 85 = .ok (.ireturn, 1) := by decide +kernel
theorem dX0_kept_0 : decode cX0_kept 0 = .ok (.iload_n 1, 1) := by decide +kernel
theorem dX0_kept_1 : decode cX0_kept 1 = .ok (.ifCond .lt 11, 3) := by decide +kernel
theorem dX0_kept_4 : decode cX0_kept 4 = .ok (.iload_n 1, 1) := by decide +kernel
theorem dX0_kept_5 : decode cX0_kept 5 = .ok (.aload_n 0, 1) := by decide +kernel
theorem dX0_kept_6 : decode cX0_kept 6 = .ok (.getfield 115, 3) := by decide +kernel
theorem dX0_kept_9 : decode cX0_kept 9 = .ok (.if_icmp .lt 5, 3) := by decide +kernel
theorem dX0_kept_12 : decode cX0_kept 12 = .ok (.iconst (-1), 1) := by decide +kernel
theorem dX0_kept_13 : decode cX0_kept 13 = .ok (.ireturn, 1) := by decide +kernel
theorem dX0_kept_14 : decode cX0_kept 14 = .ok (.aload_n 0, 1) := by decide +kernel
theorem dX0_kept_15 : decode cX0_kept 15 = .ok (.getfield 23, 3) := by decide +kernel
theorem dX0_kept_18 : decode cX0_kept 18 = .ok (.iload_n 1, 1) := by decide +kernel
theorem dX0_kept_19 : decode cX0_kept 19 = .ok (.iaload, 1) := by decide +kernel
theorem dX0_kept_20 : decode cX0_kept 20 = .ok (.istore_n 3, 1) := by decide +kernel
theorem dX0_kept_21 : decode cX0_kept 21 = .ok (.iload_n 2, 1) := by decide +kernel
theorem dX0_kept_22 : decode cX0_kept 22 = .ok (.tableswitch 55 0 3 #[30, 34, 41, 48], 30) := by decide +kernel
theorem dX0_kept_52 : decode cX0_kept 52 = .ok (.iload_n 3, 1) := by decide +kernel
theorem dX0_kept_53 : decode cX0_kept 53 = .ok (.iconst 1, 1) := by decide +kernel
theorem dX0_kept_54 : decode cX0_kept 54 = .ok (.iand, 1) := by decide +kernel
theorem dX0_kept_55 : decode cX0_kept 55 = .ok (.ireturn, 1) := by decide +kernel
theorem dX0_kept_56 : decode cX0_kept 56 = .ok (.iload_n 3, 1) := by decide +kernel
theorem dX0_kept_57 : decode cX0_kept 57 = .ok (.iconst 1, 1) := by decide +kernel
theorem dX0_kept_58 : decode cX0_kept 58 = .ok (.ishr, 1) := by decide +kernel
theorem dX0_kept_59 : decode cX0_kept 59 = .ok (.bipush 7, 2) := by decide +kernel
theorem dX0_kept_61 : decode cX0_kept 61 = .ok (.iand, 1) := by decide +kernel
theorem dX0_kept_62 : decode cX0_kept 62 = .ok (.ireturn, 1) := by decide +kernel
theorem dX0_kept_63 : decode cX0_kept 63 = .ok (.iload_n 3, 1) := by decide +kernel
theorem dX0_kept_64 : decode cX0_kept 64 = .ok (.iconst 4, 1) := by decide +kernel
theorem dX0_kept_65 : decode cX0_kept 65 = .ok (.ishr, 1) := by decide +kernel
theorem dX0_kept_66 : decode cX0_kept 66 = .ok (.bipush 7, 2) := by decide +kernel
theorem dX0_kept_68 : decode cX0_kept 68 = .ok (.iand, 1) := by decide +kernel
theorem dX0_kept_69 : decode cX0_kept 69 = .ok (.ireturn, 1) := by decide +kernel
theorem dX0_kept_70 : decode cX0_kept 70 = .ok (.iload_n 3, 1) := by decide +kernel
theorem dX0_kept_71 : decode cX0_kept 71 = .ok (.bipush 7, 2) := by decide +kernel
theorem dX0_kept_73 : decode cX0_kept 73 = .ok (.ishr, 1) := by decide +kernel
theorem dX0_kept_74 : decode cX0_kept 74 = .ok (.iconst 1, 1) := by decide +kernel
theorem dX0_kept_75 : decode cX0_kept 75 = .ok (.iand, 1) := by decide +kernel
theorem dX0_kept_76 : decode cX0_kept 76 = .ok (.ireturn, 1) := by decide +kernel
theorem dX0_kept_77 : decode cX0_kept 77 = .ok (.iconst (-1), 1) := by decide +kernel
theorem dX0_kept_78 : decode cX0_kept 78 = .ok (.ireturn, 1) := by decide +kernel
set_option maxRecDepth 20000 in
theorem ggX0_measure_X0_isMeasure : GoodIn wsX0_measure wsX0_isMeasure := goodIn_r _ [7] (by decide +kernel) (by decide +kernel)
set_option maxRecDepth 20000 in
theorem gX0_measure_X0_isMeasure : GoodIn wsX0_measure (va_wsS RX0 47 yX0_isMeasure wsX0_isMeasure) := goodIn_app (goodIn_of _ (by decide +kernel)) ggX0_measure_X0_isMeasure
theorem dX0_measure_0 : decode cX0_measure 0 = .ok (.iload_n 1, 1) := by decide +kernel
theorem dX0_measure_1 : decode cX0_measure 1 = .ok (.invokestatic 47, 3) := by decide +kernel
theorem dX0_measure_4 : decode cX0_measure 4 = .ok (.ifCond .ne 13, 3) := by decide +kernel
theorem dX0_measure_7 : decode cX0_measure 7 = .ok (.new 26, 3) := by decide +kernel
theorem dX0_measure_10 : decode cX0_measure 10 = .ok (.dup, 1) := by decide +kernel
theorem dX0_measure_11 : decode cX0_measure 11 = .ok (.ldc 51, 2) := by decide +kernel
theorem dX0_measure_13 : decode cX0_measure 13 = .ok (.invokespecial 30, 3) := by decide +kernel
theorem dX0_measure_16 : decode cX0_measure 16 = .ok (.athrow, 1) := by decide +kernel
theorem dX0_measure_17 : decode cX0_measure 17 = .ok (.aload_n 0, 1) := by decide +kernel
theorem dX0_measure_18 : decode cX0_measure 18 = .ok (.getfield 16, 3) := by decide +kernel
theorem dX0_measure_21 : decode cX0_measure 21 = .ok (.iload_n 1, 1) := by decide +kernel
theorem dX0_measure_22 : decode cX0_measure 22 = .ok (.iaload, 1) := by decide +kernel
theorem dX0_measure_23 : decode cX0_measure 23 = .ok (.ireturn, 1) := by decide +kernel
theorem dX0_isMeasure_0 : decode cX0_isMeasure 0 = .ok (.iload_n 0, 1) := by decide +kernel
theorem dX0_isMeasure_1 : decode cX0_isMeasure 1 = .ok (.ifCond .lt 13, 3) := by decide +kernel
theorem dX0_isMeasure_4 : decode cX0_isMeasure 4 = .ok (.iload_n 0, 1) := by decide +kernel
theorem dX0_isMeasure_5 : decode cX0_isMeasure 5 = .ok (.bipush 7, 2) := by decide +kernel
theorem dX0_isMeasure_7 : decode cX0_isMeasure 7 = .ok (.if_icmp .ge 7, 3) := by decide +kernel
theorem dX0_isMeasure_10 : decode cX0_isMeasure 10 = .ok (.iconst 1, 1) := by decide +kernel
theorem dX0_isMeasure_11 : decode cX0_isMeasure 11 = .ok (.goto 4, 3) := by decide +kernel
theorem dX0_isMeasure_14 : decode cX0_isMeasure 14 = .ok (.iconst 0, 1) := by decide +kernel
theorem dX0_isMeasure_15 : decode cX0_isMeasure 15 = .ok (.ireturn, 1) := by decide +kernel
theorem dX0_isOn_0 : decode cX0_isOn 0 = .ok (.aload_n 0, 1) := by decide +kernel
theorem dX0_isOn_1 : decode cX0_isOn 1 = .ok (.getfield 7, 3) := by decide +kernel
theorem dX0_isOn_4 : decode cX0_isOn 4 = .ok (.iconst 0, 1) := by decide +kernel
theorem dX0_isOn_5 : decode cX0_isOn 5 = .ok (.iaload, 1) := by decide +kernel
theorem dX0_isOn_6 : decode cX0_isOn 6 = .ok (.ifCond .eq 7, 3) := by decide +kernel
theorem dX0_isOn_9 : decode cX0_isOn 9 = .ok (.iconst 1, 1) := by decide +kernel
theorem dX0_isOn_10 : decode cX0_isOn 10 = .ok (.goto 4, 3) := by decide +kernel
theorem dX0_isOn_13 : decode cX0_isOn 13 = .ok (.iconst 0, 1) := by decide +kernel
theorem dX0_isOn_14 : decode cX0_isOn 14 = .ok (.ireturn, 1) := by decide +kernel
theorem dX0_isAnyChannelSound_0 : decode cX0_isAnyChannelSound 0 = .ok (.aload_n 0, 1) := by decide +kernel
theorem dX0_isAnyChannelSound_1 : decode cX0_isAnyChannelSound 1 = .ok (.getfield 19, 3) := by decide +kernel
theorem dX0_isAnyChannelSound_4 : decode cX0_isAnyChannelSound 4 = .ok (.iconst 0, 1) := by decide +kernel
theorem dX0_isAnyChannelSound_5 : decode cX0_isAnyChannelSound 5 = .ok (.baload, 1) := by decide +kernel
theorem dX0_isAnyChannelSound_6 : decode cX0_isAnyChannelSound 6 = .ok (.ifCond .ne 12, 3) := by decide +kernel
theorem dX0_isAnyChannelSound_9 : decode cX0_isAnyChannelSound 9 = .ok (.aload_n 0, 1) := by decide +kernel
theorem dX0_isAnyChannelSound_10 : decode cX0_isAnyChannelSound 10 = .ok (.getfield 19, 3) := by decide +kernel
theorem dX0_isAnyChannelSound_13 : decode cX0_isAnyChannelSound 13 = .ok (.iconst 1, 1) := by decide +kernel
theorem dX0_isAnyChannelSound_14 : decode cX0_isAnyChannelSound 14 = .ok (.baload, 1) := by decide +kernel
theorem dX0_isAnyChannelSound_15 : decode cX0_isAnyChannelSound 15 = .ok (.ifCond .eq 7, 3) := by decide +kernel
theorem dX0_isAnyChannelSound_18 : decode cX0_isAnyChannelSound 18 = .ok (.iconst 1, 1) := by decide +kernel
theorem dX0_isAnyChannelSound_19 : decode cX0_isAnyChannelSound 19 = .ok (.goto 4, 3) := by decide +kernel
theorem dX0_isAnyChannelSound_22 : decode cX0_isAnyChannelSound 22 = .ok (.iconst 0, 1) := by decide +kernel
theorem dX0_isAnyChannelSound_23 : decode cX0_isAnyChannelSound 23 = .ok (.ireturn, 1) := by decide +kernel
theorem dX0_isAroundAnywhere_0 : decode cX0_isAroundAnywhere 0 = .ok (.aload_n 0, 1) := by decide +kernel
theorem dX0_isAroundAnywhere_1 : decode cX0_isAroundAnywhere 1 = .ok (.getfield 7, 3) := by decide +kernel
theorem dX0_isAroundAnywhere_4 : decode cX0_isAroundAnywhere 4 = .ok (.iconst 0, 1) := by decide +kernel
theorem dX0_isAroundAnywhere_5 : decode cX0_isAroundAnywhere 5 = .ok (.iaload, 1) := by decide +kernel
theorem dX0_isAroundAnywhere_6 : decode cX0_isAroundAnywhere 6 = .ok (.iconst 5, 1) := by decide +kernel
theorem dX0_isAroundAnywhere_7 : decode cX0_isAroundAnywhere 7 = .ok (.if_icmp .eq 14, 3) := by decide +kernel
theorem dX0_isAroundAnywhere_10 : decode cX0_isAroundAnywhere 10 = .ok (.aload_n 0, 1) := by decide +kernel
theorem dX0_isAroundAnywhere_11 : decode cX0_isAroundAnywhere 11 = .ok (.getfield 7, 3) := by decide +kernel
theorem dX0_isAroundAnywhere_14 : decode cX0_isAroundAnywhere 14 = .ok (.iconst 1, 1) := by decide +kernel
theorem dX0_isAroundAnywhere_15 : decode cX0_isAroundAnywhere 15 = .ok (.iaload, 1) := by decide +kernel
theorem dX0_isAroundAnywhere_16 : decode cX0_isAroundAnywhere 16 = .ok (.bipush 7, 2) := by decide +kernel
theorem dX0_isAroundAnywhere_18 : decode cX0_isAroundAnywhere 18 = .ok (.if_icmp .ne 7, 3) := by decide +kernel
theorem dX0_isAroundAnywhere_21 : decode cX0_isAroundAnywhere 21 = .ok (.iconst 1, 1) := by decide +kernel
theorem dX0_isAroundAnywhere_22 : decode cX0_isAroundAnywhere 22 = .ok (.goto 4, 3) := by decide +kernel
theorem dX0_isAroundAnywhere_25 : decode cX0_isAroundAnywhere 25 = .ok (.iconst 0, 1) := by decide +kernel
theorem dX0_isAroundAnywhere_26 : decode cX0_isAroundAnywhere 26 = .ok (.ireturn, 1) := by decide +kernel
theorem dX0_isTooFast_0 : decode cX0_isTooFast 0 = .ok (.aload_n 0, 1) := by decide +kernel
theorem dX0_isTooFast_1 : decode cX0_isTooFast 1 = .ok (.getfield 16, 3) := by decide +kernel
theorem dX0_isTooFast_4 : decode cX0_isTooFast 4 = .ok (.iconst 4, 1) := by decide +kernel
theorem dX0_isTooFast_5 : decode cX0_isTooFast 5 = .ok (.iaload, 1) := by decide +kernel
theorem dX0_isTooFast_6 : decode cX0_isTooFast 6 = .ok (.sipush 400, 3) := by decide +kernel
theorem dX0_isTooFast_9 : decode cX0_isTooFast 9 = .ok (.if_icmp .le 7, 3) := by decide +kernel
theorem dX0_isTooFast_12 : decode cX0_isTooFast 12 = .ok (.iconst 1, 1) := by decide +kernel
theorem dX0_isTooFast_13 : decode cX0_isTooFast 13 = .ok (.goto 4, 3) := by decide +kernel
theorem dX0_isTooFast_16 : decode cX0_isTooFast 16 = .ok (.iconst 0, 1) := by decide +kernel
theorem dX0_isTooFast_17 : decode cX0_isTooFast 17 = .ok (.ireturn, 1) := by decide +kernel
theorem dX0_isCaptureArmed_0 : decode cX0_isCaptureArmed 0 = .ok (.aload_n 0, 1) := by decide +kernel
theorem dX0_isCaptureArmed_1 : decode cX0_isCaptureArmed 1 = .ok (.getfield 7, 3) := by decide +kernel
theorem dX0_isCaptureArmed_4 : decode cX0_isCaptureArmed 4 = .ok (.iconst 1, 1) := by decide +kernel
theorem dX0_isCaptureArmed_5 : decode cX0_isCaptureArmed 5 = .ok (.iaload, 1) := by decide +kernel
theorem dX0_isCaptureArmed_6 : decode cX0_isCaptureArmed 6 = .ok (.istore_n 1, 1) := by decide +kernel
theorem dX0_isCaptureArmed_7 : decode cX0_isCaptureArmed 7 = .ok (.iload_n 1, 1) := by decide +kernel
theorem dX0_isCaptureArmed_8 : decode cX0_isCaptureArmed 8 = .ok (.iconst 1, 1) := by decide +kernel
theorem dX0_isCaptureArmed_9 : decode cX0_isCaptureArmed 9 = .ok (.if_icmp .eq 13, 3) := by decide +kernel
theorem dX0_isCaptureArmed_12 : decode cX0_isCaptureArmed 12 = .ok (.iload_n 1, 1) := by decide +kernel
theorem dX0_isCaptureArmed_13 : decode cX0_isCaptureArmed 13 = .ok (.iconst 2, 1) := by decide +kernel
theorem dX0_isCaptureArmed_14 : decode cX0_isCaptureArmed 14 = .ok (.if_icmp .eq 8, 3) := by decide +kernel
theorem dX0_isCaptureArmed_17 : decode cX0_isCaptureArmed 17 = .ok (.iload_n 1, 1) := by decide +kernel
theorem dX0_isCaptureArmed_18 : decode cX0_isCaptureArmed 18 = .ok (.iconst 3, 1) := by decide +kernel
theorem dX0_isCaptureArmed_19 : decode cX0_isCaptureArmed 19 = .ok (.if_icmp .ne 7, 3) := by decide +kernel
theorem dX0_isCaptureArmed_22 : decode cX0_isCaptureArmed 22 = .ok (.iconst 1, 1) := by decide +kernel
theorem dX0_isCaptureArmed_23 : decode cX0_isCaptureArmed 23 = .ok (.goto 4, 3) := by decide +kernel
theorem dX0_isCaptureArmed_26 : decode cX0_isCaptureArmed 26 = .ok (.iconst 0, 1) := by decide +kernel
theorem dX0_isCaptureArmed_27 : decode cX0_isCaptureArmed 27 = .ok (.ireturn, 1) := by decide +kernel
theorem dX0_isCourseWithin_0 : decode cX0_isCourseWithin 0 = .ok (.aload_n 0, 1) := by decide +kernel
theorem dX0_isCourseWithin_1 : decode cX0_isCourseWithin 1 = .ok (.getfield 16, 3) := by decide +kernel
theorem dX0_isCourseWithin_4 : decode cX0_isCourseWithin 4 = .ok (.iconst 5, 1) := by decide +kernel
theorem dX0_isCourseWithin_5 : decode cX0_isCourseWithin 5 = .ok (.iaload, 1) := by decide +kernel
theorem dX0_isCourseWithin_6 : decode cX0_isCourseWithin 6 = .ok (.iconst 1, 1) := by decide +kernel
theorem dX0_isCourseWithin_7 : decode cX0_isCourseWithin 7 = .ok (.if_icmp .ne 20, 3) := by decide +kernel
theorem dX0_isCourseWithin_10 : decode cX0_isCourseWithin 10 = .ok (.aload_n 0, 1) := by decide +kernel
theorem dX0_isCourseWithin_11 : decode cX0_isCourseWithin 11 = .ok (.getfield 16, 3) := by decide +kernel
theorem dX0_isCourseWithin_14 : decode cX0_isCourseWithin 14 = .ok (.iconst 0, 1) := by decide +kernel
theorem dX0_isCourseWithin_15 : decode cX0_isCourseWithin 15 = .ok (.iaload, 1) := by decide +kernel
theorem dX0_isCourseWithin_16 : decode cX0_isCourseWithin 16 = .ok (.invokestatic 118, 3) := by decide +kernel
theorem dX0_isCourseWithin_19 : decode cX0_isCourseWithin 19 = .ok (.iload_n 1, 1) := by decide +kernel
theorem dX0_isCourseWithin_20 : decode cX0_isCourseWithin 20 = .ok (.if_icmp .gt 7, 3) := by decide +kernel
theorem dX0_isCourseWithin_23 : decode cX0_isCourseWithin 23 = .ok (.iconst 1, 1) := by decide +kernel
theorem dX0_isCourseWithin_24 : decode cX0_isCourseWithin 24 = .ok (.goto 4, 3) := by decide +kernel
theorem dX0_isCourseWithin_27 : decode cX0_isCourseWithin 27 = .ok (.iconst 0, 1) := by decide +kernel
theorem dX0_isCourseWithin_28 : decode cX0_isCourseWithin 28 = .ok (.ireturn, 1) := by decide +kernel
theorem dX0_isPathWithin_0 : decode cX0_isPathWithin 0 = .ok (.aload_n 0, 1) := by decide +kernel
theorem dX0_isPathWithin_1 : decode cX0_isPathWithin 1 = .ok (.getfield 16, 3) := by decide +kernel
theorem dX0_isPathWithin_4 : decode cX0_isPathWithin 4 = .ok (.bipush 6, 2) := by decide +kernel
theorem dX0_isPathWithin_6 : decode cX0_isPathWithin 6 = .ok (.iaload, 1) := by decide +kernel
theorem dX0_isPathWithin_7 : decode cX0_isPathWithin 7 = .ok (.iconst 1, 1) := by decide +kernel
theorem dX0_isPathWithin_8 : decode cX0_isPathWithin 8 = .ok (.if_icmp .ne 20, 3) := by decide +kernel
theorem dX0_isPathWithin_11 : decode cX0_isPathWithin 11 = .ok (.aload_n 0, 1) := by decide +kernel
theorem dX0_isPathWithin_12 : decode cX0_isPathWithin 12 = .ok (.getfield 16, 3) := by decide +kernel
theorem dX0_isPathWithin_15 : decode cX0_isPathWithin 15 = .ok (.iconst 1, 1) := by decide +kernel
theorem dX0_isPathWithin_16 : decode cX0_isPathWithin 16 = .ok (.iaload, 1) := by decide +kernel
theorem dX0_isPathWithin_17 : decode cX0_isPathWithin 17 = .ok (.invokestatic 118, 3) := by decide +kernel
theorem dX0_isPathWithin_20 : decode cX0_isPathWithin 20 = .ok (.iload_n 1, 1) := by decide +kernel
theorem dX0_isPathWithin_21 : decode cX0_isPathWithin 21 = .ok (.if_icmp .gt 7, 3) := by decide +kernel
theorem dX0_isPathWithin_24 : decode cX0_isPathWithin 24 = .ok (.iconst 1, 1) := by decide +kernel
theorem dX0_isPathWithin_25 : decode cX0_isPathWithin 25 = .ok (.goto 4, 3) := by decide +kernel
theorem dX0_isPathWithin_28 : decode cX0_isPathWithin 28 = .ok (.iconst 0, 1) := by decide +kernel
theorem dX0_isPathWithin_29 : decode cX0_isPathWithin 29 = .ok (.ireturn, 1) := by decide +kernel
theorem dX0_isHeightWithin_0 : decode cX0_isHeightWithin 0 = .ok (.aload_n 0, 1) := by decide +kernel
theorem dX0_isHeightWithin_1 : decode cX0_isHeightWithin 1 = .ok (.getfield 16, 3) := by decide +kernel
theorem dX0_isHeightWithin_4 : decode cX0_isHeightWithin 4 = .ok (.iconst 2, 1) := by decide +kernel
theorem dX0_isHeightWithin_5 : decode cX0_isHeightWithin 5 = .ok (.iaload, 1) := by decide +kernel
theorem dX0_isHeightWithin_6 : decode cX0_isHeightWithin 6 = .ok (.aload_n 0, 1) := by decide +kernel
theorem dX0_isHeightWithin_7 : decode cX0_isHeightWithin 7 = .ok (.getfield 16, 3) := by decide +kernel
theorem dX0_isHeightWithin_10 : decode cX0_isHeightWithin 10 = .ok (.iconst 3, 1) := by decide +kernel
theorem dX0_isHeightWithin_11 : decode cX0_isHeightWithin 11 = .ok (.iaload, 1) := by decide +kernel
theorem dX0_isHeightWithin_12 : decode cX0_isHeightWithin 12 = .ok (.isub, 1) := by decide +kernel
theorem dX0_isHeightWithin_13 : decode cX0_isHeightWithin 13 = .ok (.invokestatic 118, 3) := by decide +kernel
theorem dX0_isHeightWithin_16 : decode cX0_isHeightWithin 16 = .ok (.iload_n 1, 1) := by decide +kernel
theorem dX0_isHeightWithin_17 : decode cX0_isHeightWithin 17 = .ok (.if_icmp .gt 7, 3) := by decide +kernel
theorem dX0_isHeightWithin_20 : decode cX0_isHeightWithin 20 = .ok (.iconst 1, 1) := by decide +kernel
theorem dX0_isHeightWithin_21 : decode cX0_isHeightWithin 21 = .ok (.goto 4, 3) := by decide +kernel
theorem dX0_isHeightWithin_24 : decode cX0_isHeightWithin 24 = .ok (.iconst 0, 1) := by decide +kernel
theorem dX0_isHeightWithin_25 : decode cX0_isHeightWithin 25 = .ok (.ireturn, 1) := by decide +kernel
theorem dX0_bit_0 : decode cX0_bit 0 = .ok (.iload_n 0, 1) := by decide +kernel
theorem dX0_bit_1 : decode cX0_bit 1 = .ok (.ifCond .eq 7, 3) := by decide +kernel
theorem dX0_bit_4 : decode cX0_bit 4 = .ok (.iload_n 1, 1) := by decide +kernel
theorem dX0_bit_5 : decode cX0_bit 5 = .ok (.goto 4, 3) := by decide +kernel
theorem dX0_bit_8 : decode cX0_bit 8 = .ok (.iconst 0, 1) := by decide +kernel
theorem dX0_bit_9 : decode cX0_bit 9 = .ok (.ireturn, 1) := by decide +kernel
set_option maxRecDepth 20000 in
theorem ggX0_stateAsNumber_X0_bit : GoodIn wsX0_stateAsNumber wsX0_bit := goodIn_r _ [10] (by decide +kernel) (by decide +kernel)
set_option maxRecDepth 20000 in
theorem gX0_stateAsNumber_X0_bit : GoodIn wsX0_stateAsNumber (va_wsS RX0 107 yX0_bit wsX0_bit) := goodIn_app (goodIn_of _ (by decide +kernel)) ggX0_stateAsNumber_X0_bit
theorem dX0_stateAsNumber_0 : decode cX0_stateAsNumber 0 = .ok (.aload_n 0, 1) := by decide +kernel
theorem dX0_stateAsNumber_1 : decode cX0_stateAsNumber 1 = .ok (.getfield 7, 3) := by decide +kernel
theorem dX0_stateAsNumber_4 : decode cX0_stateAsNumber 4 = .ok (.iconst 0, 1) := by decide +kernel
theorem dX0_stateAsNumber_5 : decode cX0_stateAsNumber 5 = .ok (.iaload, 1) := by decide +kernel
theorem dX0_stateAsNumber_6 : decode cX0_stateAsNumber 6 = .ok (.aload_n 0, 1) := by decide +kernel
theorem dX0_stateAsNumber_7 : decode cX0_stateAsNumber 7 = .ok (.getfield 7, 3) := by decide +kernel
theorem dX0_stateAsNumber_10 : decode cX0_stateAsNumber 10 = .ok (.iconst 1, 1) := by decide +kernel
theorem dX0_stateAsNumber_11 : decode cX0_stateAsNumber 11 = .ok (.iaload, 1) := by decide +kernel
theorem dX0_stateAsNumber_12 : decode cX0_stateAsNumber 12 = .ok (.iconst 3, 1) := by decide +kernel
theorem dX0_stateAsNumber_13 : decode cX0_stateAsNumber 13 = .ok (.ishl, 1) := by decide +kernel
theorem dX0_stateAsNumber_14 : decode cX0_stateAsNumber 14 = .ok (.ior, 1) := by decide +kernel
theorem dX0_stateAsNumber_15 : decode cX0_stateAsNumber 15 = .ok (.aload_n 0, 1) := by decide +kernel
theorem dX0_stateAsNumber_16 : decode cX0_stateAsNumber 16 = .ok (.getfield 90, 3) := by decide +kernel
theorem dX0_stateAsNumber_19 : decode cX0_stateAsNumber 19 = .ok (.bipush 64, 2) := by decide +kernel
theorem dX0_stateAsNumber_21 : decode cX0_stateAsNumber 21 = .ok (.invokestatic 107, 3) := by decide +kernel
theorem dX0_stateAsNumber_24 : decode cX0_stateAsNumber 24 = .ok (.ior, 1) := by decide +kernel
theorem dX0_stateAsNumber_25 : decode cX0_stateAsNumber 25 = .ok (.aload_n 0, 1) := by decide +kernel
theorem dX0_stateAsNumber_26 : decode cX0_stateAsNumber 26 = .ok (.getfield 93, 3) := by decide +kernel
theorem dX0_stateAsNumber_29 : decode cX0_stateAsNumber 29 = .ok (.sipush 128, 3) := by decide +kernel
theorem dX0_stateAsNumber_32 : decode cX0_stateAsNumber 32 = .ok (.invokestatic 107, 3) := by decide +kernel
theorem dX0_stateAsNumber_35 : decode cX0_stateAsNumber 35 = .ok (.ior, 1) := by decide +kernel
theorem dX0_stateAsNumber_36 : decode cX0_stateAsNumber 36 = .ok (.aload_n 0, 1) := by decide +kernel
theorem dX0_stateAsNumber_37 : decode cX0_stateAsNumber 37 = .ok (.getfield 96, 3) := by decide +kernel
theorem dX0_stateAsNumber_40 : decode cX0_stateAsNumber 40 = .ok (.sipush 256, 3) := by decide +kernel
theorem dX0_stateAsNumber_43 : decode cX0_stateAsNumber 43 = .ok (.invokestatic 107, 3) := by decide +kernel
theorem dX0_stateAsNumber_46 : decode cX0_stateAsNumber 46 = .ok (.ior, 1) := by decide +kernel
theorem dX0_stateAsNumber_47 : decode cX0_stateAsNumber 47 = .ok (.aload_n 0, 1) := by decide +kernel
theorem dX0_stateAsNumber_48 : decode cX0_stateAsNumber 48 = .ok (.getfield 63, 3) := by decide +kernel
theorem dX0_stateAsNumber_51 : decode cX0_stateAsNumber 51 = .ok (.sipush 512, 3) := by decide +kernel
theorem dX0_stateAsNumber_54 : decode cX0_stateAsNumber 54 = .ok (.invokestatic 107, 3) := by decide +kernel
theorem dX0_stateAsNumber_57 : decode cX0_stateAsNumber 57 = .ok (.ior, 1) := by decide +kernel
theorem dX0_stateAsNumber_58 : decode cX0_stateAsNumber 58 = .ok (.aload_n 0, 1) := by decide +kernel
theorem dX0_stateAsNumber_59 : decode cX0_stateAsNumber 59 = .ok (.getfield 111, 3) := by decide +kernel
theorem dX0_stateAsNumber_62 : decode cX0_stateAsNumber 62 = .ok (.iconst 1, 1) := by decide +kernel
theorem dX0_stateAsNumber_63 : decode cX0_stateAsNumber 63 = .ok (.if_icmp .ne 7, 3) := by decide +kernel
theorem dX0_stateAsNumber_66 : decode cX0_stateAsNumber 66 = .ok (.iconst 1, 1) := by decide +kernel
theorem dX0_stateAsNumber_67 : decode cX0_stateAsNumber 67 = .ok (.goto 4, 3) := by decide +kernel
theorem dX0_stateAsNumber_70 : decode cX0_stateAsNumber 70 = .ok (.iconst 0, 1) := by decide +kernel
theorem dX0_stateAsNumber_71 : decode cX0_stateAsNumber 71 = .ok (.sipush 1024, 3) := by decide +kernel
theorem dX0_stateAsNumber_74 : decode cX0_stateAsNumber 74 = .ok (.invokestatic 107, 3) := by decide +kernel
theorem dX0_stateAsNumber_77 : decode cX0_stateAsNumber 77 = .ok (.ior, 1) := by decide +kernel
theorem dX0_stateAsNumber_78 : decode cX0_stateAsNumber 78 = .ok (.ireturn, 1) := by decide +kernel
set_option maxRecDepth 20000 in
theorem ggX0_change_X0_bit : GoodIn wsX0_change wsX0_bit := goodIn_r _ [8] (by decide +kernel) (by decide +kernel)
set_option maxRecDepth 20000 in
theorem gX0_change_X0_bit : GoodIn wsX0_change (va_wsS RX0 107 yX0_bit wsX0_bit) := goodIn_app (goodIn_of _ (by decide +kernel)) ggX0_change_X0_bit
theorem dX0_change_0 : decode cX0_change 0 = .ok (.aload_n 0, 1) := by decide +kernel
theorem dX0_change_1 : decode cX0_change 1 = .ok (.getfield 7, 3) := by decide +kernel
theorem dX0_change_4 : decode cX0_change 4 = .ok (.iload_n 1, 1) := by decide +kernel
theorem dX0_change_5 : decode cX0_change 5 = .ok (.iaload, 1) := by decide +kernel
theorem dX0_change_6 : decode cX0_change 6 = .ok (.istore 4, 2) := by decide +kernel
theorem dX0_change_8 : decode cX0_change 8 = .ok (.iload 4, 2) := by decide +kernel
theorem dX0_change_10 : decode cX0_change 10 = .ok (.iload_n 2, 1) := by decide +kernel
theorem dX0_change_11 : decode cX0_change 11 = .ok (.if_icmp .ne 4, 3) := by decide +kernel
theorem dX0_change_14 : decode cX0_change 14 = .ok (.return_, 1) := by decide +kernel
theorem dX0_change_15 : decode cX0_change 15 = .ok (.aload_n 0, 1) := by decide +kernel
theorem dX0_change_16 : decode cX0_change 16 = .ok (.getfield 7, 3) := by decide +kernel
theorem dX0_change_19 : decode cX0_change 19 = .ok (.iload_n 1, 1) := by decide +kernel
theorem dX0_change_20 : decode cX0_change 20 = .ok (.iload_n 2, 1) := by decide +kernel
theorem dX0_change_21 : decode cX0_change 21 = .ok (.iastore, 1) := by decide +kernel
theorem dX0_change_22 : decode cX0_change 22 = .ok (.iload_n 3, 1) := by decide +kernel
theorem dX0_change_23 : decode cX0_change 23 = .ok (.ifCond .eq 11, 3) := by decide +kernel
theorem dX0_change_26 : decode cX0_change 26 = .ok (.aload_n 0, 1) := by decide +kernel
theorem dX0_change_27 : decode cX0_change 27 = .ok (.getfield 13, 3) := by decide +kernel
theorem dX0_change_30 : decode cX0_change 30 = .ok (.iload_n 1, 1) := by decide +kernel
theorem dX0_change_31 : decode cX0_change 31 = .ok (.bipush 10, 2) := by decide +kernel
theorem dX0_change_33 : decode cX0_change 33 = .ok (.iastore, 1) := by decide +kernel
theorem dX0_change_34 : decode cX0_change 34 = .ok (.aload_n 0, 1) := by decide +kernel
theorem dX0_change_35 : decode cX0_change 35 = .ok (.getfield 115, 3) := by decide +kernel
theorem dX0_change_38 : decode cX0_change 38 = .ok (.sipush 300, 3) := by decide +kernel
theorem dX0_change_41 : decode cX0_change 41 = .ok (.if_icmp .ge 40, 3) := by decide +kernel
theorem dX0_change_44 : decode cX0_change 44 = .ok (.aload_n 0, 1) := by decide +kernel
theorem dX0_change_45 : decode cX0_change 45 = .ok (.getfield 23, 3) := by decide +kernel
theorem dX0_change_48 : decode cX0_change 48 = .ok (.aload_n 0, 1) := by decide +kernel
theorem dX0_change_49 : decode cX0_change 49 = .ok (.getfield 115, 3) := by decide +kernel
theorem dX0_change_52 : decode cX0_change 52 = .ok (.iload_n 1, 1) := by decide +kernel
theorem dX0_change_53 : decode cX0_change 53 = .ok (.iload 4, 2) := by decide +kernel
theorem dX0_change_55 : decode cX0_change 55 = .ok (.iconst 1, 1) := by decide +kernel
theorem dX0_change_56 : decode cX0_change 56 = .ok (.ishl, 1) := by decide +kernel
theorem dX0_change_57 : decode cX0_change 57 = .ok (.ior, 1) := by decide +kernel
theorem dX0_change_58 : decode cX0_change 58 = .ok (.iload_n 2, 1) := by decide +kernel
theorem dX0_change_59 : decode cX0_change 59 = .ok (.iconst 4, 1) := by decide +kernel
theorem dX0_change_60 : decode cX0_change 60 = .ok (.ishl, 1) := by decide +kernel
theorem dX0_change_61 : decode cX0_change 61 = .ok (.ior, 1) := by decide +kernel
theorem dX0_change_62 : decode cX0_change 62 = .ok (.iload_n 3, 1) := by decide +kernel
theorem dX0_change_63 : decode cX0_change 63 = .ok (.sipush 128, 3) := by decide +kernel
theorem dX0_change_66 : decode cX0_change 66 = .ok (.invokestatic 107, 3) := by decide +kernel
theorem dX0_change_69 : decode cX0_change 69 = .ok (.ior, 1) := by decide +kernel
theorem dX0_change_70 : decode cX0_change 70 = .ok (.iastore, 1) := by decide +kernel
theorem dX0_change_71 : decode cX0_change 71 = .ok (.aload_n 0, 1) := by decide +kernel
theorem dX0_change_72 : decode cX0_change 72 = .ok (.dup, 1) := by decide +kernel
theorem dX0_change_73 : decode cX0_change 73 = .ok (.getfield 115, 3) := by decide +kernel
theorem dX0_change_76 : decode cX0_change 76 = .ok (.iconst 1, 1) := by decide +kernel
theorem dX0_change_77 : decode cX0_change 77 = .ok (.iadd, 1) := by decide +kernel
theorem dX0_change_78 : decode cX0_change 78 = .ok (.putfield 115, 3) := by decide +kernel
theorem dX0_change_81 : decode cX0_change 81 = .ok (.return_, 1) := by decide +kernel
theorem dX0_stopFlashing_0 : decode cX0_stopFlashing 0 = .ok (.aload_n 0, 1) := by decide +kernel
theorem dX0_stopFlashing_1 : decode cX0_stopFlashing 1 = .ok (.getfield 13, 3) := by decide +kernel
theorem dX0_stopFlashing_4 : decode cX0_stopFlashing 4 = .ok (.iconst 0, 1) := by decide +kernel
theorem dX0_stopFlashing_5 : decode cX0_stopFlashing 5 = .ok (.iconst 0, 1) := by decide +kernel
theorem dX0_stopFlashing_6 : decode cX0_stopFlashing 6 = .ok (.iastore, 1) := by decide +kernel
theorem dX0_stopFlashing_7 : decode cX0_stopFlashing 7 = .ok (.aload_n 0, 1) := by decide +kernel
theorem dX0_stopFlashing_8 : decode cX0_stopFlashing 8 = .ok (.getfield 13, 3) := by decide +kernel
theorem dX0_stopFlashing_11 : decode cX0_stopFlashing 11 = .ok (.iconst 1, 1) := by decide +kernel
theorem dX0_stopFlashing_12 : decode cX0_stopFlashing 12 = .ok (.iconst 0, 1) := by decide +kernel
theorem dX0_stopFlashing_13 : decode cX0_stopFlashing 13 = .ok (.iastore, 1) := by decide +kernel
theorem dX0_stopFlashing_14 : decode cX0_stopFlashing 14 = .ok (.return_, 1) := by decide +kernel
theorem dX0_disarmAll_0 : decode cX0_disarmAll 0 = .ok (.aload_n 0, 1) := by decide +kernel
theorem dX0_disarmAll_1 : decode cX0_disarmAll 1 = .ok (.iconst 0, 1) := by decide +kernel
theorem dX0_disarmAll_2 : decode cX0_disarmAll 2 = .ok (.putfield 90, 3) := by decide +kernel
theorem dX0_disarmAll_5 : decode cX0_disarmAll 5 = .ok (.aload_n 0, 1) := by decide +kernel
theorem dX0_disarmAll_6 : decode cX0_disarmAll 6 = .ok (.iconst 0, 1) := by decide +kernel
theorem dX0_disarmAll_7 : decode cX0_disarmAll 7 = .ok (.putfield 93, 3) := by decide +kernel
theorem dX0_disarmAll_10 : decode cX0_disarmAll 10 = .ok (.aload_n 0, 1) := by decide +kernel
theorem dX0_disarmAll_11 : decode cX0_disarmAll 11 = .ok (.iconst 0, 1) := by decide +kernel
theorem dX0_disarmAll_12 : decode cX0_disarmAll 12 = .ok (.putfield 96, 3) := by decide +kernel
theorem dX0_disarmAll_15 : decode cX0_disarmAll 15 = .ok (.return_, 1) := by decide +kernel
set_option maxRecDepth 20000 in
theorem ggX0_goToBase_X0_change : GoodIn wsX0_goToBase wsX0_change := goodIn_r _ [5, 6, 7, 8, 9, 10, 11, 4, 12, 20, 21, 22, 23, 24, 25, 26, 27, 28, 29, 30, 31] (by decide +kernel) (by decide +kernel)
set_option maxRecDepth 20000 in
theorem gX0_goToBase_X0_change : GoodIn wsX0_goToBase (wsV RX0 124 RX0 yX0_change wsX0_change) := goodIn_app (goodIn_of _ (by decide +kernel)) ggX0_goToBase_X0_change
set_option maxRecDepth 20000 in
theorem ggX0_goToBase_X0_disarmAll : GoodIn wsX0_goToBase wsX0_disarmAll := goodIn_r _ [16, 17, 18, 19, 20, 21, 22, 23, 24, 25, 26, 27, 28, 29, 30, 31] (by decide +kernel) (by decide +kernel)
set_option maxRecDepth 20000 in
theorem gX0_goToBase_X0_disarmAll : GoodIn wsX0_goToBase (wsV RX0 128 RX0 yX0_disarmAll wsX0_disarmAll) := goodIn_app (goodIn_of _ (by decide +kernel)) ggX0_goToBase_X0_disarmAll
theorem dX0_goToBase_0 : decode cX0_goToBase 0 = .ok (.aload_n 0, 1) := by decide +kernel
theorem dX0_goToBase_1 : decode cX0_goToBase 1 = .ok (.iconst 0, 1) := by decide +kernel
theorem dX0_goToBase_2 : decode cX0_goToBase 2 = .ok (.iconst 1, 1) := by decide +kernel
theorem dX0_goToBase_3 : decode cX0_goToBase 3 = .ok (.iconst 0, 1) := by decide +kernel
theorem dX0_goToBase_4 : decode cX0_goToBase 4 = .ok (.invokevirtual 124, 3) := by decide +kernel
theorem dX0_goToBase_7 : decode cX0_goToBase 7 = .ok (.aload_n 0, 1) := by decide +kernel
theorem dX0_goToBase_8 : decode cX0_goToBase 8 = .ok (.iconst 1, 1) := by decide +kernel
theorem dX0_goToBase_9 : decode cX0_goToBase 9 = .ok (.iconst 1, 1) := by decide +kernel
theorem dX0_goToBase_10 : decode cX0_goToBase 10 = .ok (.iconst 0, 1) := by decide +kernel
theorem dX0_goToBase_11 : decode cX0_goToBase 11 = .ok (.invokevirtual 124, 3) := by decide +kernel
theorem dX0_goToBase_14 : decode cX0_goToBase 14 = .ok (.aload_n 0, 1) := by decide +kernel
theorem dX0_goToBase_15 : decode cX0_goToBase 15 = .ok (.invokevirtual 128, 3) := by decide +kernel
theorem dX0_goToBase_18 : decode cX0_goToBase 18 = .ok (.return_, 1) := by decide +kernel
set_option maxRecDepth 20000 in
theorem ggX0_turnOnIfOff_X0_isOn : GoodIn wsX0_turnOnIfOff wsX0_isOn := goodIn_r _ [5, 6, 28, 29, 30, 31, 32, 33, 34, 35, 36, 37, 38, 39] (by decide +kernel) (by decide +kernel)
set_option maxRecDepth 20000 in
theorem gX0_turnOnIfOff_X0_isOn : GoodIn wsX0_turnOnIfOff (wsV RX0 104 RX0 yX0_isOn wsX0_isOn) := goodIn_app (goodIn_of _ (by decide +kernel)) ggX0_turnOnIfOff_X0_isOn
set_option maxRecDepth 20000 in
theorem ggX0_turnOnIfOff_X0_goToBase : GoodIn wsX0_turnOnIfOff wsX0_goToBase := goodIn_r _ [10, 11, 12, 13, 4, 14, 6, 15, 16, 17, 18, 19, 20, 21, 22, 23, 24, 25, 26, 27, 28, 29, 30, 31, 32, 33, 34, 35, 36, 37, 38, 39] (by decide +kernel) (by decide +kernel)
set_option maxRecDepth 20000 in
theorem gX0_turnOnIfOff_X0_goToBase : GoodIn wsX0_turnOnIfOff (wsV RX0 131 RX0 yX0_goToBase wsX0_goToBase) := goodIn_app (goodIn_of _ (by decide +kernel)) ggX0_turnOnIfOff_X0_goToBase
theorem dX0_turnOnIfOff_0 : decode cX0_turnOnIfOff 0 = .ok (.aload_n 0, 1) := by decide +kernel
theorem dX0_turnOnIfOff_1 : decode cX0_turnOnIfOff 1 = .ok (.invokevirtual 104, 3) := by decide +kernel
theorem dX0_turnOnIfOff_4 : decode cX0_turnOnIfOff 4 = .ok (.ifCond .ne 7, 3) := by decide +kernel
theorem dX0_turnOnIfOff_7 : decode cX0_turnOnIfOff 7 = .ok (.aload_n 0, 1) := by decide +kernel
theorem dX0_turnOnIfOff_8 : decode cX0_turnOnIfOff 8 = .ok (.invokevirtual 131, 3) := by decide +kernel
theorem dX0_turnOnIfOff_11 : decode cX0_turnOnIfOff 11 = .ok (.return_, 1) := by decide +kernel
set_option maxRecDepth 20000 in
theorem ggX0_turnOff_X0_change : GoodIn wsX0_turnOff wsX0_change := goodIn_r _ [5, 6, 7, 8, 9, 10, 11, 4, 12, 30, 31, 32, 33, 34, 35, 36, 37, 38, 39, 40, 41] (by decide +kernel) (by decide +kernel)
set_option maxRecDepth 20000 in
theorem gX0_turnOff_X0_change : GoodIn wsX0_turnOff (wsV RX0 124 RX0 yX0_change wsX0_change) := goodIn_app (goodIn_of _ (by decide +kernel)) ggX0_turnOff_X0_change
set_option maxRecDepth 20000 in
theorem ggX0_turnOff_X0_disarmAll : GoodIn wsX0_turnOff wsX0_disarmAll := goodIn_r _ [16, 17, 18, 19, 30, 31, 32, 33, 34, 35, 36, 37, 38, 39, 40, 41] (by decide +kernel) (by decide +kernel)
set_option maxRecDepth 20000 in
theorem gX0_turnOff_X0_disarmAll : GoodIn wsX0_turnOff (wsV RX0 128 RX0 yX0_disarmAll wsX0_disarmAll) := goodIn_app (goodIn_of _ (by decide +kernel)) ggX0_turnOff_X0_disarmAll
set_option maxRecDepth 20000 in
theorem ggX0_turnOff_X0_disengageWithWarning : GoodIn wsX0_turnOff wsX0_disengageWithWarning := goodIn_r _ [23, 24, 25, 30, 31, 32, 33, 34, 35, 36, 37, 38, 39, 40, 41] (by decide +kernel) (by decide +kernel)
set_option maxRecDepth 20000 in
theorem gX0_turnOff_X0_disengageWithWarning : GoodIn wsX0_turnOff (wsV RX0 80 RX0 yX0_disengageWithWarning wsX0_disengageWithWarning) := goodIn_app (goodIn_of _ (by decide +kernel)) ggX0_turnOff_X0_disengageWithWarning
set_option maxRecDepth 20000 in
theorem ggX0_turnOff_X0_stopFlashing : GoodIn wsX0_turnOff wsX0_stopFlashing := goodIn_r _ [29, 7, 30, 31, 32, 33, 34, 35, 36, 37, 38, 39, 40, 41] (by decide +kernel) (by decide +kernel)
set_option maxRecDepth 20000 in
theorem gX0_turnOff_X0_stopFlashing : GoodIn wsX0_turnOff (wsV RX0 37 RX0 yX0_stopFlashing wsX0_stopFlashing) := goodIn_app (goodIn_of _ (by decide +kernel)) ggX0_turnOff_X0_stopFlashing
theorem dX0_turnOff_0 : decode cX0_turnOff 0 = .ok (.aload_n 0, 1) := by decide +kernel
theorem dX0_turnOff_1 : decode cX0_turnOff 1 = .ok (.iconst 0, 1) := by decide +kernel
theorem dX0_turnOff_2 : decode cX0_turnOff 2 = .ok (.iconst 0, 1) := by decide +kernel
theorem dX0_turnOff_3 : decode cX0_turnOff 3 = .ok (.iload_n 1, 1) := by decide +kernel
theorem dX0_turnOff_4 : decode cX0_turnOff 4 = .ok (.invokevirtual 124, 3) := by decide +kernel
theorem dX0_turnOff_7 : decode cX0_turnOff 7 = .ok (.aload_n 0, 1) := by decide +kernel
theorem dX0_turnOff_8 : decode cX0_turnOff 8 = .ok (.iconst 1, 1) := by decide +kernel
theorem dX0_turnOff_9 : decode cX0_turnOff 9 = .ok (.iconst 0, 1) := by decide +kernel
theorem dX0_turnOff_10 : decode cX0_turnOff 10 = .ok (.iload_n 1, 1) := by decide +kernel
theorem dX0_turnOff_11 : decode cX0_turnOff 11 = .ok (.invokevirtual 124, 3) := by decide +kernel
theorem dX0_turnOff_14 : decode cX0_turnOff 14 = .ok (.aload_n 0, 1) := by decide +kernel
theorem dX0_turnOff_15 : decode cX0_turnOff 15 = .ok (.invokevirtual 128, 3) := by decide +kernel
theorem dX0_turnOff_18 : decode cX0_turnOff 18 = .ok (.aload_n 0, 1) := by decide +kernel
theorem dX0_turnOff_19 : decode cX0_turnOff 19 = .ok (.invokevirtual 80, 3) := by decide +kernel
theorem dX0_turnOff_22 : decode cX0_turnOff 22 = .ok (.aload_n 0, 1) := by decide +kernel
theorem dX0_turnOff_23 : decode cX0_turnOff 23 = .ok (.invokevirtual 37, 3) := by decide +kernel
theorem dX0_turnOff_26 : decode cX0_turnOff 26 = .ok (.return_, 1) := by decide +kernel
theorem dX0_disengageWithWarning_0 : decode cX0_disengageWithWarning 0 = .ok (.aload_n 0, 1) := by decide +kernel
theorem dX0_disengageWithWarning_1 : decode cX0_disengageWithWarning 1 = .ok (.getfield 63, 3) := by decide +kernel
theorem dX0_disengageWithWarning_4 : decode cX0_disengageWithWarning 4 = .ok (.ifCond .eq 13, 3) := by decide +kernel
theorem dX0_disengageWithWarning_7 : decode cX0_disengageWithWarning 7 = .ok (.aload_n 0, 1) := by decide +kernel
theorem dX0_disengageWithWarning_8 : decode cX0_disengageWithWarning 8 = .ok (.iconst 0, 1) := by decide +kernel
theorem dX0_disengageWithWarning_9 : decode cX0_disengageWithWarning 9 = .ok (.putfield 63, 3) := by decide +kernel
theorem dX0_disengageWithWarning_12 : decode cX0_disengageWithWarning 12 = .ok (.aload_n 0, 1) := by decide +kernel
theorem dX0_disengageWithWarning_13 : decode cX0_disengageWithWarning 13 = .ok (.iconst 1, 1) := by decide +kernel
theorem dX0_disengageWithWarning_14 : decode cX0_disengageWithWarning 14 = .ok (.putfield 83, 3) := by decide +kernel
theorem dX0_disengageWithWarning_17 : decode cX0_disengageWithWarning 17 = .ok (.return_, 1) := by decide +kernel
set_option maxRecDepth 20000 in
theorem ggX0_leaveCourseFor_X0_change : GoodIn wsX0_leaveCourseFor wsX0_change := goodIn_r _ [8, 1, 9, 10, 11, 12, 13, 7, 14, 15, 16, 17, 18, 19, 20, 21, 22, 23, 24, 25, 26] (by decide +kernel) (by decide +kernel)
set_option maxRecDepth 20000 in
theorem gX0_leaveCourseFor_X0_change : GoodIn wsX0_leaveCourseFor (wsV RX0 124 RX0 yX0_change wsX0_change) := goodIn_app (goodIn_of _ (by decide +kernel)) ggX0_leaveCourseFor_X0_change
theorem dX0_leaveCourseFor_0 : decode cX0_leaveCourseFor 0 = .ok (.aload_n 0, 1) := by decide +kernel
theorem dX0_leaveCourseFor_1 : decode cX0_leaveCourseFor 1 = .ok (.iconst 0, 1) := by decide +kernel
theorem dX0_leaveCourseFor_2 : decode cX0_leaveCourseFor 2 = .ok (.iload_n 1, 1) := by decide +kernel
theorem dX0_leaveCourseFor_3 : decode cX0_leaveCourseFor 3 = .ok (.iload_n 2, 1) := by decide +kernel
theorem dX0_leaveCourseFor_4 : decode cX0_leaveCourseFor 4 = .ok (.invokevirtual 124, 3) := by decide +kernel
theorem dX0_leaveCourseFor_7 : decode cX0_leaveCourseFor 7 = .ok (.aload_n 0, 1) := by decide +kernel
theorem dX0_leaveCourseFor_8 : decode cX0_leaveCourseFor 8 = .ok (.getfield 7, 3) := by decide +kernel
theorem dX0_leaveCourseFor_11 : decode cX0_leaveCourseFor 11 = .ok (.iconst 1, 1) := by decide +kernel
theorem dX0_leaveCourseFor_12 : decode cX0_leaveCourseFor 12 = .ok (.iaload, 1) := by decide +kernel
theorem dX0_leaveCourseFor_13 : decode cX0_leaveCourseFor 13 = .ok (.bipush 6, 2) := by decide +kernel
theorem dX0_leaveCourseFor_15 : decode cX0_leaveCourseFor 15 = .ok (.if_icmp .ne 10, 3) := by decide +kernel
theorem dX0_leaveCourseFor_18 : decode cX0_leaveCourseFor 18 = .ok (.aload_n 0, 1) := by decide +kernel
theorem dX0_leaveCourseFor_19 : decode cX0_leaveCourseFor 19 = .ok (.iconst 1, 1) := by decide +kernel
theorem dX0_leaveCourseFor_20 : decode cX0_leaveCourseFor 20 = .ok (.iconst 1, 1) := by decide +kernel
theorem dX0_leaveCourseFor_21 : decode cX0_leaveCourseFor 21 = .ok (.iload_n 2, 1) := by decide +kernel
theorem dX0_leaveCourseFor_22 : decode cX0_leaveCourseFor 22 = .ok (.invokevirtual 124, 3) := by decide +kernel
theorem dX0_leaveCourseFor_25 : decode cX0_leaveCourseFor 25 = .ok (.aload_n 0, 1) := by decide +kernel
theorem dX0_leaveCourseFor_26 : decode cX0_leaveCourseFor 26 = .ok (.getfield 93, 3) := by decide +kernel
theorem dX0_leaveCourseFor_29 : decode cX0_leaveCourseFor 29 = .ok (.ifCond .ne 8, 3) := by decide +kernel
theorem dX0_leaveCourseFor_32 : decode cX0_leaveCourseFor 32 = .ok (.aload_n 0, 1) := by decide +kernel
theorem dX0_leaveCourseFor_33 : decode cX0_leaveCourseFor 33 = .ok (.iconst 0, 1) := by decide +kernel
theorem dX0_leaveCourseFor_34 : decode cX0_leaveCourseFor 34 = .ok (.putfield 96, 3) := by decide +kernel
theorem dX0_leaveCourseFor_37 : decode cX0_leaveCourseFor 37 = .ok (.return_, 1) := by decide +kernel
set_option maxRecDepth 20000 in
theorem ggX0_obey_X0_isAnyChannelSound : GoodIn wsX0_obey wsX0_isAnyChannelSound := goodIn_r _ [5, 6, 88, 89, 90, 91, 92, 93, 94, 95, 96, 97, 98, 99] (by decide +kernel) (by decide +kernel)
set_option maxRecDepth 20000 in
theorem gX0_obey_X0_isAnyChannelSound : GoodIn wsX0_obey (wsV RX0 67 RX0 yX0_isAnyChannelSound wsX0_isAnyChannelSound) := goodIn_app (goodIn_of _ (by decide +kernel)) ggX0_obey_X0_isAnyChannelSound
set_option maxRecDepth 20000 in
theorem ggX0_obey_X0_turnOnIfOff : GoodIn wsX0_obey wsX0_turnOnIfOff := goodIn_r _ [10, 11, 12, 13, 4, 14, 15, 16, 17, 18, 19, 20, 21, 22, 23, 24, 25, 26, 27, 28, 29, 30, 31, 32, 33, 34, 35, 36, 88, 89, 90, 91, 92, 93, 94, 95, 96, 97, 98, 99] (by decide +kernel) (by decide +kernel)
set_option maxRecDepth 20000 in
theorem gX0_obey_X0_turnOnIfOff : GoodIn wsX0_obey (wsV RX0 77 RX0 yX0_turnOnIfOff wsX0_turnOnIfOff) := goodIn_app (goodIn_of _ (by decide +kernel)) ggX0_obey_X0_turnOnIfOff
set_option maxRecDepth 20000 in
theorem ggX0_obey_X0_obeyHeading : GoodIn wsX0_obey wsX0_obeyHeading := goodIn_r _ [40, 15, 20, 21, 22, 4, 23, 24, 25, 26, 27, 28, 29, 41, 42, 43, 44, 35, 36, 88, 89, 90, 91, 92, 93, 94, 95, 96, 97, 98, 99] (by decide +kernel) (by decide +kernel)
set_option maxRecDepth 20000 in
theorem gX0_obey_X0_obeyHeading : GoodIn wsX0_obey (wsV RX0 134 RX0 yX0_obeyHeading wsX0_obeyHeading) := goodIn_app (goodIn_of _ (by decide +kernel)) ggX0_obey_X0_obeyHeading
set_option maxRecDepth 20000 in
theorem ggX0_obey_X0_obeyNav : GoodIn wsX0_obey wsX0_obeyNav := goodIn_r _ [48, 15, 34, 35, 36, 20, 21, 22, 4, 23, 24, 25, 26, 27, 28, 29, 88, 89, 90, 91, 92, 93, 94, 95, 96, 97, 98, 99] (by decide +kernel) (by decide +kernel)
set_option maxRecDepth 20000 in
theorem gX0_obey_X0_obeyNav : GoodIn wsX0_obey (wsV RX0 137 RX0 yX0_obeyNav wsX0_obeyNav) := goodIn_app (goodIn_of _ (by decide +kernel)) ggX0_obey_X0_obeyNav
set_option maxRecDepth 20000 in
theorem ggX0_obey_X0_obeyApproach : GoodIn wsX0_obey wsX0_obeyApproach := goodIn_r _ [52, 15, 35, 36, 34, 41, 42, 43, 4, 44, 20, 21, 22, 23, 24, 25, 26, 27, 28, 29, 88, 89, 90, 91, 92, 93, 94, 95, 96, 97, 98, 99] (by decide +kernel) (by decide +kernel)
set_option maxRecDepth 20000 in
theorem gX0_obey_X0_obeyApproach : GoodIn wsX0_obey (wsV RX0 140 RX0 yX0_obeyApproach wsX0_obeyApproach) := goodIn_app (goodIn_of _ (by decide +kernel)) ggX0_obey_X0_obeyApproach
set_option maxRecDepth 20000 in
theorem ggX0_obey_X0_obeyVertical : GoodIn wsX0_obey wsX0_obeyVertical := goodIn_r _ [56, 15, 20, 21, 22, 4, 23, 24, 25, 26, 27, 28, 29, 88, 89, 90, 91, 92, 93, 94, 95, 96, 97, 98, 99] (by decide +kernel) (by decide +kernel)
set_option maxRecDepth 20000 in
theorem gX0_obey_X0_obeyVertical : GoodIn wsX0_obey (wsV RX0 143 RX0 yX0_obeyVertical wsX0_obeyVertical) := goodIn_app (goodIn_of _ (by decide +kernel)) ggX0_obey_X0_obeyVertical
set_option maxRecDepth 20000 in
theorem ggX0_obey_X0_obeyAround : GoodIn wsX0_obey wsX0_obeyAround := goodIn_r _ [60, 20, 21, 22, 4, 23, 15, 24, 25, 26, 27, 28, 29, 30, 31, 32, 33, 34, 35, 36, 61, 62, 63, 64, 65, 66, 88, 89, 90, 91, 92, 93, 94, 95, 96, 97, 98, 99] (by decide +kernel) (by decide +kernel)
set_option maxRecDepth 20000 in
theorem gX0_obey_X0_obeyAround : GoodIn wsX0_obey (wsV RX0 146 RX0 yX0_obeyAround wsX0_obeyAround) := goodIn_app (goodIn_of _ (by decide +kernel)) ggX0_obey_X0_obeyAround
set_option maxRecDepth 20000 in
theorem ggX0_obey_X0_obeySync : GoodIn wsX0_obey wsX0_obeySync := goodIn_r _ [70, 15, 20, 21, 22, 4, 23, 24, 25, 26, 27, 28, 29, 88, 89, 90, 91, 92, 93, 94, 95, 96, 97, 98, 99] (by decide +kernel) (by decide +kernel)
set_option maxRecDepth 20000 in
theorem gX0_obey_X0_obeySync : GoodIn wsX0_obey (wsV RX0 149 RX0 yX0_obeySync wsX0_obeySync) := goodIn_app (goodIn_of _ (by decide +kernel)) ggX0_obey_X0_obeySync
set_option maxRecDepth 20000 in
theorem ggX0_obey_X0_obeyTransfer : GoodIn wsX0_obey wsX0_obeyTransfer := goodIn_r _ [74, 75, 6, 11, 12, 13, 4, 14, 15, 16, 17, 18, 19, 20, 21, 22, 23, 24, 25, 26, 27, 28, 29, 30, 31, 32, 33, 34, 35, 36, 88, 89, 90, 91, 92, 93, 94, 95, 96, 97, 98, 99] (by decide +kernel) (by decide +kernel)
set_option maxRecDepth 20000 in
theorem gX0_obey_X0_obeyTransfer : GoodIn wsX0_obey (wsV RX0 152 RX0 yX0_obeyTransfer wsX0_obeyTransfer) := goodIn_app (goodIn_of _ (by decide +kernel)) ggX0_obey_X0_obeyTransfer
set_option maxRecDepth 20000 in
theorem ggX0_obey_X0_obeyDirector : GoodIn wsX0_obey wsX0_obeyDirector := goodIn_r _ [79, 65, 11, 12, 13, 4, 14, 15, 1, 2, 3, 5, 6, 16, 17, 18, 19, 20, 21, 22, 23, 24, 25, 26, 27, 28, 29, 30, 31, 32, 33, 34, 35, 36, 80, 81, 82, 83, 61, 62, 63, 64, 66, 84, 85, 86, 87, 88, 89, 90, 91, 92, 93, 94, 95, 96, 97, 98, 99] (by decide +kernel) (by decide +kernel)
set_option maxRecDepth 20000 in
theorem gX0_obey_X0_obeyDirector : GoodIn wsX0_obey (wsV RX0 155 RX0 yX0_obeyDirector wsX0_obeyDirector) := goodIn_app (goodIn_of _ (by decide +kernel)) ggX0_obey_X0_obeyDirector
theorem dX0_obey_0 : decode cX0_obey 0 = .ok (.iload_n 1, 1) := by decide +kernel
theorem dX0_obey_1 : decode cX0_obey 1 = .ok (.bipush 7, 2) := by decide +kernel
theorem dX0_obey_3 : decode cX0_obey 3 = .ok (.if_icmp .gt 15, 3) := by decide +kernel
theorem dX0_obey_6 : decode cX0_obey 6 = .ok (.aload_n 0, 1) := by decide +kernel
theorem dX0_obey_7 : decode cX0_obey 7 = .ok (.invokevirtual 67, 3) := by decide +kernel
theorem dX0_obey_10 : decode cX0_obey 10 = .ok (.ifCond .ne 4, 3) := by decide +kernel
theorem dX0_obey_13 : decode cX0_obey 13 = .ok (.return_, 1) := by decide +kernel
theorem dX0_obey_14 : decode cX0_obey 14 = .ok (.aload_n 0, 1) := by decide +kernel
theorem dX0_obey_15 : decode cX0_obey 15 = .ok (.invokevirtual 77, 3) := by decide +kernel
theorem dX0_obey_18 : decode cX0_obey 18 = .ok (.iload_n 1, 1) := by decide +kernel
theorem dX0_obey_19 : decode cX0_obey 19 = .ok (.tableswitch 115 0 8 #[49, 56, 63, 70, 78, 86, 94, 101, 108], 49) := by decide +kernel
theorem dX0_obey_68 : decode cX0_obey 68 = .ok (.aload_n 0, 1) := by decide +kernel
theorem dX0_obey_69 : decode cX0_obey 69 = .ok (.invokevirtual 134, 3) := by decide +kernel
theorem dX0_obey_72 : decode cX0_obey 72 = .ok (.goto 66, 3) := by decide +kernel
theorem dX0_obey_75 : decode cX0_obey 75 = .ok (.aload_n 0, 1) := by decide +kernel
theorem dX0_obey_76 : decode cX0_obey 76 = .ok (.invokevirtual 137, 3) := by decide +kernel
theorem dX0_obey_79 : decode cX0_obey 79 = .ok (.goto 59, 3) := by decide +kernel
theorem dX0_obey_82 : decode cX0_obey 82 = .ok (.aload_n 0, 1) := by decide +kernel
theorem dX0_obey_83 : decode cX0_obey 83 = .ok (.invokevirtual 140, 3) := by decide +kernel
theorem dX0_obey_86 : decode cX0_obey 86 = .ok (.goto 52, 3) := by decide +kernel
theorem dX0_obey_89 : decode cX0_obey 89 = .ok (.aload_n 0, 1) := by decide +kernel
theorem dX0_obey_90 : decode cX0_obey 90 = .ok (.iconst 2, 1) := by decide +kernel
theorem dX0_obey_91 : decode cX0_obey 91 = .ok (.invokevirtual 143, 3) := by decide +kernel
theorem dX0_obey_94 : decode cX0_obey 94 = .ok (.goto 44, 3) := by decide +kernel
theorem dX0_obey_97 : decode cX0_obey 97 = .ok (.aload_n 0, 1) := by decide +kernel
theorem dX0_obey_98 : decode cX0_obey 98 = .ok (.iconst 3, 1) := by decide +kernel
theorem dX0_obey_99 : decode cX0_obey 99 = .ok (.invokevirtual 143, 3) := by decide +kernel
theorem dX0_obey_102 : decode cX0_obey 102 = .ok (.goto 36, 3) := by decide +kernel
theorem dX0_obey_105 : decode cX0_obey 105 = .ok (.aload_n 0, 1) := by decide +kernel
theorem dX0_obey_106 : decode cX0_obey 106 = .ok (.iconst 4, 1) := by decide +kernel
theorem dX0_obey_107 : decode cX0_obey 107 = .ok (.invokevirtual 143, 3) := by decide +kernel
theorem dX0_obey_110 : decode cX0_obey 110 = .ok (.goto 28, 3) := by decide +kernel
theorem dX0_obey_113 : decode cX0_obey 113 = .ok (.aload_n 0, 1) := by decide +kernel
theorem dX0_obey_114 : decode cX0_obey 114 = .ok (.invokevirtual 146, 3) := by decide +kernel
theorem dX0_obey_117 : decode cX0_obey 117 = .ok (.goto 21, 3) := by decide +kernel
theorem dX0_obey_120 : decode cX0_obey 120 = .ok (.aload_n 0, 1) := by decide +kernel
theorem dX0_obey_121 : decode cX0_obey 121 = .ok (.invokevirtual 149, 3) := by decide +kernel
theorem dX0_obey_124 : decode cX0_obey 124 = .ok (.goto 14, 3) := by decide +kernel
theorem dX0_obey_127 : decode cX0_obey 127 = .ok (.aload_n 0, 1) := by decide +kernel
theorem dX0_obey_128 : decode cX0_obey 128 = .ok (.invokevirtual 152, 3) := by decide +kernel
theorem dX0_obey_131 : decode cX0_obey 131 = .ok (.goto 7, 3) := by decide +kernel
theorem dX0_obey_134 : decode cX0_obey 134 = .ok (.aload_n 0, 1) := by decide +kernel
theorem dX0_obey_135 : decode cX0_obey 135 = .ok (.invokevirtual 155, 3) := by decide +kernel
theorem dX0_obey_138 : decode cX0_obey 138 = .ok (.return_, 1) := by decide +kernel
set_option maxRecDepth 20000 in
theorem ggX0_obeyHeading_X0_change : GoodIn wsX0_obeyHeading wsX0_change := goodIn_r _ [6, 1, 7, 8, 9, 10, 11, 5, 12, 19, 20, 21, 22, 23, 24, 25, 26, 27, 28, 29, 30] (by decide +kernel) (by decide +kernel)
set_option maxRecDepth 20000 in
theorem gX0_obeyHeading_X0_change : GoodIn wsX0_obeyHeading (wsV RX0 124 RX0 yX0_change wsX0_change) := goodIn_app (goodIn_of _ (by decide +kernel)) ggX0_obeyHeading_X0_change
set_option maxRecDepth 20000 in
theorem ggX0_obeyHeading_X0_leaveCourseFor : GoodIn wsX0_obeyHeading wsX0_leaveCourseFor := goodIn_r _ [16, 1, 17, 18, 2, 3, 4, 5, 6, 7, 8, 9, 10, 11, 12, 19, 20, 21, 22, 23, 24, 25, 26, 27, 28, 29, 30] (by decide +kernel) (by decide +kernel)
set_option maxRecDepth 20000 in
theorem gX0_obeyHeading_X0_leaveCourseFor : GoodIn wsX0_obeyHeading (wsV RX0 158 RX0 yX0_leaveCourseFor wsX0_leaveCourseFor) := goodIn_app (goodIn_of _ (by decide +kernel)) ggX0_obeyHeading_X0_leaveCourseFor
theorem dX0_obeyHeading_0 : decode cX0_obeyHeading 0 = .ok (.aload_n 0, 1) := by decide +kernel
