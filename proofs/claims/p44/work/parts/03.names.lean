/-! ===== BEGIN printed: names, fields, word lists, decode rows ===== -/
def RX0 : String := "PulseMeadow$Marks"
def TX0 : u_T := fun k => match k with
  | 0 => ("PulseMeadow$Marks", "count", "I", false)
  | _ => ("PulseMeadow$Marks", "ticks", "[I", true)
def tyX0 : Nat → FieldType := fun k => match k with
  | 0 => .int
  | _ => .array .int
abbrev wsX00 : List Cond := u_ws RX0 TX0 2
theorem nmX0 : ∀ a, a < 2 → ∀ b, b < 2 → a ≠ b → (TX0 a).2.1 ≠ (TX0 b).2.1 := by decide +kernel
theorem tyX0_ok : ∀ k, k < 2 → parseFieldDescriptor (TX0 k).2.2.1 = some (tyX0 k) := by decide +kernel
abbrev cX0_init : ByteArray := prog_2_method_1_code
def yX0_init : MethodName := ⟨RX0, "<init>", "()V"⟩
abbrev cX0_add : ByteArray := prog_2_method_2_code
def yX0_add : MethodName := ⟨RX0, "add", "(I)I"⟩
abbrev cX0_agreeOn : ByteArray := prog_2_method_3_code
def yX0_agreeOn : MethodName := ⟨RX0, "agreeOn", "(I)Z"⟩
abbrev cX0_countPeriods : ByteArray := prog_2_method_4_code
def yX0_countPeriods : MethodName := ⟨RX0, "countPeriods", "()I"⟩
abbrev cX0_periodAt : ByteArray := prog_2_method_5_code
def yX0_periodAt : MethodName := ⟨RX0, "periodAt", "(I)I"⟩
def RX1 : String := "PulseMeadow$Setting"
def TX1 : u_T := fun k => match k with
  | 0 => ("PulseMeadow$Setting", "beaters", "I", false)
  | 1 => ("PulseMeadow$Setting", "mask", "I", false)
  | 2 => ("PulseMeadow$Setting", "places", "[I", true)
  | 3 => ("PulseMeadow$Setting", "periods", "[I", true)
  | 4 => ("PulseMeadow$Setting", "quiets", "[I", true)
  | 5 => ("PulseMeadow$Setting", "answers", "[I", true)
  | 6 => ("PulseMeadow$Setting", "links", "I", false)
  | 7 => ("PulseMeadow$Setting", "froms", "[I", true)
  | 8 => ("PulseMeadow$Setting", "tos", "[I", true)
  | 9 => ("PulseMeadow$Setting", "delays", "[I", true)
  | _ => ("PulseMeadow$Setting", "strengths", "[I", true)
def tyX1 : Nat → FieldType := fun k => match k with
  | 0 => .int
  | 1 => .int
  | 2 => .array .int
  | 3 => .array .int
  | 4 => .array .int
  | 5 => .array .int
  | 6 => .int
  | 7 => .array .int
  | 8 => .array .int
  | 9 => .array .int
  | _ => .array .int
abbrev wsX10 : List Cond := u_ws RX1 TX1 11
theorem nmX1 : ∀ a, a < 11 → ∀ b, b < 11 → a ≠ b → (TX1 a).2.1 ≠ (TX1 b).2.1 := by decide +kernel
theorem tyX1_ok : ∀ k, k < 11 → parseFieldDescriptor (TX1 k).2.2.1 = some (tyX1 k) := by decide +kernel
abbrev cX1_init : ByteArray := prog_3_method_1_code
def yX1_init : MethodName := ⟨RX1, "<init>", "()V"⟩
abbrev cX1_has : ByteArray := prog_3_method_2_code
def yX1_has : MethodName := ⟨RX1, "has", "(I)Z"⟩
abbrev cX1_put : ByteArray := prog_3_method_3_code
def yX1_put : MethodName := ⟨RX1, "put", "(III)V"⟩
abbrev cX1_setPlaces : ByteArray := prog_3_method_4_code
def yX1_setPlaces : MethodName := ⟨RX1, "setPlaces", "(I)V"⟩
abbrev cX1_addLink : ByteArray := prog_3_method_5_code
def yX1_addLink : MethodName := ⟨RX1, "addLink", "(IIII)V"⟩
abbrev cX1_removeLink : ByteArray := prog_3_method_6_code
def yX1_removeLink : MethodName := ⟨RX1, "removeLink", "(I)V"⟩
abbrev cX1_linkNext : ByteArray := prog_3_method_7_code
def yX1_linkNext : MethodName := ⟨RX1, "linkNext", "(IIZ)V"⟩
abbrev cX1_linkHub : ByteArray := prog_3_method_8_code
def yX1_linkHub : MethodName := ⟨RX1, "linkHub", "(II)V"⟩
abbrev cX1_linkAll : ByteArray := prog_3_method_9_code
def yX1_linkAll : MethodName := ⟨RX1, "linkAll", "(II)V"⟩
abbrev cX1_takeTwo : ByteArray := prog_3_method_10_code
def yX1_takeTwo : MethodName := ⟨RX1, "takeTwo", "(LPulseMeadow$Setting;II)V"⟩
abbrev cX1_pulled : ByteArray := prog_3_method_11_code
def yX1_pulled : MethodName := ⟨RX1, "pulled", "(III)I"⟩
def RX2 : String := "PulseMeadow$State"
def TX2 : u_T := fun k => match k with
  | 0 => ("PulseMeadow$State", "phases", "[I", true)
  | 1 => ("PulseMeadow$State", "coming", "[I", true)
  | _ => ("PulseMeadow$State", "row", "I", false)
def tyX2 : Nat → FieldType := fun k => match k with
  | 0 => .array .int
  | 1 => .array .int
  | _ => .int
abbrev wsX20 : List Cond := u_ws RX2 TX2 3
theorem nmX2 : ∀ a, a < 3 → ∀ b, b < 3 → a ≠ b → (TX2 a).2.1 ≠ (TX2 b).2.1 := by decide +kernel
theorem tyX2_ok : ∀ k, k < 3 → parseFieldDescriptor (TX2 k).2.2.1 = some (tyX2 k) := by decide +kernel
abbrev cX2_init : ByteArray := prog_4_method_1_code
def yX2_init : MethodName := ⟨RX2, "<init>", "()V"⟩
abbrev cX2_clear : ByteArray := prog_4_method_2_code
def yX2_clear : MethodName := ⟨RX2, "clear", "()V"⟩
abbrev cX2_copy : ByteArray := prog_4_method_3_code
def yX2_copy : MethodName := ⟨RX2, "copy", "(LPulseMeadow$State;)V"⟩
abbrev cX2_startOfRow : ByteArray := prog_4_method_4_code
def yX2_startOfRow : MethodName := ⟨RX2, "startOfRow", "(I)I"⟩
abbrev cX2_underWayTo : ByteArray := prog_4_method_5_code
def yX2_underWayTo : MethodName := ⟨RX2, "underWayTo", "(I)I"⟩
abbrev cX2_advance : ByteArray := prog_4_method_6_code
def yX2_advance : MethodName := ⟨RX2, "advance", "(LPulseMeadow$Setting;I)I"⟩
abbrev cX2_sendSignals : ByteArray := prog_4_method_7_code
def yX2_sendSignals : MethodName := ⟨RX2, "sendSignals", "(LPulseMeadow$Setting;I)V"⟩
abbrev cX2_isLike : ByteArray := prog_4_method_8_code
def yX2_isLike : MethodName := ⟨RX2, "isLike", "(LPulseMeadow$State;LPulseMeadow$Setting;)Z"⟩
def RX3 : String := "PulseMeadow$Swings"
def TX3 : u_T := fun k => match k with
  | 0 => ("PulseMeadow$Swings", "there", "[Z", true)
  | 1 => ("PulseMeadow$Swings", "angles", "[D", true)
  | 2 => ("PulseMeadow$Swings", "speeds", "[D", true)
  | 3 => ("PulseMeadow$Swings", "stiffness", "I", false)
  | _ => ("PulseMeadow$Swings", "pull", "I", false)
def tyX3 : Nat → FieldType := fun k => match k with
  | 0 => .array .boolean
  | 1 => .array .double
  | 2 => .array .double
  | 3 => .int
  | _ => .int
abbrev wsX30 : List Cond := u_ws RX3 TX3 5
theorem nmX3 : ∀ a, a < 5 → ∀ b, b < 5 → a ≠ b → (TX3 a).2.1 ≠ (TX3 b).2.1 := by decide +kernel
theorem tyX3_ok : ∀ k, k < 5 → parseFieldDescriptor (TX3 k).2.2.1 = some (tyX3 k) := by decide +kernel
abbrev cX3_init : ByteArray := prog_5_method_1_code
def yX3_init : MethodName := ⟨RX3, "<init>", "()V"⟩
abbrev cX3_has : ByteArray := prog_5_method_2_code
def yX3_has : MethodName := ⟨RX3, "has", "(I)Z"⟩
abbrev cX3_put : ByteArray := prog_5_method_3_code
def yX3_put : MethodName := ⟨RX3, "put", "(IF)Z"⟩
abbrev cX3_count : ByteArray := prog_5_method_4_code
def yX3_count : MethodName := ⟨RX3, "count", "()I"⟩
abbrev cX3_step : ByteArray := prog_5_method_5_code
def yX3_step : MethodName := ⟨RX3, "step", "()V"⟩
abbrev cX3_meanAngle : ByteArray := prog_5_method_6_code
def yX3_meanAngle : MethodName := ⟨RX3, "meanAngle", "()D"⟩
abbrev cX3_lost : ByteArray := prog_5_method_7_code
def yX3_lost : MethodName := ⟨RX3, "lost", "()D"⟩
abbrev cX3_isLost : ByteArray := prog_5_method_8_code
def yX3_isLost : MethodName := ⟨RX3, "isLost", "(D)Z"⟩
abbrev cX3_isEndless : ByteArray := prog_5_method_9_code
def yX3_isEndless : MethodName := ⟨RX3, "isEndless", "(D)Z"⟩
abbrev cX3_plus : ByteArray := prog_5_method_10_code
def yX3_plus : MethodName := ⟨RX3, "plus", "(DD)D"⟩
abbrev cX3_minus : ByteArray := prog_5_method_11_code
def yX3_minus : MethodName := ⟨RX3, "minus", "(DD)D"⟩
abbrev cX3_times : ByteArray := prog_5_method_12_code
def yX3_times : MethodName := ⟨RX3, "times", "(DD)D"⟩
abbrev cX3_bitsOfAngle : ByteArray := prog_5_method_13_code
def yX3_bitsOfAngle : MethodName := ⟨RX3, "bitsOfAngle", "(I)I"⟩
abbrev cX3_bitsOfEnergy : ByteArray := prog_5_method_14_code
def yX3_bitsOfEnergy : MethodName := ⟨RX3, "bitsOfEnergy", "()J"⟩
abbrev cX3_bitsOf : ByteArray := prog_5_method_15_code
def yX3_bitsOf : MethodName := ⟨RX3, "bitsOf", "(DII)J"⟩
def RX4 : String := "PulseMeadow$Way"
def TX4 : u_T := fun k => match k with
  | 0 => ("PulseMeadow$Way", "leadTicks", "I", false)
  | 1 => ("PulseMeadow$Way", "cycleTicks", "I", false)
  | 2 => ("PulseMeadow$Way", "flashed", "[I", true)
  | 3 => ("PulseMeadow$Way", "groupNumbers", "[I", true)
  | 4 => ("PulseMeadow$Way", "behind", "LPulseMeadow$State;", true)
  | _ => ("PulseMeadow$Way", "front", "LPulseMeadow$State;", true)
def tyX4 : Nat → FieldType := fun k => match k with
  | 0 => .int
  | 1 => .int
  | 2 => .array .int
  | 3 => .array .int
  | 4 => .object "PulseMeadow$State"
  | _ => .object "PulseMeadow$State"
abbrev wsX40 : List Cond := u_ws RX4 TX4 6
theorem nmX4 : ∀ a, a < 6 → ∀ b, b < 6 → a ≠ b → (TX4 a).2.1 ≠ (TX4 b).2.1 := by decide +kernel
theorem tyX4_ok : ∀ k, k < 6 → parseFieldDescriptor (TX4 k).2.2.1 = some (tyX4 k) := by decide +kernel
abbrev cX4_init : ByteArray := prog_6_method_1_code
def yX4_init : MethodName := ⟨RX4, "<init>", "()V"⟩
abbrev cX4_follow : ByteArray := prog_6_method_2_code
def yX4_follow : MethodName := ⟨RX4, "follow", "(LPulseMeadow$Setting;LPulseMeadow$State;)Z"⟩
abbrev cX4_findLead : ByteArray := prog_6_method_3_code
def yX4_findLead : MethodName := ⟨RX4, "findLead", "(LPulseMeadow$Setting;LPulseMeadow$State;)Z"⟩
abbrev cX4_returnsAnew : ByteArray := prog_6_method_4_code
def yX4_returnsAnew : MethodName := ⟨RX4, "returnsAnew", "(LPulseMeadow$Setting;LPulseMeadow$State;)Z"⟩
abbrev cX4_flashedInCycle : ByteArray := prog_6_method_5_code
def yX4_flashedInCycle : MethodName := ⟨RX4, "flashedInCycle", "(I)I"⟩
abbrev cX4_countFlashes : ByteArray := prog_6_method_6_code
def yX4_countFlashes : MethodName := ⟨RX4, "countFlashes", "(I)I"⟩
abbrev cX4_keepsStep : ByteArray := prog_6_method_7_code
def yX4_keepsStep : MethodName := ⟨RX4, "keepsStep", "(II)Z"⟩
abbrev cX4_allInStep : ByteArray := prog_6_method_8_code
def yX4_allInStep : MethodName := ⟨RX4, "allInStep", "(LPulseMeadow$Setting;)Z"⟩
abbrev cX4_countWithFirst : ByteArray := prog_6_method_9_code
def yX4_countWithFirst : MethodName := ⟨RX4, "countWithFirst", "(LPulseMeadow$Setting;)I"⟩
abbrev cX4_gather : ByteArray := prog_6_method_10_code
def yX4_gather : MethodName := ⟨RX4, "gather", "(LPulseMeadow$Setting;)I"⟩
abbrev cX4_firstInStep : ByteArray := prog_6_method_11_code
def yX4_firstInStep : MethodName := ⟨RX4, "firstInStep", "(LPulseMeadow$Setting;I)I"⟩
abbrev cX4_groupsHaveAll : ByteArray := prog_6_method_12_code
def yX4_groupsHaveAll : MethodName := ⟨RX4, "groupsHaveAll", "(LPulseMeadow$Setting;)Z"⟩
abbrev cX4_countBreaks : ByteArray := prog_6_method_13_code
def yX4_countBreaks : MethodName := ⟨RX4, "countBreaks", "(LPulseMeadow$Setting;)I"⟩
abbrev cX4_flasherAt : ByteArray := prog_6_method_14_code
def yX4_flasherAt : MethodName := ⟨RX4, "flasherAt", "(LPulseMeadow$Setting;I)I"⟩
def RX5 : String := "PulseMeadow"
def TX5 : u_T := fun k => match k with
  | 0 => ("PulseMeadow", "setting", "LPulseMeadow$Setting;", true)
  | 1 => ("PulseMeadow", "now", "LPulseMeadow$State;", true)
  | 2 => ("PulseMeadow", "flashCounts", "[I", true)
  | 3 => ("PulseMeadow", "lastFlashes", "[I", true)
  | 4 => ("PulseMeadow", "ticksPassed", "I", false)
  | 5 => ("PulseMeadow", "noiseShare", "I", false)
  | 6 => ("PulseMeadow", "lot", "I", false)
  | 7 => ("PulseMeadow", "ahead", "LPulseMeadow$Way;", true)
  | 8 => ("PulseMeadow", "aheadKnown", "Z", false)
  | 9 => ("PulseMeadow", "aheadEnds", "Z", false)
  | 10 => ("PulseMeadow", "pair", "LPulseMeadow$Setting;", true)
  | 11 => ("PulseMeadow", "trialStart", "LPulseMeadow$State;", true)
  | 12 => ("PulseMeadow", "trial", "LPulseMeadow$Way;", true)
  | 13 => ("PulseMeadow", "marks", "LPulseMeadow$Marks;", true)
  | _ => ("PulseMeadow", "swings", "LPulseMeadow$Swings;", true)
def tyX5 : Nat → FieldType := fun k => match k with
  | 0 => .object "PulseMeadow$Setting"
  | 1 => .object "PulseMeadow$State"
  | 2 => .array .int
  | 3 => .array .int
  | 4 => .int
  | 5 => .int
  | 6 => .int
  | 7 => .object "PulseMeadow$Way"
  | 8 => .boolean
  | 9 => .boolean
  | 10 => .object "PulseMeadow$Setting"
  | 11 => .object "PulseMeadow$State"
  | 12 => .object "PulseMeadow$Way"
  | 13 => .object "PulseMeadow$Marks"
  | _ => .object "PulseMeadow$Swings"
abbrev wsX50 : List Cond := u_ws RX5 TX5 15
theorem nmX5 : ∀ a, a < 15 → ∀ b, b < 15 → a ≠ b → (TX5 a).2.1 ≠ (TX5 b).2.1 := by decide +kernel
theorem tyX5_ok : ∀ k, k < 15 → parseFieldDescriptor (TX5 k).2.2.1 = some (tyX5 k) := by decide +kernel
abbrev cX5_init : ByteArray := prog_1_method_1_code
def yX5_init : MethodName := ⟨RX5, "<init>", "()V"⟩
abbrev cX5_beater : ByteArray := prog_1_method_2_code
def yX5_beater : MethodName := ⟨RX5, "beater", "(IIII)Z"⟩
abbrev cX5_swing : ByteArray := prog_1_method_3_code
def yX5_swing : MethodName := ⟨RX5, "swing", "(II)Z"⟩
abbrev cX5_phase : ByteArray := prog_1_method_4_code
def yX5_phase : MethodName := ⟨RX5, "phase", "(I)I"⟩
abbrev cX5_period : ByteArray := prog_1_method_5_code
def yX5_period : MethodName := ⟨RX5, "period", "(II)I"⟩
abbrev cX5_answer : ByteArray := prog_1_method_6_code
def yX5_answer : MethodName := ⟨RX5, "answer", "(III)I"⟩
abbrev cX5_link : ByteArray := prog_1_method_7_code
def yX5_link : MethodName := ⟨RX5, "link", "(IIII)I"⟩
abbrev cX5_cut : ByteArray := prog_1_method_8_code
def yX5_cut : MethodName := ⟨RX5, "cut", "(I)I"⟩
abbrev cX5_net : ByteArray := prog_1_method_9_code
def yX5_net : MethodName := ⟨RX5, "net", "(CII)I"⟩
abbrev cX5_run : ByteArray := prog_1_method_10_code
def yX5_run : MethodName := ⟨RX5, "run", "(I)I"⟩
abbrev cX5_tick : ByteArray := prog_1_method_11_code
def yX5_tick : MethodName := ⟨RX5, "tick", "()I"⟩
abbrev cX5_flashes : ByteArray := prog_1_method_12_code
def yX5_flashes : MethodName := ⟨RX5, "flashes", "(I)I"⟩
abbrev cX5_last : ByteArray := prog_1_method_13_code
def yX5_last : MethodName := ⟨RX5, "last", "(I)I"⟩
abbrev cX5_waiting : ByteArray := prog_1_method_14_code
def yX5_waiting : MethodName := ⟨RX5, "waiting", "(I)I"⟩
abbrev cX5_strip : ByteArray := prog_1_method_15_code
def yX5_strip : MethodName := ⟨RX5, "strip", "(I)I"⟩
abbrev cX5_cycle : ByteArray := prog_1_method_16_code
def yX5_cycle : MethodName := ⟨RX5, "cycle", "()I"⟩
abbrev cX5_lead : ByteArray := prog_1_method_17_code
def yX5_lead : MethodName := ⟨RX5, "lead", "()I"⟩
abbrev cX5_beats : ByteArray := prog_1_method_18_code
def yX5_beats : MethodName := ⟨RX5, "beats", "(I)I"⟩
abbrev cX5_inStep : ByteArray := prog_1_method_19_code
def yX5_inStep : MethodName := ⟨RX5, "inStep", "(II)Z"⟩
abbrev cX5_groups : ByteArray := prog_1_method_20_code
def yX5_groups : MethodName := ⟨RX5, "groups", "()I"⟩
abbrev cX5_groupOf : ByteArray := prog_1_method_21_code
def yX5_groupOf : MethodName := ⟨RX5, "groupOf", "(I)I"⟩
abbrev cX5_islands : ByteArray := prog_1_method_22_code
def yX5_islands : MethodName := ⟨RX5, "islands", "()I"⟩
abbrev cX5_order : ByteArray := prog_1_method_23_code
def yX5_order : MethodName := ⟨RX5, "order", "(I)I"⟩
abbrev cX5_map : ByteArray := prog_1_method_24_code
def yX5_map : MethodName := ⟨RX5, "map", "(III)I"⟩
abbrev cX5_locks : ByteArray := prog_1_method_25_code
def yX5_locks : MethodName := ⟨RX5, "locks", "(III)Z"⟩
abbrev cX5_tongue : ByteArray := prog_1_method_26_code
def yX5_tongue : MethodName := ⟨RX5, "tongue", "(II)I"⟩
abbrev cX5_push : ByteArray := prog_1_method_27_code
def yX5_push : MethodName := ⟨RX5, "push", "(II)I"⟩
abbrev cX5_leastPush : ByteArray := prog_1_method_28_code
def yX5_leastPush : MethodName := ⟨RX5, "leastPush", "()I"⟩
abbrev cX5_noise : ByteArray := prog_1_method_29_code
def yX5_noise : MethodName := ⟨RX5, "noise", "(I)I"⟩
abbrev cX5_seed : ByteArray := prog_1_method_30_code
def yX5_seed : MethodName := ⟨RX5, "seed", "(I)I"⟩
abbrev cX5_mark : ByteArray := prog_1_method_31_code
def yX5_mark : MethodName := ⟨RX5, "mark", "(I)I"⟩
abbrev cX5_wipe : ByteArray := prog_1_method_32_code
def yX5_wipe : MethodName := ⟨RX5, "wipe", "()I"⟩
abbrev cX5_fits : ByteArray := prog_1_method_33_code
def yX5_fits : MethodName := ⟨RX5, "fits", "()I"⟩
abbrev cX5_guess : ByteArray := prog_1_method_34_code
def yX5_guess : MethodName := ⟨RX5, "guess", "(I)I"⟩
abbrev cX5_beam : ByteArray := prog_1_method_35_code
def yX5_beam : MethodName := ⟨RX5, "beam", "(II)I"⟩
abbrev cX5_sway : ByteArray := prog_1_method_36_code
def yX5_sway : MethodName := ⟨RX5, "sway", "(I)I"⟩
abbrev cX5_angleBits : ByteArray := prog_1_method_37_code
def yX5_angleBits : MethodName := ⟨RX5, "angleBits", "(I)I"⟩
abbrev cX5_energyBits : ByteArray := prog_1_method_38_code
def yX5_energyBits : MethodName := ⟨RX5, "energyBits", "()J"⟩
abbrev cX5_stepShare : ByteArray := prog_1_method_39_code
def yX5_stepShare : MethodName := ⟨RX5, "stepShare", "()F"⟩
abbrev cX5_meanPhase : ByteArray := prog_1_method_40_code
def yX5_meanPhase : MethodName := ⟨RX5, "meanPhase", "()D"⟩
abbrev cX5_checksum : ByteArray := prog_1_method_41_code
def yX5_checksum : MethodName := ⟨RX5, "checksum", "()J"⟩
abbrev cX5_isTrue : ByteArray := prog_1_method_42_code
def yX5_isTrue : MethodName := ⟨RX5, "isTrue", "()Z"⟩
abbrev cX5_checkPlace : ByteArray := prog_1_method_43_code
def yX5_checkPlace : MethodName := ⟨RX5, "checkPlace", "(I)V"⟩
abbrev cX5_checkRange : ByteArray := prog_1_method_44_code
def yX5_checkRange : MethodName := ⟨RX5, "checkRange", "(III)V"⟩
abbrev cX5_checkOther : ByteArray := prog_1_method_45_code
def yX5_checkOther : MethodName := ⟨RX5, "checkOther", "(II)V"⟩
abbrev cX5_checkBeater : ByteArray := prog_1_method_46_code
def yX5_checkBeater : MethodName := ⟨RX5, "checkBeater", "(I)V"⟩
abbrev cX5_checkPair : ByteArray := prog_1_method_47_code
def yX5_checkPair : MethodName := ⟨RX5, "checkPair", "(II)V"⟩
abbrev cX5_checkNoNoise : ByteArray := prog_1_method_48_code
def yX5_checkNoNoise : MethodName := ⟨RX5, "checkNoNoise", "()V"⟩
abbrev cX5_netSize : ByteArray := prog_1_method_49_code
def yX5_netSize : MethodName := ⟨RX5, "netSize", "(CI)I"⟩
abbrev cX5_drawLots : ByteArray := prog_1_method_50_code
def yX5_drawLots : MethodName := ⟨RX5, "drawLots", "()I"⟩
abbrev cX5_noteFlashes : ByteArray := prog_1_method_51_code
def yX5_noteFlashes : MethodName := ⟨RX5, "noteFlashes", "(I)I"⟩
abbrev cX5_wayAhead : ByteArray := prog_1_method_52_code
def yX5_wayAhead : MethodName := ⟨RX5, "wayAhead", "()LPulseMeadow$Way;"⟩
abbrev cX5_setPair : ByteArray := prog_1_method_53_code
def yX5_setPair : MethodName := ⟨RX5, "setPair", "(II)V"⟩
abbrev cX5_followPair : ByteArray := prog_1_method_54_code
def yX5_followPair : MethodName := ⟨RX5, "followPair", "(III)Z"⟩
abbrev cX5_flashEquallyOften : ByteArray := prog_1_method_55_code
def yX5_flashEquallyOften : MethodName := ⟨RX5, "flashEquallyOften", "(II)Z"⟩
abbrev cX5_pushedPhase : ByteArray := prog_1_method_56_code
def yX5_pushedPhase : MethodName := ⟨RX5, "pushedPhase", "(I)I"⟩
abbrev cX5_movableByPush : ByteArray := prog_1_method_57_code
def yX5_movableByPush : MethodName := ⟨RX5, "movableByPush", "()I"⟩
abbrev cX5_firstInStepSet : ByteArray := prog_1_method_58_code
def yX5_firstInStepSet : MethodName := ⟨RX5, "firstInStepSet", "(II)I"⟩
abbrev cX5_bringsInStep : ByteArray := prog_1_method_59_code
def yX5_bringsInStep : MethodName := ⟨RX5, "bringsInStep", "(I)Z"⟩
def RX6 : String := "PulseMeadowModel$Field"
def TX6 : u_T := fun k => match k with
  | _ => ("", "", "", false)
def tyX6 : Nat → FieldType := fun k => match k with
  | _ => .int
abbrev wsX60 : List Cond := u_ws RX6 TX6 0
theorem nmX6 : ∀ a, a < 0 → ∀ b, b < 0 → a ≠ b → (TX6 a).2.1 ≠ (TX6 b).2.1 := by decide +kernel
theorem tyX6_ok : ∀ k, k < 0 → parseFieldDescriptor (TX6 k).2.2.1 = some (tyX6 k) := by decide +kernel
def RX7 : String := "PulseMeadowModel$Link"
def TX7 : u_T := fun k => match k with
  | _ => ("", "", "", false)
def tyX7 : Nat → FieldType := fun k => match k with
  | _ => .int
abbrev wsX70 : List Cond := u_ws RX7 TX7 0
theorem nmX7 : ∀ a, a < 0 → ∀ b, b < 0 → a ≠ b → (TX7 a).2.1 ≠ (TX7 b).2.1 := by decide +kernel
theorem tyX7_ok : ∀ k, k < 0 → parseFieldDescriptor (TX7 k).2.2.1 = some (tyX7 k) := by decide +kernel
def RX8 : String := "PulseMeadowModel"
def TX8 : u_T := fun k => match k with
  | _ => ("", "", "", false)
def tyX8 : Nat → FieldType := fun k => match k with
  | _ => .int
abbrev wsX80 : List Cond := u_ws RX8 TX8 0
theorem nmX8 : ∀ a, a < 0 → ∀ b, b < 0 → a ≠ b → (TX8 a).2.1 ≠ (TX8 b).2.1 := by decide +kernel
theorem tyX8_ok : ∀ k, k < 0 → parseFieldDescriptor (TX8 k).2.2.1 = some (tyX8 k) := by decide +kernel
def RJx145de : String := "java/io/Serializable"
def TJx145de : u_T := fun k => match k with
  | _ => ("", "", "", false)
def tyJx145de : Nat → FieldType := fun k => match k with
  | _ => .int
abbrev wsJx145de0 : List Cond := u_ws RJx145de TJx145de 0
theorem nmJx145de : ∀ a, a < 0 → ∀ b, b < 0 → a ≠ b → (TJx145de a).2.1 ≠ (TJx145de b).2.1 := by decide +kernel
theorem tyJx145de_ok : ∀ k, k < 0 → parseFieldDescriptor (TJx145de k).2.2.1 = some (tyJx145de k) := by decide +kernel
def RJx00060 : String := "java/lang/ArrayIndexOutOfBoundsException"
def TJx00060 : u_T := fun k => match k with
  | 0 => ("java/lang/Throwable", "backtrace", "Ljava/lang/Object;", false)
  | 1 => ("java/lang/Throwable", "detailMessage", "Ljava/lang/String;", false)
  | 2 => ("java/lang/Throwable", "cause", "Ljava/lang/Throwable;", false)
  | 3 => ("java/lang/Throwable", "stackTrace", "[Ljava/lang/StackTraceElement;", false)
  | 4 => ("java/lang/Throwable", "depth", "I", false)
  | _ => ("java/lang/Throwable", "suppressedExceptions", "Ljava/util/List;", false)
def tyJx00060 : Nat → FieldType := fun k => match k with
  | 0 => .object "java/lang/Object"
  | 1 => .object "java/lang/String"
  | 2 => .object "java/lang/Throwable"
  | 3 => .array (.object "java/lang/StackTraceElement")
  | 4 => .int
  | _ => .object "java/util/List"
abbrev wsJx000600 : List Cond := u_ws RJx00060 TJx00060 6
theorem nmJx00060 : ∀ a, a < 6 → ∀ b, b < 6 → a ≠ b → (TJx00060 a).2.1 ≠ (TJx00060 b).2.1 := by decide +kernel
theorem tyJx00060_ok : ∀ k, k < 6 → parseFieldDescriptor (TJx00060 k).2.2.1 = some (tyJx00060 k) := by decide +kernel
abbrev cJx00060_init_a7421 : ByteArray := prog_13_method_2_code
def yJx00060_init_a7421 : MethodName := ⟨RJx00060, "<init>", "(Ljava/lang/String;)V"⟩
def RJx9f9b0 : String := "java/lang/CharSequence"
def TJx9f9b0 : u_T := fun k => match k with
  | _ => ("", "", "", false)
def tyJx9f9b0 : Nat → FieldType := fun k => match k with
  | _ => .int
abbrev wsJx9f9b00 : List Cond := u_ws RJx9f9b0 TJx9f9b0 0
theorem nmJx9f9b0 : ∀ a, a < 0 → ∀ b, b < 0 → a ≠ b → (TJx9f9b0 a).2.1 ≠ (TJx9f9b0 b).2.1 := by decide +kernel
theorem tyJx9f9b0_ok : ∀ k, k < 0 → parseFieldDescriptor (TJx9f9b0 k).2.2.1 = some (tyJx9f9b0 k) := by decide +kernel
def RJxb160c : String := "java/lang/Comparable"
def TJxb160c : u_T := fun k => match k with
  | _ => ("", "", "", false)
def tyJxb160c : Nat → FieldType := fun k => match k with
  | _ => .int
abbrev wsJxb160c0 : List Cond := u_ws RJxb160c TJxb160c 0
theorem nmJxb160c : ∀ a, a < 0 → ∀ b, b < 0 → a ≠ b → (TJxb160c a).2.1 ≠ (TJxb160c b).2.1 := by decide +kernel
theorem tyJxb160c_ok : ∀ k, k < 0 → parseFieldDescriptor (TJxb160c k).2.2.1 = some (tyJxb160c k) := by decide +kernel
def RJ6 : String := "java/lang/Integer"
def TJ6 : u_T := fun k => match k with
  | _ => ("", "", "", false)
def tyJ6 : Nat → FieldType := fun k => match k with
  | _ => .int
abbrev wsJ60 : List Cond := u_ws RJ6 TJ6 0
theorem nmJ6 : ∀ a, a < 0 → ∀ b, b < 0 → a ≠ b → (TJ6 a).2.1 ≠ (TJ6 b).2.1 := by decide +kernel
theorem tyJ6_ok : ∀ k, k < 0 → parseFieldDescriptor (TJ6 k).2.2.1 = some (tyJ6 k) := by decide +kernel
abbrev cJ6_bitCount_0f7a4 : ByteArray := prog_20_method_49_code
def yJ6_bitCount_0f7a4 : MethodName := ⟨RJ6, "bitCount", "(I)I"⟩
def RJ9 : String := "java/lang/Math"
def TJ9 : u_T := fun k => match k with
  | _ => ("", "", "", false)
def tyJ9 : Nat → FieldType := fun k => match k with
  | _ => .int
abbrev wsJ90 : List Cond := u_ws RJ9 TJ9 0
theorem nmJ9 : ∀ a, a < 0 → ∀ b, b < 0 → a ≠ b → (TJ9 a).2.1 ≠ (TJ9 b).2.1 := by decide +kernel
theorem tyJ9_ok : ∀ k, k < 0 → parseFieldDescriptor (TJ9 k).2.2.1 = some (tyJ9 k) := by decide +kernel
abbrev cJ9_max_7cf53 : ByteArray := prog_21_method_65_code
def yJ9_max_7cf53 : MethodName := ⟨RJ9, "max", "(II)I"⟩
abbrev cJ9_min_7cf53 : ByteArray := prog_21_method_69_code
def yJ9_min_7cf53 : MethodName := ⟨RJ9, "min", "(II)I"⟩
def RJ0 : String := "java/lang/String"
def TJ0 : u_T := fun k => match k with
  | 0 => ("java/lang/String", "value", "[B", true)
  | _ => ("java/lang/String", "coder", "B", true)
def tyJ0 : Nat → FieldType := fun k => match k with
  | 0 => .array .byte
  | _ => .byte
abbrev wsJ00 : List Cond := u_ws RJ0 TJ0 2
theorem nmJ0 : ∀ a, a < 2 → ∀ b, b < 2 → a ≠ b → (TJ0 a).2.1 ≠ (TJ0 b).2.1 := by decide +kernel
theorem tyJ0_ok : ∀ k, k < 2 → parseFieldDescriptor (TJ0 k).2.2.1 = some (tyJ0 k) := by decide +kernel
abbrev cJ0_charAt_5068e : ByteArray := prog_23_method_56_code
def yJ0_charAt_5068e : MethodName := ⟨RJ0, "charAt", "(I)C"⟩
abbrev cJ0_isLatin1_aae02 : ByteArray := prog_23_method_154_code
def yJ0_isLatin1_aae02 : MethodName := ⟨RJ0, "isLatin1", "()Z"⟩
abbrev cJ0_checkIndex_df160 : ByteArray := prog_23_method_155_code
def yJ0_checkIndex_df160 : MethodName := ⟨RJ0, "checkIndex", "(II)V"⟩
def RJ1 : String := "java/lang/StringLatin1"
def TJ1 : u_T := fun k => match k with
  | _ => ("", "", "", false)
def tyJ1 : Nat → FieldType := fun k => match k with
  | _ => .int
abbrev wsJ10 : List Cond := u_ws RJ1 TJ1 0
theorem nmJ1 : ∀ a, a < 0 → ∀ b, b < 0 → a ≠ b → (TJ1 a).2.1 ≠ (TJ1 b).2.1 := by decide +kernel
theorem tyJ1_ok : ∀ k, k < 0 → parseFieldDescriptor (TJ1 k).2.2.1 = some (tyJ1 k) := by decide +kernel
abbrev cJ1_charAt_3b067 : ByteArray := prog_24_method_2_code
def yJ1_charAt_3b067 : MethodName := ⟨RJ1, "charAt", "([BI)C"⟩
def RJ2 : String := "java/lang/StringUTF16"
def TJ2 : u_T := fun k => match k with
  | _ => ("", "", "", false)
def tyJ2 : Nat → FieldType := fun k => match k with
  | _ => .int
abbrev wsJ20 : List Cond := u_ws RJ2 TJ2 0
theorem nmJ2 : ∀ a, a < 0 → ∀ b, b < 0 → a ≠ b → (TJ2 a).2.1 ≠ (TJ2 b).2.1 := by decide +kernel
theorem tyJ2_ok : ∀ k, k < 0 → parseFieldDescriptor (TJ2 k).2.2.1 = some (tyJ2 k) := by decide +kernel
abbrev cJ2_getChar_3b067 : ByteArray := prog_25_method_5_code
def yJ2_getChar_3b067 : MethodName := ⟨RJ2, "getChar", "([BI)C"⟩
abbrev cJ2_length_9d52b : ByteArray := prog_25_method_6_code
def yJ2_length_9d52b : MethodName := ⟨RJ2, "length", "([B)I"⟩
abbrev cJ2_charAt_3b067 : ByteArray := prog_25_method_83_code
def yJ2_charAt_3b067 : MethodName := ⟨RJ2, "charAt", "([BI)C"⟩
abbrev cJ2_checkIndex_2214a : ByteArray := prog_25_method_91_code
def yJ2_checkIndex_2214a : MethodName := ⟨RJ2, "checkIndex", "(I[B)V"⟩
def RJ10 : String := "java/lang/System"
def TJ10 : u_T := fun k => match k with
  | _ => ("", "", "", false)
def tyJ10 : Nat → FieldType := fun k => match k with
  | _ => .int
abbrev wsJ100 : List Cond := u_ws RJ10 TJ10 0
theorem nmJ10 : ∀ a, a < 0 → ∀ b, b < 0 → a ≠ b → (TJ10 a).2.1 ≠ (TJ10 b).2.1 := by decide +kernel
theorem tyJ10_ok : ∀ k, k < 0 → parseFieldDescriptor (TJ10 k).2.2.1 = some (tyJ10 k) := by decide +kernel
def RJxfd54e : String := "java/lang/constant/Constable"
def TJxfd54e : u_T := fun k => match k with
  | _ => ("", "", "", false)
def tyJxfd54e : Nat → FieldType := fun k => match k with
  | _ => .int
abbrev wsJxfd54e0 : List Cond := u_ws RJxfd54e TJxfd54e 0
theorem nmJxfd54e : ∀ a, a < 0 → ∀ b, b < 0 → a ≠ b → (TJxfd54e a).2.1 ≠ (TJxfd54e b).2.1 := by decide +kernel
theorem tyJxfd54e_ok : ∀ k, k < 0 → parseFieldDescriptor (TJxfd54e k).2.2.1 = some (tyJxfd54e k) := by decide +kernel
def RJx3cf43 : String := "java/lang/constant/ConstantDesc"
def TJx3cf43 : u_T := fun k => match k with
  | _ => ("", "", "", false)
def tyJx3cf43 : Nat → FieldType := fun k => match k with
  | _ => .int
abbrev wsJx3cf430 : List Cond := u_ws RJx3cf43 TJx3cf43 0
theorem nmJx3cf43 : ∀ a, a < 0 → ∀ b, b < 0 → a ≠ b → (TJx3cf43 a).2.1 ≠ (TJx3cf43 b).2.1 := by decide +kernel
theorem tyJx3cf43_ok : ∀ k, k < 0 → parseFieldDescriptor (TJx3cf43 k).2.2.1 = some (tyJx3cf43 k) := by decide +kernel
def RJ3 : String := "jdk/internal/util/Preconditions"
def TJ3 : u_T := fun k => match k with
  | _ => ("", "", "", false)
def tyJ3 : Nat → FieldType := fun k => match k with
  | _ => .int
abbrev wsJ30 : List Cond := u_ws RJ3 TJ3 0
theorem nmJ3 : ∀ a, a < 0 → ∀ b, b < 0 → a ≠ b → (TJ3 a).2.1 ≠ (TJ3 b).2.1 := by decide +kernel
theorem tyJ3_ok : ∀ k, k < 0 → parseFieldDescriptor (TJ3 k).2.2.1 = some (tyJ3 k) := by decide +kernel
abbrev cJ3_checkIndex_8e157 : ByteArray := prog_32_method_11_code
def yJ3_checkIndex_8e157 : MethodName := ⟨RJ3, "checkIndex", "(IILjava/util/function/BiFunction;)I"⟩
def RL : String := "PulseMeadowLaw"
abbrev cL_at : ByteArray := method_2_code
def yL_at : MethodName := ⟨RL, "at", "([II)I"⟩
abbrev cL_some : ByteArray := method_3_code
def yL_some : MethodName := ⟨RL, "some", "(II)I"⟩
abbrev cL_ask : ByteArray := method_4_code
def yL_ask : MethodName := ⟨RL, "ask", "(LPulseMeadow;C[I)I"⟩
abbrev cL_asked : ByteArray := method_5_code
def yL_asked : MethodName := ⟨RL, "asked", "(LPulseMeadow;C[I)I"⟩
abbrev cL_mean : ByteArray := method_6_code
def yL_mean : MethodName := ⟨RL, "mean", "(LPulseMeadow;Z)I"⟩
abbrev cL_law : ByteArray := code
def yL_law : MethodName := ⟨RL, "law", "([I)Z"⟩
abbrev cL_nets : ByteArray := method_8_code
def yL_nets : MethodName := ⟨RL, "nets", "([I)Z"⟩
abbrev cL_lone : ByteArray := method_9_code
def yL_lone : MethodName := ⟨RL, "lone", "([I)Z"⟩
abbrev cL_full : ByteArray := method_10_code
def yL_full : MethodName := ⟨RL, "full", "()Z"⟩
abbrev vwCl : List vw_C := [(RJ0, TJ0, 2), (RJx00060, TJx00060, 6), (RX0, TX0, 2), (RX1, TX1, 11), (RX2, TX2, 3), (RX3, TX3, 5), (RX4, TX4, 6), (RX5, TX5, 15)]
