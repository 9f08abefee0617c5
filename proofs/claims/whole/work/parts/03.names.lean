/-! ===== BEGIN printed: names, fields, word lists, decode rows ===== -/
def RX0 : String := "PulseMeadow$Marks"
def TX0 : u_T := fun k => match k with
  | 0 => ("PulseMeadow$Marks", "count", "I", false)
  | _ => ("PulseMeadow$Marks", "ticks", "[I", true)
def tyX0 : Nat → FieldType := fun k => match k with
  | 0 => .int
  | _ => .array .int
abbrev wsX00 : List Cond := u_ws RX0 TX0 2
theorem nmX0 : ∀ a, a < 2 → ∀ b, b < 2 → a ≠ b → (TX0 a).2.1 ≠ (TX0 b).2.1 := by decide +kernel
theorem tyX0_ok : ∀ k, k < 2 → parseFieldDescriptor (TX0 k).2.2.1 = some (tyX0 k) := by decide +kernel
abbrev cX0_init : ByteArray := prog_2_method_1_code
def yX0_init : MethodName := ⟨RX0, "<init>", "()V"⟩
abbrev cX0_add : ByteArray := prog_2_method_2_code
def yX0_add : MethodName := ⟨RX0, "add", "(I)I"⟩
abbrev cX0_agreeOn : ByteArray := prog_2_method_3_code
def yX0_agreeOn : MethodName := ⟨RX0, "agreeOn", "(I)Z"⟩
abbrev cX0_countPeriods : ByteArray := prog_2_method_4_code
def yX0_countPeriods : MethodName := ⟨RX0, "countPeriods", "()I"⟩
abbrev cX0_periodAt : ByteArray := prog_2_method_5_code
def yX0_periodAt : MethodName := ⟨RX0, "periodAt", "(I)I"⟩
def RX1 : String := "PulseMeadow$Setting"
def TX1 : u_T := fun k => match k with
  | 0 => ("PulseMeadow$Setting", "beaters", "I", false)
  | 1 => ("PulseMeadow$Setting", "mask", "I", false)
  | 2 => ("PulseMeadow$Setting", "places", "[I", true)
  | 3 => ("PulseMeadow$Setting", "periods", "[I", true)
  | 4 => ("PulseMeadow$Setting", "quiets", "[I", true)
  | 5 => ("PulseMeadow$Setting", "answers", "[I", true)
  | 6 => ("PulseMeadow$Setting", "links", "I", false)
  | 7 => ("PulseMeadow$Setting", "froms", "[I", true)
  | 8 => ("PulseMeadow$Setting", "tos", "[I", true)
  | 9 => ("PulseMeadow$Setting", "delays", "[I", true)
  | _ => ("PulseMeadow$Setting", "strengths", "[I", true)
def tyX1 : Nat → FieldType := fun k => match k with
  | 0 => .int
  | 1 => .int
  | 2 => .array .int
  | 3 => .array .int
  | 4 => .array .int
  | 5 => .array .int
  | 6 => .int
  | 7 => .array .int
  | 8 => .array .int
  | 9 => .array .int
  | _ => .array .int
abbrev wsX10 : List Cond := u_ws RX1 TX1 11
theorem nmX1 : ∀ a, a < 11 → ∀ b, b < 11 → a ≠ b → (TX1 a).2.1 ≠ (TX1 b).2.1 := by decide +kernel
theorem tyX1_ok : ∀ k, k < 11 → parseFieldDescriptor (TX1 k).2.2.1 = some (tyX1 k) := by decide +kernel
abbrev cX1_init : ByteArray := prog_3_method_1_code
def yX1_init : MethodName := ⟨RX1, "<init>", "()V"⟩
abbrev cX1_has : ByteArray := prog_3_method_2_code
def yX1_has : MethodName := ⟨RX1, "has", "(I)Z"⟩
abbrev cX1_put : ByteArray := prog_3_method_3_code
def yX1_put : MethodName := ⟨RX1, "put", "(III)V"⟩
abbrev cX1_setPlaces : ByteArray := prog_3_method_4_code
def yX1_setPlaces : MethodName := ⟨RX1, "setPlaces", "(I)V"⟩
abbrev cX1_addLink : ByteArray := prog_3_method_5_code
def yX1_addLink : MethodName := ⟨RX1, "addLink", "(IIII)V"⟩
abbrev cX1_removeLink : ByteArray := prog_3_method_6_code
def yX1_removeLink : MethodName := ⟨RX1, "removeLink", "(I)V"⟩
abbrev cX1_linkNext : ByteArray := prog_3_method_7_code
def yX1_linkNext : MethodName := ⟨RX1, "linkNext", "(IIZ)V"⟩
abbrev cX1_linkHub : ByteArray := prog_3_method_8_code
def yX1_linkHub : MethodName := ⟨RX1, "linkHub", "(II)V"⟩
abbrev cX1_linkAll : ByteArray := prog_3_method_9_code
def yX1_linkAll : MethodName := ⟨RX1, "linkAll", "(II)V"⟩
abbrev cX1_takeTwo : ByteArray := prog_3_method_10_code
def yX1_takeTwo : MethodName := ⟨RX1, "takeTwo", "(LPulseMeadow$Setting;II)V"⟩
abbrev cX1_pulled : ByteArray := prog_3_method_11_code
def yX1_pulled : MethodName := ⟨RX1, "pulled", "(III)I"⟩
def RX2 : String := "PulseMeadow$State"
def TX2 : u_T := fun k => match k with
  | 0 => ("PulseMeadow$State", "phases", "[I", true)
  | 1 => ("PulseMeadow$State", "coming", "[I", true)
  | _ => ("PulseMeadow$State", "row", "I", false)
def tyX2 : Nat → FieldType := fun k => match k with
  | 0 => .array .int
  | 1 => .array .int
  | _ => .int
abbrev wsX20 : List Cond := u_ws RX2 TX2 3
theorem nmX2 : ∀ a, a < 3 → ∀ b, b < 3 → a ≠ b → (TX2 a).2.1 ≠ (TX2 b).2.1 := by decide +kernel
theorem tyX2_ok : ∀ k, k < 3 → parseFieldDescriptor (TX2 k).2.2.1 = some (tyX2 k) := by decide +kernel
abbrev cX2_init : ByteArray := prog_4_method_1_code
def yX2_init : MethodName := ⟨RX2, "<init>", "()V"⟩
abbrev cX2_clear : ByteArray := prog_4_method_2_code
def yX2_clear : MethodName := ⟨RX2, "clear", "()V"⟩
abbrev cX2_copy : ByteArray := prog_4_method_3_code
def yX2_copy : MethodName := ⟨RX2, "copy", "(LPulseMeadow$State;)V"⟩
abbrev cX2_startOfRow : ByteArray := prog_4_method_4_code
def yX2_startOfRow : MethodName := ⟨RX2, "startOfRow", "(I)I"⟩
abbrev cX2_underWayTo : ByteArray := prog_4_method_5_code
def yX2_underWayTo : MethodName := ⟨RX2, "underWayTo", "(I)I"⟩
abbrev cX2_advance : ByteArray := prog_4_method_6_code
def yX2_advance : MethodName := ⟨RX2, "advance", "(LPulseMeadow$Setting;I)I"⟩
abbrev cX2_sendSignals : ByteArray := prog_4_method_7_code
def yX2_sendSignals : MethodName := ⟨RX2, "sendSignals", "(LPulseMeadow$Setting;I)V"⟩
abbrev cX2_isLike : ByteArray := prog_4_method_8_code
def yX2_isLike : MethodName := ⟨RX2, "isLike", "(LPulseMeadow$State;LPulseMeadow$Setting;)Z"⟩
def RX3 : String := "PulseMeadow$Swings"
def TX3 : u_T := fun k => match k with
  | 0 => ("PulseMeadow$Swings", "there", "[Z", true)
  | 1 => ("PulseMeadow$Swings", "angles", "[D", true)
  | 2 => ("PulseMeadow$Swings", "speeds", "[D", true)
  | 3 => ("PulseMeadow$Swings", "stiffness", "I", false)
  | _ => ("PulseMeadow$Swings", "pull", "I", false)
def tyX3 : Nat → FieldType := fun k => match k with
  | 0 => .array .boolean
  | 1 => .array .double
  | 2 => .array .double
  | 3 => .int
  | _ => .int
abbrev wsX30 : List Cond := u_ws RX3 TX3 5
theorem nmX3 : ∀ a, a < 5 → ∀ b, b < 5 → a ≠ b → (TX3 a).2.1 ≠ (TX3 b).2.1 := by decide +kernel
theorem tyX3_ok : ∀ k, k < 5 → parseFieldDescriptor (TX3 k).2.2.1 = some (tyX3 k) := by decide +kernel
abbrev cX3_init : ByteArray := prog_5_method_1_code
def yX3_init : MethodName := ⟨RX3, "<init>", "()V"⟩
abbrev cX3_has : ByteArray := prog_5_method_2_code
def yX3_has : MethodName := ⟨RX3, "has", "(I)Z"⟩
abbrev cX3_put : ByteArray := prog_5_method_3_code
def yX3_put : MethodName := ⟨RX3, "put", "(IF)Z"⟩
abbrev cX3_count : ByteArray := prog_5_method_4_code
def yX3_count : MethodName := ⟨RX3, "count", "()I"⟩
abbrev cX3_step : ByteArray := prog_5_method_5_code
def yX3_step : MethodName := ⟨RX3, "step", "()V"⟩
abbrev cX3_meanAngle : ByteArray := prog_5_method_6_code
def yX3_meanAngle : MethodName := ⟨RX3, "meanAngle", "()D"⟩
abbrev cX3_lost : ByteArray := prog_5_method_7_code
def yX3_lost : MethodName := ⟨RX3, "lost", "()D"⟩
abbrev cX3_isLost : ByteArray := prog_5_method_8_code
def yX3_isLost : MethodName := ⟨RX3, "isLost", "(D)Z"⟩
abbrev cX3_isEndless : ByteArray := prog_5_method_9_code
def yX3_isEndless : MethodName := ⟨RX3, "isEndless", "(D)Z"⟩
abbrev cX3_plus : ByteArray := prog_5_method_10_code
def yX3_plus : MethodName := ⟨RX3, "plus", "(DD)D"⟩
abbrev cX3_minus : ByteArray := prog_5_method_11_code
def yX3_minus : MethodName := ⟨RX3, "minus", "(DD)D"⟩
abbrev cX3_times : ByteArray := prog_5_method_12_code
def yX3_times : MethodName := ⟨RX3, "times", "(DD)D"⟩
abbrev cX3_bitsOfAngle : ByteArray := prog_5_method_13_code
def yX3_bitsOfAngle : MethodName := ⟨RX3, "bitsOfAngle", "(I)I"⟩
abbrev cX3_bitsOfEnergy : ByteArray := prog_5_method_14_code
def yX3_bitsOfEnergy : MethodName := ⟨RX3, "bitsOfEnergy", "()J"⟩
abbrev cX3_bitsOf : ByteArray := prog_5_method_15_code
def yX3_bitsOf : MethodName := ⟨RX3, "bitsOf", "(DII)J"⟩
def RX4 : String := "PulseMeadow$Way"
def TX4 : u_T := fun k => match k with
  | 0 => ("PulseMeadow$Way", "leadTicks", "I", false)
  | 1 => ("PulseMeadow$Way", "cycleTicks", "I", false)
  | 2 => ("PulseMeadow$Way", "flashed", "[I", true)
  | 3 => ("PulseMeadow$Way", "groupNumbers", "[I", true)
  | 4 => ("PulseMeadow$Way", "behind", "LPulseMeadow$State;", true)
  | _ => ("PulseMeadow$Way", "front", "LPulseMeadow$State;", true)
def tyX4 : Nat → FieldType := fun k => match k with
  | 0 => .int
  | 1 => .int
  | 2 => .array .int
  | 3 => .array .int
  | 4 => .object "PulseMeadow$State"
  | _ => .object "PulseMeadow$State"
abbrev wsX40 : List Cond := u_ws RX4 TX4 6
theorem nmX4 : ∀ a, a < 6 → ∀ b, b < 6 → a ≠ b → (TX4 a).2.1 ≠ (TX4 b).2.1 := by decide +kernel
theorem tyX4_ok : ∀ k, k < 6 → parseFieldDescriptor (TX4 k).2.2.1 = some (tyX4 k) := by decide +kernel
abbrev cX4_init : ByteArray := prog_6_method_1_code
def yX4_init : MethodName := ⟨RX4, "<init>", "()V"⟩
abbrev cX4_follow : ByteArray := prog_6_method_2_code
def yX4_follow : MethodName := ⟨RX4, "follow", "(LPulseMeadow$Setting;LPulseMeadow$State;)Z"⟩
abbrev cX4_findLead : ByteArray := prog_6_method_3_code
def yX4_findLead : MethodName := ⟨RX4, "findLead", "(LPulseMeadow$Setting;LPulseMeadow$State;)Z"⟩
abbrev cX4_returnsAnew : ByteArray := prog_6_method_4_code
def yX4_returnsAnew : MethodName := ⟨RX4, "returnsAnew", "(LPulseMeadow$Setting;LPulseMeadow$State;)Z"⟩
abbrev cX4_flashedInCycle : ByteArray := prog_6_method_5_code
def yX4_flashedInCycle : MethodName := ⟨RX4, "flashedInCycle", "(I)I"⟩
abbrev cX4_countFlashes : ByteArray := prog_6_method_6_code
def yX4_countFlashes : MethodName := ⟨RX4, "countFlashes", "(I)I"⟩
abbrev cX4_keepsStep : ByteArray := prog_6_method_7_code
def yX4_keepsStep : MethodName := ⟨RX4, "keepsStep", "(II)Z"⟩
abbrev cX4_allInStep : ByteArray := prog_6_method_8_code
def yX4_allInStep : MethodName := ⟨RX4, "allInStep", "(LPulseMeadow$Setting;)Z"⟩
abbrev cX4_countWithFirst : ByteArray := prog_6_method_9_code
def yX4_countWithFirst : MethodName := ⟨RX4, "countWithFirst", "(LPulseMeadow$Setting;)I"⟩
abbrev cX4_gather : ByteArray := prog_6_method_10_code
def yX4_gather : MethodName := ⟨RX4, "gather", "(LPulseMeadow$Setting;)I"⟩
abbrev cX4_firstInStep : ByteArray := prog_6_method_11_code
def yX4_firstInStep : MethodName := ⟨RX4, "firstInStep", "(LPulseMeadow$Setting;I)I"⟩
abbrev cX4_groupsHaveAll : ByteArray := prog_6_method_12_code
def yX4_groupsHaveAll : MethodName := ⟨RX4, "groupsHaveAll", "(LPulseMeadow$Setting;)Z"⟩
abbrev cX4_countBreaks : ByteArray := prog_6_method_13_code
def yX4_countBreaks : MethodName := ⟨RX4, "countBreaks", "(LPulseMeadow$Setting;)I"⟩
abbrev cX4_flasherAt : ByteArray := prog_6_method_14_code
def yX4_flasherAt : MethodName := ⟨RX4, "flasherAt", "(LPulseMeadow$Setting;I)I"⟩
def RX5 : String := "PulseMeadow"
def TX5 : u_T := fun k => match k with
  | 0 => ("PulseMeadow", "setting", "LPulseMeadow$Setting;", true)
  | 1 => ("PulseMeadow", "now", "LPulseMeadow$State;", true)
  | 2 => ("PulseMeadow", "flashCounts", "[I", true)
  | 3 => ("PulseMeadow", "lastFlashes", "[I", true)
  | 4 => ("PulseMeadow", "ticksPassed", "I", false)
  | 5 => ("PulseMeadow", "noiseShare", "I", false)
  | 6 => ("PulseMeadow", "lot", "I", false)
  | 7 => ("PulseMeadow", "ahead", "LPulseMeadow$Way;", true)
  | 8 => ("PulseMeadow", "aheadKnown", "Z", false)
  | 9 => ("PulseMeadow", "aheadEnds", "Z", false)
  | 10 => ("PulseMeadow", "pair", "LPulseMeadow$Setting;", true)
  | 11 => ("PulseMeadow", "trialStart", "LPulseMeadow$State;", true)
  | 12 => ("PulseMeadow", "trial", "LPulseMeadow$Way;", true)
  | 13 => ("PulseMeadow", "marks", "LPulseMeadow$Marks;", true)
  | _ => ("PulseMeadow", "swings", "LPulseMeadow$Swings;", true)
def tyX5 : Nat → FieldType := fun k => match k with
  | 0 => .object "PulseMeadow$Setting"
  | 1 => .object "PulseMeadow$State"
  | 2 => .array .int
  | 3 => .array .int
  | 4 => .int
  | 5 => .int
  | 6 => .int
  | 7 => .object "PulseMeadow$Way"
  | 8 => .boolean
  | 9 => .boolean
  | 10 => .object "PulseMeadow$Setting"
  | 11 => .object "PulseMeadow$State"
  | 12 => .object "PulseMeadow$Way"
  | 13 => .object "PulseMeadow$Marks"
  | _ => .object "PulseMeadow$Swings"
abbrev wsX50 : List Cond := u_ws RX5 TX5 15
theorem nmX5 : ∀ a, a < 15 → ∀ b, b < 15 → a ≠ b → (TX5 a).2.1 ≠ (TX5 b).2.1 := by decide +kernel
theorem tyX5_ok : ∀ k, k < 15 → parseFieldDescriptor (TX5 k).2.2.1 = some (tyX5 k) := by decide +kernel
abbrev cX5_init : ByteArray := prog_1_method_1_code
def yX5_init : MethodName := ⟨RX5, "<init>", "()V"⟩
abbrev cX5_beater : ByteArray := prog_1_method_2_code
def yX5_beater : MethodName := ⟨RX5, "beater", "(IIII)Z"⟩
abbrev cX5_swing : ByteArray := prog_1_method_3_code
def yX5_swing : MethodName := ⟨RX5, "swing", "(II)Z"⟩
abbrev cX5_phase : ByteArray := prog_1_method_4_code
def yX5_phase : MethodName := ⟨RX5, "phase", "(I)I"⟩
abbrev cX5_period : ByteArray := prog_1_method_5_code
def yX5_period : MethodName := ⟨RX5, "period", "(II)I"⟩
abbrev cX5_answer : ByteArray := prog_1_method_6_code
def yX5_answer : MethodName := ⟨RX5, "answer", "(III)I"⟩
abbrev cX5_link : ByteArray := prog_1_method_7_code
def yX5_link : MethodName := ⟨RX5, "link", "(IIII)I"⟩
abbrev cX5_cut : ByteArray := prog_1_method_8_code
def yX5_cut : MethodName := ⟨RX5, "cut", "(I)I"⟩
abbrev cX5_net : ByteArray := prog_1_method_9_code
def yX5_net : MethodName := ⟨RX5, "net", "(CII)I"⟩
abbrev cX5_run : ByteArray := prog_1_method_10_code
def yX5_run : MethodName := ⟨RX5, "run", "(I)I"⟩
abbrev cX5_tick : ByteArray := prog_1_method_11_code
def yX5_tick : MethodName := ⟨RX5, "tick", "()I"⟩
abbrev cX5_flashes : ByteArray := prog_1_method_12_code
def yX5_flashes : MethodName := ⟨RX5, "flashes", "(I)I"⟩
abbrev cX5_last : ByteArray := prog_1_method_13_code
def yX5_last : MethodName := ⟨RX5, "last", "(I)I"⟩
abbrev cX5_waiting : ByteArray := prog_1_method_14_code
def yX5_waiting : MethodName := ⟨RX5, "waiting", "(I)I"⟩
abbrev cX5_strip : ByteArray := prog_1_method_15_code
def yX5_strip : MethodName := ⟨RX5, "strip", "(I)I"⟩
abbrev cX5_cycle : ByteArray := prog_1_method_16_code
def yX5_cycle : MethodName := ⟨RX5, "cycle", "()I"⟩
abbrev cX5_lead : ByteArray := prog_1_method_17_code
def yX5_lead : MethodName := ⟨RX5, "lead", "()I"⟩
abbrev cX5_beats : ByteArray := prog_1_method_18_code
def yX5_beats : MethodName := ⟨RX5, "beats", "(I)I"⟩
abbrev cX5_inStep : ByteArray := prog_1_method_19_code
def yX5_inStep : MethodName := ⟨RX5, "inStep", "(II)Z"⟩
abbrev cX5_groups : ByteArray := prog_1_method_20_code
def yX5_groups : MethodName := ⟨RX5, "groups", "()I"⟩
abbrev cX5_groupOf : ByteArray := prog_1_method_21_code
def yX5_groupOf : MethodName := ⟨RX5, "groupOf", "(I)I"⟩
abbrev cX5_islands : ByteArray := prog_1_method_22_code
def yX5_islands : MethodName := ⟨RX5, "islands", "()I"⟩
abbrev cX5_order : ByteArray := prog_1_method_23_code
def yX5_order : MethodName := ⟨RX5, "order", "(I)I"⟩
abbrev cX5_map : ByteArray := prog_1_method_24_code
def yX5_map : MethodName := ⟨RX5, "map", "(III)I"⟩
abbrev cX5_locks : ByteArray := prog_1_method_25_code
def yX5_locks : MethodName := ⟨RX5, "locks", "(III)Z"⟩
abbrev cX5_tongue : ByteArray := prog_1_method_26_code
def yX5_tongue : MethodName := ⟨RX5, "tongue", "(II)I"⟩
abbrev cX5_push : ByteArray := prog_1_method_27_code
def yX5_push : MethodName := ⟨RX5, "push", "(II)I"⟩
abbrev cX5_leastPush : ByteArray := prog_1_method_28_code
def yX5_leastPush : MethodName := ⟨RX5, "leastPush", "()I"⟩
abbrev cX5_noise : ByteArray := prog_1_method_29_code
def yX5_noise : MethodName := ⟨RX5, "noise", "(I)I"⟩
abbrev cX5_seed : ByteArray := prog_1_method_30_code
def yX5_seed : MethodName := ⟨RX5, "seed", "(I)I"⟩
abbrev cX5_mark : ByteArray := prog_1_method_31_code
def yX5_mark : MethodName := ⟨RX5, "mark", "(I)I"⟩
abbrev cX5_wipe : ByteArray := prog_1_method_32_code
def yX5_wipe : MethodName := ⟨RX5, "wipe", "()I"⟩
abbrev cX5_fits : ByteArray := prog_1_method_33_code
def yX5_fits : MethodName := ⟨RX5, "fits", "()I"⟩
abbrev cX5_guess : ByteArray := prog_1_method_34_code
def yX5_guess : MethodName := ⟨RX5, "guess", "(I)I"⟩
abbrev cX5_beam : ByteArray := prog_1_method_35_code
def yX5_beam : MethodName := ⟨RX5, "beam", "(II)I"⟩
abbrev cX5_sway : ByteArray := prog_1_method_36_code
def yX5_sway : MethodName := ⟨RX5, "sway", "(I)I"⟩
abbrev cX5_angleBits : ByteArray := prog_1_method_37_code
def yX5_angleBits : MethodName := ⟨RX5, "angleBits", "(I)I"⟩
abbrev cX5_energyBits : ByteArray := prog_1_method_38_code
def yX5_energyBits : MethodName := ⟨RX5, "energyBits", "()J"⟩
abbrev cX5_stepShare : ByteArray := prog_1_method_39_code
def yX5_stepShare : MethodName := ⟨RX5, "stepShare", "()F"⟩
abbrev cX5_meanPhase : ByteArray := prog_1_method_40_code
def yX5_meanPhase : MethodName := ⟨RX5, "meanPhase", "()D"⟩
abbrev cX5_checksum : ByteArray := prog_1_method_41_code
def yX5_checksum : MethodName := ⟨RX5, "checksum", "()J"⟩
abbrev cX5_isTrue : ByteArray := prog_1_method_42_code
def yX5_isTrue : MethodName := ⟨RX5, "isTrue", "()Z"⟩
abbrev cX5_checkPlace : ByteArray := prog_1_method_43_code
def yX5_checkPlace : MethodName := ⟨RX5, "checkPlace", "(I)V"⟩
abbrev cX5_checkRange : ByteArray := prog_1_method_44_code
def yX5_checkRange : MethodName := ⟨RX5, "checkRange", "(III)V"⟩
abbrev cX5_checkOther : ByteArray := prog_1_method_45_code
def yX5_checkOther : MethodName := ⟨RX5, "checkOther", "(II)V"⟩
abbrev cX5_checkBeater : ByteArray := prog_1_method_46_code
def yX5_checkBeater : MethodName := ⟨RX5, "checkBeater", "(I)V"⟩
abbrev cX5_checkPair : ByteArray := prog_1_method_47_code
def yX5_checkPair : MethodName := ⟨RX5, "checkPair", "(II)V"⟩
abbrev cX5_checkNoNoise : ByteArray := prog_1_method_48_code
def yX5_checkNoNoise : MethodName := ⟨RX5, "checkNoNoise", "()V"⟩
abbrev cX5_netSize : ByteArray := prog_1_method_49_code
def yX5_netSize : MethodName := ⟨RX5, "netSize", "(CI)I"⟩
abbrev cX5_drawLots : ByteArray := prog_1_method_50_code
def yX5_drawLots : MethodName := ⟨RX5, "drawLots", "()I"⟩
abbrev cX5_noteFlashes : ByteArray := prog_1_method_51_code
def yX5_noteFlashes : MethodName := ⟨RX5, "noteFlashes", "(I)I"⟩
abbrev cX5_wayAhead : ByteArray := prog_1_method_52_code
def yX5_wayAhead : MethodName := ⟨RX5, "wayAhead", "()LPulseMeadow$Way;"⟩
abbrev cX5_setPair : ByteArray := prog_1_method_53_code
def yX5_setPair : MethodName := ⟨RX5, "setPair", "(II)V"⟩
abbrev cX5_followPair : ByteArray := prog_1_method_54_code
def yX5_followPair : MethodName := ⟨RX5, "followPair", "(III)Z"⟩
abbrev cX5_flashEquallyOften : ByteArray := prog_1_method_55_code
def yX5_flashEquallyOften : MethodName := ⟨RX5, "flashEquallyOften", "(II)Z"⟩
abbrev cX5_pushedPhase : ByteArray := prog_1_method_56_code
def yX5_pushedPhase : MethodName := ⟨RX5, "pushedPhase", "(I)I"⟩
abbrev cX5_movableByPush : ByteArray := prog_1_method_57_code
def yX5_movableByPush : MethodName := ⟨RX5, "movableByPush", "()I"⟩
abbrev cX5_firstInStepSet : ByteArray := prog_1_method_58_code
def yX5_firstInStepSet : MethodName := ⟨RX5, "firstInStepSet", "(II)I"⟩
abbrev cX5_bringsInStep : ByteArray := prog_1_method_59_code
def yX5_bringsInStep : MethodName := ⟨RX5, "bringsInStep", "(I)Z"⟩
def RX6 : String := "PulseMeadowModel$Field"
def TX6 : u_T := fun k => match k with
  | 0 => ("PulseMeadowModel$Field", "isThere", "[Z", true)
  | 1 => ("PulseMeadowModel$Field", "period", "[I", true)
  | 2 => ("PulseMeadowModel$Field", "phase", "[I", true)
  | 3 => ("PulseMeadowModel$Field", "quiet", "[I", true)
  | 4 => ("PulseMeadowModel$Field", "waiting", "[I", true)
  | 5 => ("PulseMeadowModel$Field", "flashes", "[Z", true)
  | 6 => ("PulseMeadowModel$Field", "time", "I", false)
  | _ => ("PulseMeadowModel$Field", "this$0", "LPulseMeadowModel;", true)
def tyX6 : Nat → FieldType := fun k => match k with
  | 0 => .array .boolean
  | 1 => .array .int
  | 2 => .array .int
  | 3 => .array .int
  | 4 => .array .int
  | 5 => .array .boolean
  | 6 => .int
  | _ => .object "PulseMeadowModel"
abbrev wsX60 : List Cond := u_ws RX6 TX6 8
theorem nmX6 : ∀ a, a < 8 → ∀ b, b < 8 → a ≠ b → (TX6 a).2.1 ≠ (TX6 b).2.1 := by decide +kernel
theorem tyX6_ok : ∀ k, k < 8 → parseFieldDescriptor (TX6 k).2.2.1 = some (tyX6 k) := by decide +kernel
abbrev cX6_init : ByteArray := prog_9_method_1_code
def yX6_init : MethodName := ⟨RX6, "<init>", "(LPulseMeadowModel;)V"⟩
abbrev cX6_takes : ByteArray := prog_9_method_2_code
def yX6_takes : MethodName := ⟨RX6, "takes", "(LPulseMeadowModel$Field;)V"⟩
abbrev cX6_takesTwo : ByteArray := prog_9_method_3_code
def yX6_takesTwo : MethodName := ⟨RX6, "takesTwo", "(II)V"⟩
abbrev cX6_setPeriod : ByteArray := prog_9_method_4_code
def yX6_setPeriod : MethodName := ⟨RX6, "setPeriod", "(II)V"⟩
abbrev cX6_tick : ByteArray := prog_9_method_5_code
def yX6_tick : MethodName := ⟨RX6, "tick", "(I)I"⟩
abbrev cX6_isLike : ByteArray := prog_9_method_6_code
def yX6_isLike : MethodName := ⟨RX6, "isLike", "(LPulseMeadowModel$Field;)Z"⟩
def RX7 : String := "PulseMeadowModel$Link"
def TX7 : u_T := fun k => match k with
  | 0 => ("PulseMeadowModel$Link", "from", "I", true)
  | 1 => ("PulseMeadowModel$Link", "to", "I", true)
  | 2 => ("PulseMeadowModel$Link", "delay", "I", true)
  | _ => ("PulseMeadowModel$Link", "strength", "I", true)
def tyX7 : Nat → FieldType := fun k => match k with
  | 0 => .int
  | 1 => .int
  | 2 => .int
  | _ => .int
abbrev wsX70 : List Cond := u_ws RX7 TX7 4
theorem nmX7 : ∀ a, a < 4 → ∀ b, b < 4 → a ≠ b → (TX7 a).2.1 ≠ (TX7 b).2.1 := by decide +kernel
theorem tyX7_ok : ∀ k, k < 4 → parseFieldDescriptor (TX7 k).2.2.1 = some (tyX7 k) := by decide +kernel
abbrev cX7_init : ByteArray := prog_10_method_1_code
def yX7_init : MethodName := ⟨RX7, "<init>", "(IIII)V"⟩
def RX8 : String := "PulseMeadowModel"
def TX8 : u_T := fun k => match k with
  | 0 => ("PulseMeadowModel", "thrown", "I", false)
  | 1 => ("PulseMeadowModel", "answers", "[[I", true)
  | 2 => ("PulseMeadowModel", "links", "Ljava/util/ArrayList;", true)
  | 3 => ("PulseMeadowModel", "now", "LPulseMeadowModel$Field;", true)
  | 4 => ("PulseMeadowModel", "flashed", "[I", true)
  | 5 => ("PulseMeadowModel", "last", "[I", true)
  | 6 => ("PulseMeadowModel", "noise", "I", false)
  | 7 => ("PulseMeadowModel", "z", "J", false)
  | 8 => ("PulseMeadowModel", "start", "LPulseMeadowModel$Field;", true)
  | 9 => ("PulseMeadowModel", "slow", "LPulseMeadowModel$Field;", true)
  | 10 => ("PulseMeadowModel", "fast", "LPulseMeadowModel$Field;", true)
  | 11 => ("PulseMeadowModel", "lead", "I", false)
  | 12 => ("PulseMeadowModel", "cycle", "I", false)
  | 13 => ("PulseMeadowModel", "beats", "[I", true)
  | 14 => ("PulseMeadowModel", "areApart", "[[Z", true)
  | 15 => ("PulseMeadowModel", "marks", "Ljava/util/ArrayList;", true)
  | 16 => ("PulseMeadowModel", "swings", "[Z", true)
  | 17 => ("PulseMeadowModel", "angles", "[F", true)
  | 18 => ("PulseMeadowModel", "speeds", "[F", true)
  | 19 => ("PulseMeadowModel", "stiffness", "I", false)
  | _ => ("PulseMeadowModel", "pull", "I", false)
def tyX8 : Nat → FieldType := fun k => match k with
  | 0 => .int
  | 1 => .array (.array .int)
  | 2 => .object "java/util/ArrayList"
  | 3 => .object "PulseMeadowModel$Field"
  | 4 => .array .int
  | 5 => .array .int
  | 6 => .int
  | 7 => .long
  | 8 => .object "PulseMeadowModel$Field"
  | 9 => .object "PulseMeadowModel$Field"
  | 10 => .object "PulseMeadowModel$Field"
  | 11 => .int
  | 12 => .int
  | 13 => .array .int
  | 14 => .array (.array .boolean)
  | 15 => .object "java/util/ArrayList"
  | 16 => .array .boolean
  | 17 => .array .float
  | 18 => .array .float
  | 19 => .int
  | _ => .int
abbrev wsX80 : List Cond := u_ws RX8 TX8 21
theorem nmX8 : ∀ a, a < 21 → ∀ b, b < 21 → a ≠ b → (TX8 a).2.1 ≠ (TX8 b).2.1 := by decide +kernel
theorem tyX8_ok : ∀ k, k < 21 → parseFieldDescriptor (TX8 k).2.2.1 = some (tyX8 k) := by decide +kernel
abbrev cX8_in : ByteArray := prog_8_method_1_code
def yX8_in : MethodName := ⟨RX8, "in", "(JJJ)Z"⟩
abbrev cX8_init : ByteArray := prog_8_method_2_code
def yX8_init : MethodName := ⟨RX8, "<init>", "()V"⟩
abbrev cX8_thrown : ByteArray := prog_8_method_3_code
def yX8_thrown : MethodName := ⟨RX8, "thrown", "()I"⟩
abbrev cX8_lot : ByteArray := prog_8_method_4_code
def yX8_lot : MethodName := ⟨RX8, "lot", "(I)I"⟩
abbrev cX8_isPlace : ByteArray := prog_8_method_5_code
def yX8_isPlace : MethodName := ⟨RX8, "isPlace", "(I)Z"⟩
abbrev cX8_beater : ByteArray := prog_8_method_6_code
def yX8_beater : MethodName := ⟨RX8, "beater", "(IIII)Z"⟩
abbrev cX8_swing : ByteArray := prog_8_method_7_code
def yX8_swing : MethodName := ⟨RX8, "swing", "(II)Z"⟩
abbrev cX8_isBeater : ByteArray := prog_8_method_8_code
def yX8_isBeater : MethodName := ⟨RX8, "isBeater", "(I)Z"⟩
abbrev cX8_noBeater : ByteArray := prog_8_method_9_code
def yX8_noBeater : MethodName := ⟨RX8, "noBeater", "(I)Z"⟩
abbrev cX8_phase : ByteArray := prog_8_method_10_code
def yX8_phase : MethodName := ⟨RX8, "phase", "(I)I"⟩
abbrev cX8_period : ByteArray := prog_8_method_11_code
def yX8_period : MethodName := ⟨RX8, "period", "(II)I"⟩
abbrev cX8_answer : ByteArray := prog_8_method_12_code
def yX8_answer : MethodName := ⟨RX8, "answer", "(III)I"⟩
abbrev cX8_isLink : ByteArray := prog_8_method_13_code
def yX8_isLink : MethodName := ⟨RX8, "isLink", "(II)Z"⟩
abbrev cX8_link : ByteArray := prog_8_method_14_code
def yX8_link : MethodName := ⟨RX8, "link", "(IIII)I"⟩
abbrev cX8_cut : ByteArray := prog_8_method_15_code
def yX8_cut : MethodName := ⟨RX8, "cut", "(I)I"⟩
abbrev cX8_beaters : ByteArray := prog_8_method_16_code
def yX8_beaters : MethodName := ⟨RX8, "beaters", "()Ljava/util/ArrayList;"⟩
abbrev cX8_net : ByteArray := prog_8_method_17_code
def yX8_net : MethodName := ⟨RX8, "net", "(CII)I"⟩
abbrev cX8_run : ByteArray := prog_8_method_18_code
def yX8_run : MethodName := ⟨RX8, "run", "(I)I"⟩
abbrev cX8_tick : ByteArray := prog_8_method_19_code
def yX8_tick : MethodName := ⟨RX8, "tick", "()I"⟩
abbrev cX8_flashes : ByteArray := prog_8_method_20_code
def yX8_flashes : MethodName := ⟨RX8, "flashes", "(I)I"⟩
abbrev cX8_last : ByteArray := prog_8_method_21_code
def yX8_last : MethodName := ⟨RX8, "last", "(I)I"⟩
abbrev cX8_waitingAt : ByteArray := prog_8_method_22_code
def yX8_waitingAt : MethodName := ⟨RX8, "waitingAt", "(I)I"⟩
abbrev cX8_waiting : ByteArray := prog_8_method_23_code
def yX8_waiting : MethodName := ⟨RX8, "waiting", "(I)I"⟩
abbrev cX8_strip : ByteArray := prog_8_method_24_code
def yX8_strip : MethodName := ⟨RX8, "strip", "(I)I"⟩
abbrev cX8_findCycle : ByteArray := prog_8_method_25_code
def yX8_findCycle : MethodName := ⟨RX8, "findCycle", "()Z"⟩
abbrev cX8_goRound : ByteArray := prog_8_method_26_code
def yX8_goRound : MethodName := ⟨RX8, "goRound", "()V"⟩
abbrev cX8_noWay : ByteArray := prog_8_method_27_code
def yX8_noWay : MethodName := ⟨RX8, "noWay", "(I)Z"⟩
abbrev cX8_cycle : ByteArray := prog_8_method_28_code
def yX8_cycle : MethodName := ⟨RX8, "cycle", "()I"⟩
abbrev cX8_lead : ByteArray := prog_8_method_29_code
def yX8_lead : MethodName := ⟨RX8, "lead", "()I"⟩
abbrev cX8_beats : ByteArray := prog_8_method_30_code
def yX8_beats : MethodName := ⟨RX8, "beats", "(I)I"⟩
abbrev cX8_inStep : ByteArray := prog_8_method_31_code
def yX8_inStep : MethodName := ⟨RX8, "inStep", "(II)Z"⟩
abbrev cX8_firstWith : ByteArray := prog_8_method_32_code
def yX8_firstWith : MethodName := ⟨RX8, "firstWith", "(I)I"⟩
abbrev cX8_groupsUpTo : ByteArray := prog_8_method_33_code
def yX8_groupsUpTo : MethodName := ⟨RX8, "groupsUpTo", "(I)I"⟩
abbrev cX8_groups : ByteArray := prog_8_method_34_code
def yX8_groups : MethodName := ⟨RX8, "groups", "()I"⟩
abbrev cX8_groupOf : ByteArray := prog_8_method_35_code
def yX8_groupOf : MethodName := ⟨RX8, "groupOf", "(I)I"⟩
abbrev cX8_islands : ByteArray := prog_8_method_36_code
def yX8_islands : MethodName := ⟨RX8, "islands", "()I"⟩
abbrev cX8_order : ByteArray := prog_8_method_37_code
def yX8_order : MethodName := ⟨RX8, "order", "(I)I"⟩
abbrev cX8_noTwo : ByteArray := prog_8_method_38_code
def yX8_noTwo : MethodName := ⟨RX8, "noTwo", "(IIZ)Z"⟩
abbrev cX8_map : ByteArray := prog_8_method_39_code
def yX8_map : MethodName := ⟨RX8, "map", "(III)I"⟩
abbrev cX8_locked : ByteArray := prog_8_method_40_code
def yX8_locked : MethodName := ⟨RX8, "locked", "(III)I"⟩
abbrev cX8_locks : ByteArray := prog_8_method_41_code
def yX8_locks : MethodName := ⟨RX8, "locks", "(III)Z"⟩
abbrev cX8_tongue : ByteArray := prog_8_method_42_code
def yX8_tongue : MethodName := ⟨RX8, "tongue", "(II)I"⟩
abbrev cX8_push : ByteArray := prog_8_method_43_code
def yX8_push : MethodName := ⟨RX8, "push", "(II)I"⟩
abbrev cX8_leastPush : ByteArray := prog_8_method_44_code
def yX8_leastPush : MethodName := ⟨RX8, "leastPush", "()I"⟩
abbrev cX8_noise : ByteArray := prog_8_method_45_code
def yX8_noise : MethodName := ⟨RX8, "noise", "(I)I"⟩
abbrev cX8_seed : ByteArray := prog_8_method_46_code
def yX8_seed : MethodName := ⟨RX8, "seed", "(I)I"⟩
abbrev cX8_mark : ByteArray := prog_8_method_47_code
def yX8_mark : MethodName := ⟨RX8, "mark", "(I)I"⟩
abbrev cX8_wipe : ByteArray := prog_8_method_48_code
def yX8_wipe : MethodName := ⟨RX8, "wipe", "()I"⟩
abbrev cX8_fits : ByteArray := prog_8_method_49_code
def yX8_fits : MethodName := ⟨RX8, "fits", "(I)Z"⟩
abbrev cX8_fits_ : ByteArray := prog_8_method_50_code
def yX8_fits_ : MethodName := ⟨RX8, "fits", "()I"⟩
abbrev cX8_guess : ByteArray := prog_8_method_51_code
def yX8_guess : MethodName := ⟨RX8, "guess", "(I)I"⟩
abbrev cX8_beam : ByteArray := prog_8_method_52_code
def yX8_beam : MethodName := ⟨RX8, "beam", "(II)I"⟩
abbrev cX8_manySwings : ByteArray := prog_8_method_53_code
def yX8_manySwings : MethodName := ⟨RX8, "manySwings", "()I"⟩
abbrev cX8_sway : ByteArray := prog_8_method_54_code
def yX8_sway : MethodName := ⟨RX8, "sway", "(I)I"⟩
abbrev cX8_angleBits : ByteArray := prog_8_method_55_code
def yX8_angleBits : MethodName := ⟨RX8, "angleBits", "(I)I"⟩
abbrev cX8_energyBits : ByteArray := prog_8_method_56_code
def yX8_energyBits : MethodName := ⟨RX8, "energyBits", "()J"⟩
abbrev cX8_stepShare : ByteArray := prog_8_method_57_code
def yX8_stepShare : MethodName := ⟨RX8, "stepShare", "()F"⟩
abbrev cX8_meanPhase : ByteArray := prog_8_method_58_code
def yX8_meanPhase : MethodName := ⟨RX8, "meanPhase", "()D"⟩
abbrev cX8_checksum : ByteArray := prog_8_method_59_code
def yX8_checksum : MethodName := ⟨RX8, "checksum", "()J"⟩
abbrev cX8_isTrue : ByteArray := prog_8_method_60_code
def yX8_isTrue : MethodName := ⟨RX8, "isTrue", "()Z"⟩
def RJx145de : String := "java/io/Serializable"
def TJx145de : u_T := fun k => match k with
  | _ => ("", "", "", false)
def tyJx145de : Nat → FieldType := fun k => match k with
  | _ => .int
abbrev wsJx145de0 : List Cond := u_ws RJx145de TJx145de 0
theorem nmJx145de : ∀ a, a < 0 → ∀ b, b < 0 → a ≠ b → (TJx145de a).2.1 ≠ (TJx145de b).2.1 := by decide +kernel
theorem tyJx145de_ok : ∀ k, k < 0 → parseFieldDescriptor (TJx145de k).2.2.1 = some (tyJx145de k) := by decide +kernel
def RJx00060 : String := "java/lang/ArrayIndexOutOfBoundsException"
def TJx00060 : u_T := fun k => match k with
  | 0 => ("java/lang/Throwable", "backtrace", "Ljava/lang/Object;", false)
  | 1 => ("java/lang/Throwable", "detailMessage", "Ljava/lang/String;", false)
  | 2 => ("java/lang/Throwable", "cause", "Ljava/lang/Throwable;", false)
  | 3 => ("java/lang/Throwable", "stackTrace", "[Ljava/lang/StackTraceElement;", false)
  | 4 => ("java/lang/Throwable", "depth", "I", false)
  | _ => ("java/lang/Throwable", "suppressedExceptions", "Ljava/util/List;", false)
def tyJx00060 : Nat → FieldType := fun k => match k with
  | 0 => .object "java/lang/Object"
  | 1 => .object "java/lang/String"
  | 2 => .object "java/lang/Throwable"
  | 3 => .array (.object "java/lang/StackTraceElement")
  | 4 => .int
  | _ => .object "java/util/List"
abbrev wsJx000600 : List Cond := u_ws RJx00060 TJx00060 6
theorem nmJx00060 : ∀ a, a < 6 → ∀ b, b < 6 → a ≠ b → (TJx00060 a).2.1 ≠ (TJx00060 b).2.1 := by decide +kernel
theorem tyJx00060_ok : ∀ k, k < 6 → parseFieldDescriptor (TJx00060 k).2.2.1 = some (tyJx00060 k) := by decide +kernel
abbrev cJx00060_init_a7421 : ByteArray := prog_13_method_2_code
def yJx00060_init_a7421 : MethodName := ⟨RJx00060, "<init>", "(Ljava/lang/String;)V"⟩
def RJx8e188 : String := "java/lang/Cloneable"
def TJx8e188 : u_T := fun k => match k with
  | _ => ("", "", "", false)
def tyJx8e188 : Nat → FieldType := fun k => match k with
  | _ => .int
abbrev wsJx8e1880 : List Cond := u_ws RJx8e188 TJx8e188 0
theorem nmJx8e188 : ∀ a, a < 0 → ∀ b, b < 0 → a ≠ b → (TJx8e188 a).2.1 ≠ (TJx8e188 b).2.1 := by decide +kernel
theorem tyJx8e188_ok : ∀ k, k < 0 → parseFieldDescriptor (TJx8e188 k).2.2.1 = some (tyJx8e188 k) := by decide +kernel
def RJxb160c : String := "java/lang/Comparable"
def TJxb160c : u_T := fun k => match k with
  | _ => ("", "", "", false)
def tyJxb160c : Nat → FieldType := fun k => match k with
  | _ => .int
abbrev wsJxb160c0 : List Cond := u_ws RJxb160c TJxb160c 0
theorem nmJxb160c : ∀ a, a < 0 → ∀ b, b < 0 → a ≠ b → (TJxb160c a).2.1 ≠ (TJxb160c b).2.1 := by decide +kernel
theorem tyJxb160c_ok : ∀ k, k < 0 → parseFieldDescriptor (TJxb160c k).2.2.1 = some (tyJxb160c k) := by decide +kernel
def RJxe99ae : String := "java/lang/Double"
def TJxe99ae : u_T := fun k => match k with
  | _ => ("", "", "", false)
def tyJxe99ae : Nat → FieldType := fun k => match k with
  | _ => .int
abbrev wsJxe99ae0 : List Cond := u_ws RJxe99ae TJxe99ae 0
theorem nmJxe99ae : ∀ a, a < 0 → ∀ b, b < 0 → a ≠ b → (TJxe99ae a).2.1 ≠ (TJxe99ae b).2.1 := by decide +kernel
theorem tyJxe99ae_ok : ∀ k, k < 0 → parseFieldDescriptor (TJxe99ae k).2.2.1 = some (tyJxe99ae k) := by decide +kernel
abbrev cJxe99ae_isNaN_b9ae7 : ByteArray := prog_16_method_6_code
def yJxe99ae_isNaN_b9ae7 : MethodName := ⟨RJxe99ae, "isNaN", "(D)Z"⟩
abbrev cJxe99ae_doubleToLongBits_ccdee : ByteArray := prog_16_method_23_code
def yJxe99ae_doubleToLongBits_ccdee : MethodName := ⟨RJxe99ae, "doubleToLongBits", "(D)J"⟩
def RJxf58ca : String := "java/lang/Float"
def TJxf58ca : u_T := fun k => match k with
  | _ => ("", "", "", false)
def tyJxf58ca : Nat → FieldType := fun k => match k with
  | _ => .int
abbrev wsJxf58ca0 : List Cond := u_ws RJxf58ca TJxf58ca 0
theorem nmJxf58ca : ∀ a, a < 0 → ∀ b, b < 0 → a ≠ b → (TJxf58ca a).2.1 ≠ (TJxf58ca b).2.1 := by decide +kernel
theorem tyJxf58ca_ok : ∀ k, k < 0 → parseFieldDescriptor (TJxf58ca k).2.2.1 = some (tyJxf58ca k) := by decide +kernel
abbrev cJxf58ca_isNaN_12338 : ByteArray := prog_18_method_6_code
def yJxf58ca_isNaN_12338 : MethodName := ⟨RJxf58ca, "isNaN", "(F)Z"⟩
abbrev cJxf58ca_floatToIntBits_5c35a : ByteArray := prog_18_method_24_code
def yJxf58ca_floatToIntBits_5c35a : MethodName := ⟨RJxf58ca, "floatToIntBits", "(F)I"⟩
def RJxabbfe : String := "java/lang/Integer$IntegerCache"
def TJxabbfe : u_T := fun k => match k with
  | _ => ("", "", "", false)
def tyJxabbfe : Nat → FieldType := fun k => match k with
  | _ => .int
abbrev wsJxabbfe0 : List Cond := u_ws RJxabbfe TJxabbfe 0
theorem nmJxabbfe : ∀ a, a < 0 → ∀ b, b < 0 → a ≠ b → (TJxabbfe a).2.1 ≠ (TJxabbfe b).2.1 := by decide +kernel
theorem tyJxabbfe_ok : ∀ k, k < 0 → parseFieldDescriptor (TJxabbfe k).2.2.1 = some (tyJxabbfe k) := by decide +kernel
def RJ6 : String := "java/lang/Integer"
def TJ6 : u_T := fun k => match k with
  | _ => ("java/lang/Integer", "value", "I", true)
def tyJ6 : Nat → FieldType := fun k => match k with
  | _ => .int
abbrev wsJ60 : List Cond := u_ws RJ6 TJ6 1
theorem nmJ6 : ∀ a, a < 1 → ∀ b, b < 1 → a ≠ b → (TJ6 a).2.1 ≠ (TJ6 b).2.1 := by decide +kernel
theorem tyJ6_ok : ∀ k, k < 1 → parseFieldDescriptor (TJ6 k).2.2.1 = some (tyJ6 k) := by decide +kernel
abbrev cJ6_valueOf_2dffe : ByteArray := prog_22_method_22_code
def yJ6_valueOf_2dffe : MethodName := ⟨RJ6, "valueOf", "(I)Ljava/lang/Integer;"⟩
abbrev cJ6_init_d00df : ByteArray := prog_22_method_23_code
def yJ6_init_d00df : MethodName := ⟨RJ6, "<init>", "(I)V"⟩
abbrev cJ6_intValue_8abf5 : ByteArray := prog_22_method_27_code
def yJ6_intValue_8abf5 : MethodName := ⟨RJ6, "intValue", "()I"⟩
abbrev cJ6_bitCount_0f7a4 : ByteArray := prog_22_method_49_code
def yJ6_bitCount_0f7a4 : MethodName := ⟨RJ6, "bitCount", "(I)I"⟩
def RJxab1ab : String := "java/lang/Iterable"
def TJxab1ab : u_T := fun k => match k with
  | _ => ("", "", "", false)
def tyJxab1ab : Nat → FieldType := fun k => match k with
  | _ => .int
abbrev wsJxab1ab0 : List Cond := u_ws RJxab1ab TJxab1ab 0
theorem nmJxab1ab : ∀ a, a < 0 → ∀ b, b < 0 → a ≠ b → (TJxab1ab a).2.1 ≠ (TJxab1ab b).2.1 := by decide +kernel
theorem tyJxab1ab_ok : ∀ k, k < 0 → parseFieldDescriptor (TJxab1ab k).2.2.1 = some (tyJxab1ab k) := by decide +kernel
def RJ9 : String := "java/lang/Math"
def TJ9 : u_T := fun k => match k with
  | _ => ("", "", "", false)
def tyJ9 : Nat → FieldType := fun k => match k with
  | _ => .int
abbrev wsJ90 : List Cond := u_ws RJ9 TJ9 0
theorem nmJ9 : ∀ a, a < 0 → ∀ b, b < 0 → a ≠ b → (TJ9 a).2.1 ≠ (TJ9 b).2.1 := by decide +kernel
theorem tyJ9_ok : ∀ k, k < 0 → parseFieldDescriptor (TJ9 k).2.2.1 = some (tyJ9 k) := by decide +kernel
abbrev cJ9_max_7cf53 : ByteArray := prog_25_method_65_code
def yJ9_max_7cf53 : MethodName := ⟨RJ9, "max", "(II)I"⟩
abbrev cJ9_min_7cf53 : ByteArray := prog_25_method_69_code
def yJ9_min_7cf53 : MethodName := ⟨RJ9, "min", "(II)I"⟩
def RJxd2413 : String := "java/lang/Number"
def TJxd2413 : u_T := fun k => match k with
  | _ => ("", "", "", false)
def tyJxd2413 : Nat → FieldType := fun k => match k with
  | _ => .int
abbrev wsJxd24130 : List Cond := u_ws RJxd2413 TJxd2413 0
theorem nmJxd2413 : ∀ a, a < 0 → ∀ b, b < 0 → a ≠ b → (TJxd2413 a).2.1 ≠ (TJxd2413 b).2.1 := by decide +kernel
theorem tyJxd2413_ok : ∀ k, k < 0 → parseFieldDescriptor (TJxd2413 k).2.2.1 = some (tyJxd2413 k) := by decide +kernel
abbrev cJxd2413_init_da8c8 : ByteArray := prog_26_method_1_code
def yJxd2413_init_da8c8 : MethodName := ⟨RJxd2413, "<init>", "()V"⟩
def RJ0 : String := "java/lang/String"
def TJ0 : u_T := fun k => match k with
  | 0 => ("java/lang/String", "value", "[B", true)
  | _ => ("java/lang/String", "coder", "B", true)
def tyJ0 : Nat → FieldType := fun k => match k with
  | 0 => .array .byte
  | _ => .byte
abbrev wsJ00 : List Cond := u_ws RJ0 TJ0 2
theorem nmJ0 : ∀ a, a < 2 → ∀ b, b < 2 → a ≠ b → (TJ0 a).2.1 ≠ (TJ0 b).2.1 := by decide +kernel
theorem tyJ0_ok : ∀ k, k < 2 → parseFieldDescriptor (TJ0 k).2.2.1 = some (tyJ0 k) := by decide +kernel
def RJ10 : String := "java/lang/System"
def TJ10 : u_T := fun k => match k with
  | _ => ("", "", "", false)
def tyJ10 : Nat → FieldType := fun k => match k with
  | _ => .int
abbrev wsJ100 : List Cond := u_ws RJ10 TJ10 0
theorem nmJ10 : ∀ a, a < 0 → ∀ b, b < 0 → a ≠ b → (TJ10 a).2.1 ≠ (TJ10 b).2.1 := by decide +kernel
theorem tyJ10_ok : ∀ k, k < 0 → parseFieldDescriptor (TJ10 k).2.2.1 = some (tyJ10 k) := by decide +kernel
def RJxfd54e : String := "java/lang/constant/Constable"
def TJxfd54e : u_T := fun k => match k with
  | _ => ("", "", "", false)
def tyJxfd54e : Nat → FieldType := fun k => match k with
  | _ => .int
abbrev wsJxfd54e0 : List Cond := u_ws RJxfd54e TJxfd54e 0
theorem nmJxfd54e : ∀ a, a < 0 → ∀ b, b < 0 → a ≠ b → (TJxfd54e a).2.1 ≠ (TJxfd54e b).2.1 := by decide +kernel
theorem tyJxfd54e_ok : ∀ k, k < 0 → parseFieldDescriptor (TJxfd54e k).2.2.1 = some (tyJxfd54e k) := by decide +kernel
def RJx3cf43 : String := "java/lang/constant/ConstantDesc"
def TJx3cf43 : u_T := fun k => match k with
  | _ => ("", "", "", false)
def tyJx3cf43 : Nat → FieldType := fun k => match k with
  | _ => .int
abbrev wsJx3cf430 : List Cond := u_ws RJx3cf43 TJx3cf43 0
theorem nmJx3cf43 : ∀ a, a < 0 → ∀ b, b < 0 → a ≠ b → (TJx3cf43 a).2.1 ≠ (TJx3cf43 b).2.1 := by decide +kernel
theorem tyJx3cf43_ok : ∀ k, k < 0 → parseFieldDescriptor (TJx3cf43 k).2.2.1 = some (tyJx3cf43 k) := by decide +kernel
def RJxa1e45 : String := "java/util/AbstractCollection"
def TJxa1e45 : u_T := fun k => match k with
  | _ => ("", "", "", false)
def tyJxa1e45 : Nat → FieldType := fun k => match k with
  | _ => .int
abbrev wsJxa1e450 : List Cond := u_ws RJxa1e45 TJxa1e45 0
theorem nmJxa1e45 : ∀ a, a < 0 → ∀ b, b < 0 → a ≠ b → (TJxa1e45 a).2.1 ≠ (TJxa1e45 b).2.1 := by decide +kernel
theorem tyJxa1e45_ok : ∀ k, k < 0 → parseFieldDescriptor (TJxa1e45 k).2.2.1 = some (tyJxa1e45 k) := by decide +kernel
abbrev cJxa1e45_init_da8c8 : ByteArray := prog_34_method_1_code
def yJxa1e45_init_da8c8 : MethodName := ⟨RJxa1e45, "<init>", "()V"⟩
def RJxc12de : String := "java/util/AbstractList"
def TJxc12de : u_T := fun k => match k with
  | _ => ("", "", "", false)
def tyJxc12de : Nat → FieldType := fun k => match k with
  | _ => .int
abbrev wsJxc12de0 : List Cond := u_ws RJxc12de TJxc12de 0
theorem nmJxc12de : ∀ a, a < 0 → ∀ b, b < 0 → a ≠ b → (TJxc12de a).2.1 ≠ (TJxc12de b).2.1 := by decide +kernel
theorem tyJxc12de_ok : ∀ k, k < 0 → parseFieldDescriptor (TJxc12de k).2.2.1 = some (tyJxc12de k) := by decide +kernel
abbrev cJxc12de_init_da8c8 : ByteArray := prog_35_method_1_code
def yJxc12de_init_da8c8 : MethodName := ⟨RJxc12de, "<init>", "()V"⟩
def RJx35411 : String := "java/util/ArrayList$Itr"
def TJx35411 : u_T := fun k => match k with
  | 0 => ("java/util/ArrayList$Itr", "cursor", "I", false)
  | 1 => ("java/util/ArrayList$Itr", "lastRet", "I", false)
  | 2 => ("java/util/ArrayList$Itr", "expectedModCount", "I", false)
  | _ => ("java/util/ArrayList$Itr", "this$0", "Ljava/util/ArrayList;", true)
def tyJx35411 : Nat → FieldType := fun k => match k with
  | 0 => .int
  | 1 => .int
  | 2 => .int
  | _ => .object "java/util/ArrayList"
abbrev wsJx354110 : List Cond := u_ws RJx35411 TJx35411 4
theorem nmJx35411 : ∀ a, a < 4 → ∀ b, b < 4 → a ≠ b → (TJx35411 a).2.1 ≠ (TJx35411 b).2.1 := by decide +kernel
theorem tyJx35411_ok : ∀ k, k < 4 → parseFieldDescriptor (TJx35411 k).2.2.1 = some (tyJx35411 k) := by decide +kernel
abbrev cJx35411_init_45d68 : ByteArray := prog_37_method_1_code
def yJx35411_init_45d68 : MethodName := ⟨RJx35411, "<init>", "(Ljava/util/ArrayList;)V"⟩
abbrev cJx35411_hasNext_aae02 : ByteArray := prog_37_method_2_code
def yJx35411_hasNext_aae02 : MethodName := ⟨RJx35411, "hasNext", "()Z"⟩
abbrev cJx35411_next_0502b : ByteArray := prog_37_method_3_code
def yJx35411_next_0502b : MethodName := ⟨RJx35411, "next", "()Ljava/lang/Object;"⟩
abbrev cJx35411_checkForComodification_da8c8 : ByteArray := prog_37_method_6_code
def yJx35411_checkForComodification_da8c8 : MethodName := ⟨RJx35411, "checkForComodification", "()V"⟩
def RJx4a65c : String := "java/util/ArrayList"
def TJx4a65c : u_T := fun k => match k with
  | 0 => ("java/util/AbstractList", "modCount", "I", false)
  | 1 => ("java/util/ArrayList", "elementData", "[Ljava/lang/Object;", false)
  | _ => ("java/util/ArrayList", "size", "I", false)
def tyJx4a65c : Nat → FieldType := fun k => match k with
  | 0 => .int
  | 1 => .array (.object "java/lang/Object")
  | _ => .int
abbrev wsJx4a65c0 : List Cond := u_ws RJx4a65c TJx4a65c 3
theorem nmJx4a65c : ∀ a, a < 3 → ∀ b, b < 3 → a ≠ b → (TJx4a65c a).2.1 ≠ (TJx4a65c b).2.1 := by decide +kernel
theorem tyJx4a65c_ok : ∀ k, k < 3 → parseFieldDescriptor (TJx4a65c k).2.2.1 = some (tyJx4a65c k) := by decide +kernel
abbrev cJx4a65c_init_da8c8 : ByteArray := prog_36_method_2_code
def yJx4a65c_init_da8c8 : MethodName := ⟨RJx4a65c, "<init>", "()V"⟩
abbrev cJx4a65c_grow_92f84 : ByteArray := prog_36_method_6_code
def yJx4a65c_grow_92f84 : MethodName := ⟨RJx4a65c, "grow", "(I)[Ljava/lang/Object;"⟩
abbrev cJx4a65c_grow_d5877 : ByteArray := prog_36_method_7_code
def yJx4a65c_grow_d5877 : MethodName := ⟨RJx4a65c, "grow", "()[Ljava/lang/Object;"⟩
abbrev cJx4a65c_size_8abf5 : ByteArray := prog_36_method_8_code
def yJx4a65c_size_8abf5 : MethodName := ⟨RJx4a65c, "size", "()I"⟩
abbrev cJx4a65c_isEmpty_aae02 : ByteArray := prog_36_method_9_code
def yJx4a65c_isEmpty_aae02 : MethodName := ⟨RJx4a65c, "isEmpty", "()Z"⟩
abbrev cJx4a65c_elementData_915e3 : ByteArray := prog_36_method_18_code
def yJx4a65c_elementData_915e3 : MethodName := ⟨RJx4a65c, "elementData", "(I)Ljava/lang/Object;"⟩
abbrev cJx4a65c_get_915e3 : ByteArray := prog_36_method_20_code
def yJx4a65c_get_915e3 : MethodName := ⟨RJx4a65c, "get", "(I)Ljava/lang/Object;"⟩
abbrev cJx4a65c_add_72be8 : ByteArray := prog_36_method_24_code
def yJx4a65c_add_72be8 : MethodName := ⟨RJx4a65c, "add", "(Ljava/lang/Object;[Ljava/lang/Object;I)V"⟩
abbrev cJx4a65c_add_9ea2d : ByteArray := prog_36_method_25_code
def yJx4a65c_add_9ea2d : MethodName := ⟨RJx4a65c, "add", "(Ljava/lang/Object;)Z"⟩
abbrev cJx4a65c_remove_915e3 : ByteArray := prog_36_method_29_code
def yJx4a65c_remove_915e3 : MethodName := ⟨RJx4a65c, "remove", "(I)Ljava/lang/Object;"⟩
abbrev cJx4a65c_fastRemove_b59b0 : ByteArray := prog_36_method_39_code
def yJx4a65c_fastRemove_b59b0 : MethodName := ⟨RJx4a65c, "fastRemove", "([Ljava/lang/Object;I)V"⟩
abbrev cJx4a65c_clear_da8c8 : ByteArray := prog_36_method_40_code
def yJx4a65c_clear_da8c8 : MethodName := ⟨RJx4a65c, "clear", "()V"⟩
abbrev cJx4a65c_iterator_32c93 : ByteArray := prog_36_method_55_code
def yJx4a65c_iterator_32c93 : MethodName := ⟨RJx4a65c, "iterator", "()Ljava/util/Iterator;"⟩
def RJ7 : String := "java/util/Arrays"
def TJ7 : u_T := fun k => match k with
  | _ => ("", "", "", false)
def tyJ7 : Nat → FieldType := fun k => match k with
  | _ => .int
abbrev wsJ70 : List Cond := u_ws RJ7 TJ7 0
theorem nmJ7 : ∀ a, a < 0 → ∀ b, b < 0 → a ≠ b → (TJ7 a).2.1 ≠ (TJ7 b).2.1 := by decide +kernel
theorem tyJ7_ok : ∀ k, k < 0 → parseFieldDescriptor (TJ7 k).2.2.1 = some (tyJ7 k) := by decide +kernel
abbrev cJ7_copyOf_1904c : ByteArray := prog_38_method_119_code
def yJ7_copyOf_1904c : MethodName := ⟨RJ7, "copyOf", "([Ljava/lang/Object;I)[Ljava/lang/Object;"⟩
abbrev cJ7_copyOf_6403c : ByteArray := prog_38_method_120_code
def yJ7_copyOf_6403c : MethodName := ⟨RJ7, "copyOf", "([Ljava/lang/Object;ILjava/lang/Class;)[Ljava/lang/Object;"⟩
def RJx5ef63 : String := "java/util/Collection"
def TJx5ef63 : u_T := fun k => match k with
  | _ => ("", "", "", false)
def tyJx5ef63 : Nat → FieldType := fun k => match k with
  | _ => .int
abbrev wsJx5ef630 : List Cond := u_ws RJx5ef63 TJx5ef63 0
theorem nmJx5ef63 : ∀ a, a < 0 → ∀ b, b < 0 → a ≠ b → (TJx5ef63 a).2.1 ≠ (TJx5ef63 b).2.1 := by decide +kernel
theorem tyJx5ef63_ok : ∀ k, k < 0 → parseFieldDescriptor (TJx5ef63 k).2.2.1 = some (tyJx5ef63 k) := by decide +kernel
def RJx4d0d8 : String := "java/util/Iterator"
def TJx4d0d8 : u_T := fun k => match k with
  | _ => ("", "", "", false)
def tyJx4d0d8 : Nat → FieldType := fun k => match k with
  | _ => .int
abbrev wsJx4d0d80 : List Cond := u_ws RJx4d0d8 TJx4d0d8 0
theorem nmJx4d0d8 : ∀ a, a < 0 → ∀ b, b < 0 → a ≠ b → (TJx4d0d8 a).2.1 ≠ (TJx4d0d8 b).2.1 := by decide +kernel
theorem tyJx4d0d8_ok : ∀ k, k < 0 → parseFieldDescriptor (TJx4d0d8 k).2.2.1 = some (tyJx4d0d8 k) := by decide +kernel
def RJxbd725 : String := "java/util/List"
def TJxbd725 : u_T := fun k => match k with
  | _ => ("", "", "", false)
def tyJxbd725 : Nat → FieldType := fun k => match k with
  | _ => .int
abbrev wsJxbd7250 : List Cond := u_ws RJxbd725 TJxbd725 0
theorem nmJxbd725 : ∀ a, a < 0 → ∀ b, b < 0 → a ≠ b → (TJxbd725 a).2.1 ≠ (TJxbd725 b).2.1 := by decide +kernel
theorem tyJxbd725_ok : ∀ k, k < 0 → parseFieldDescriptor (TJxbd725 k).2.2.1 = some (tyJxbd725 k) := by decide +kernel
def RJ15 : String := "java/util/Objects"
def TJ15 : u_T := fun k => match k with
  | _ => ("", "", "", false)
def tyJ15 : Nat → FieldType := fun k => match k with
  | _ => .int
abbrev wsJ150 : List Cond := u_ws RJ15 TJ15 0
theorem nmJ15 : ∀ a, a < 0 → ∀ b, b < 0 → a ≠ b → (TJ15 a).2.1 ≠ (TJ15 b).2.1 := by decide +kernel
theorem tyJ15_ok : ∀ k, k < 0 → parseFieldDescriptor (TJ15 k).2.2.1 = some (tyJ15 k) := by decide +kernel
abbrev cJ15_checkIndex_7cf53 : ByteArray := prog_43_method_17_code
def yJ15_checkIndex_7cf53 : MethodName := ⟨RJ15, "checkIndex", "(II)I"⟩
def RJxf0a74 : String := "java/util/RandomAccess"
def TJxf0a74 : u_T := fun k => match k with
  | _ => ("", "", "", false)
def tyJxf0a74 : Nat → FieldType := fun k => match k with
  | _ => .int
abbrev wsJxf0a740 : List Cond := u_ws RJxf0a74 TJxf0a74 0
theorem nmJxf0a74 : ∀ a, a < 0 → ∀ b, b < 0 → a ≠ b → (TJxf0a74 a).2.1 ≠ (TJxf0a74 b).2.1 := by decide +kernel
theorem tyJxf0a74_ok : ∀ k, k < 0 → parseFieldDescriptor (TJxf0a74 k).2.2.1 = some (tyJxf0a74 k) := by decide +kernel
def RJxa66e6 : String := "java/util/SequencedCollection"
def TJxa66e6 : u_T := fun k => match k with
  | _ => ("", "", "", false)
def tyJxa66e6 : Nat → FieldType := fun k => match k with
  | _ => .int
abbrev wsJxa66e60 : List Cond := u_ws RJxa66e6 TJxa66e6 0
theorem nmJxa66e6 : ∀ a, a < 0 → ∀ b, b < 0 → a ≠ b → (TJxa66e6 a).2.1 ≠ (TJxa66e6 b).2.1 := by decide +kernel
theorem tyJxa66e6_ok : ∀ k, k < 0 → parseFieldDescriptor (TJxa66e6 k).2.2.1 = some (tyJxa66e6 k) := by decide +kernel
def RJ8 : String := "jdk/internal/util/ArraysSupport"
def TJ8 : u_T := fun k => match k with
  | _ => ("", "", "", false)
def tyJ8 : Nat → FieldType := fun k => match k with
  | _ => .int
abbrev wsJ80 : List Cond := u_ws RJ8 TJ8 0
theorem nmJ8 : ∀ a, a < 0 → ∀ b, b < 0 → a ≠ b → (TJ8 a).2.1 ≠ (TJ8 b).2.1 := by decide +kernel
theorem tyJ8_ok : ∀ k, k < 0 → parseFieldDescriptor (TJ8 k).2.2.1 = some (tyJ8 k) := by decide +kernel
abbrev cJ8_newLength_cabcc : ByteArray := prog_46_method_27_code
def yJ8_newLength_cabcc : MethodName := ⟨RJ8, "newLength", "(III)I"⟩
abbrev cJ8_hugeLength_7cf53 : ByteArray := prog_46_method_28_code
def yJ8_hugeLength_7cf53 : MethodName := ⟨RJ8, "hugeLength", "(II)I"⟩
def RJ3 : String := "jdk/internal/util/Preconditions"
def TJ3 : u_T := fun k => match k with
  | _ => ("", "", "", false)
def tyJ3 : Nat → FieldType := fun k => match k with
  | _ => .int
abbrev wsJ30 : List Cond := u_ws RJ3 TJ3 0
theorem nmJ3 : ∀ a, a < 0 → ∀ b, b < 0 → a ≠ b → (TJ3 a).2.1 ≠ (TJ3 b).2.1 := by decide +kernel
theorem tyJ3_ok : ∀ k, k < 0 → parseFieldDescriptor (TJ3 k).2.2.1 = some (tyJ3 k) := by decide +kernel
abbrev cJ3_checkIndex_8e157 : ByteArray := prog_47_method_11_code
def yJ3_checkIndex_8e157 : MethodName := ⟨RJ3, "checkIndex", "(IILjava/util/function/BiFunction;)I"⟩
def RL : String := "PulseMeadowLaw"
abbrev cL_beater : ByteArray := method_3_code
def yL_beater : MethodName := ⟨RL, "beater", "(LPulseMeadow;IIII[J)I"⟩
abbrev cL_swing : ByteArray := method_4_code
def yL_swing : MethodName := ⟨RL, "swing", "(LPulseMeadow;II[J)I"⟩
abbrev cL_phase : ByteArray := method_5_code
def yL_phase : MethodName := ⟨RL, "phase", "(LPulseMeadow;I[J)I"⟩
abbrev cL_period : ByteArray := method_6_code
def yL_period : MethodName := ⟨RL, "period", "(LPulseMeadow;II[J)I"⟩
abbrev cL_answer : ByteArray := method_7_code
def yL_answer : MethodName := ⟨RL, "answer", "(LPulseMeadow;III[J)I"⟩
abbrev cL_link : ByteArray := method_8_code
def yL_link : MethodName := ⟨RL, "link", "(LPulseMeadow;IIII[J)I"⟩
abbrev cL_cut : ByteArray := method_9_code
def yL_cut : MethodName := ⟨RL, "cut", "(LPulseMeadow;I[J)I"⟩
abbrev cL_net : ByteArray := method_10_code
def yL_net : MethodName := ⟨RL, "net", "(LPulseMeadow;CII[J)I"⟩
abbrev cL_run : ByteArray := method_11_code
def yL_run : MethodName := ⟨RL, "run", "(LPulseMeadow;I[J)I"⟩
abbrev cL_flashes : ByteArray := method_12_code
def yL_flashes : MethodName := ⟨RL, "flashes", "(LPulseMeadow;I[J)I"⟩
abbrev cL_last : ByteArray := method_13_code
def yL_last : MethodName := ⟨RL, "last", "(LPulseMeadow;I[J)I"⟩
abbrev cL_waiting : ByteArray := method_14_code
def yL_waiting : MethodName := ⟨RL, "waiting", "(LPulseMeadow;I[J)I"⟩
abbrev cL_strip : ByteArray := method_15_code
def yL_strip : MethodName := ⟨RL, "strip", "(LPulseMeadow;I[J)I"⟩
abbrev cL_cycle : ByteArray := method_16_code
def yL_cycle : MethodName := ⟨RL, "cycle", "(LPulseMeadow;[J)I"⟩
abbrev cL_lead : ByteArray := method_17_code
def yL_lead : MethodName := ⟨RL, "lead", "(LPulseMeadow;[J)I"⟩
abbrev cL_beats : ByteArray := method_18_code
def yL_beats : MethodName := ⟨RL, "beats", "(LPulseMeadow;I[J)I"⟩
abbrev cL_inStep : ByteArray := method_19_code
def yL_inStep : MethodName := ⟨RL, "inStep", "(LPulseMeadow;II[J)I"⟩
abbrev cL_groups : ByteArray := method_20_code
def yL_groups : MethodName := ⟨RL, "groups", "(LPulseMeadow;[J)I"⟩
abbrev cL_groupOf : ByteArray := method_21_code
def yL_groupOf : MethodName := ⟨RL, "groupOf", "(LPulseMeadow;I[J)I"⟩
abbrev cL_islands : ByteArray := method_22_code
def yL_islands : MethodName := ⟨RL, "islands", "(LPulseMeadow;[J)I"⟩
abbrev cL_order : ByteArray := method_23_code
def yL_order : MethodName := ⟨RL, "order", "(LPulseMeadow;I[J)I"⟩
abbrev cL_map : ByteArray := method_24_code
def yL_map : MethodName := ⟨RL, "map", "(LPulseMeadow;III[J)I"⟩
abbrev cL_locks : ByteArray := method_25_code
def yL_locks : MethodName := ⟨RL, "locks", "(LPulseMeadow;III[J)I"⟩
abbrev cL_tongue : ByteArray := method_26_code
def yL_tongue : MethodName := ⟨RL, "tongue", "(LPulseMeadow;II[J)I"⟩
abbrev cL_push : ByteArray := method_27_code
def yL_push : MethodName := ⟨RL, "push", "(LPulseMeadow;II[J)I"⟩
abbrev cL_leastPush : ByteArray := method_28_code
def yL_leastPush : MethodName := ⟨RL, "leastPush", "(LPulseMeadow;[J)I"⟩
abbrev cL_noise : ByteArray := method_29_code
def yL_noise : MethodName := ⟨RL, "noise", "(LPulseMeadow;I[J)I"⟩
abbrev cL_seed : ByteArray := method_30_code
def yL_seed : MethodName := ⟨RL, "seed", "(LPulseMeadow;I[J)I"⟩
abbrev cL_mark : ByteArray := method_31_code
def yL_mark : MethodName := ⟨RL, "mark", "(LPulseMeadow;I[J)I"⟩
abbrev cL_guess : ByteArray := method_32_code
def yL_guess : MethodName := ⟨RL, "guess", "(LPulseMeadow;I[J)I"⟩
abbrev cL_beam : ByteArray := method_33_code
def yL_beam : MethodName := ⟨RL, "beam", "(LPulseMeadow;II[J)I"⟩
abbrev cL_sway : ByteArray := method_34_code
def yL_sway : MethodName := ⟨RL, "sway", "(LPulseMeadow;I[J)I"⟩
abbrev cL_angleBits : ByteArray := method_35_code
def yL_angleBits : MethodName := ⟨RL, "angleBits", "(LPulseMeadow;I[J)I"⟩
abbrev cL_stepShare : ByteArray := method_36_code
def yL_stepShare : MethodName := ⟨RL, "stepShare", "(LPulseMeadow;[D)I"⟩
abbrev cL_meanPhase : ByteArray := method_37_code
def yL_meanPhase : MethodName := ⟨RL, "meanPhase", "(LPulseMeadow;[D)I"⟩
abbrev cL_law : ByteArray := code
def yL_law : MethodName := ⟨RL, "law", "([I)Z"⟩
abbrev vwCl : List vw_C := [(RJ0, TJ0, 2), (RJ6, TJ6, 1), (RJx00060, TJx00060, 6), (RJx35411, TJx35411, 4), (RJx4a65c, TJx4a65c, 3), (RX0, TX0, 2), (RX1, TX1, 11), (RX2, TX2, 3), (RX3, TX3, 5), (RX4, TX4, 6), (RX5, TX5, 15), (RX6, TX6, 8), (RX7, TX7, 4), (RX8, TX8, 21)]
