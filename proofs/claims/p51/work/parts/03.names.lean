def RX0 : String := "FusionFront$Front"
def TX0 : u_T := fun k => match k with
  | 0 => ("FusionFront$Front", "program", "LFusionFront$Program;", false)
  | 1 => ("FusionFront$Front", "settings", "[I", true)
  | 2 => ("FusionFront$Front", "rules", "LFusionFront$Rules;", true)
  | 3 => ("FusionFront$Front", "queue", "LFusionFront$Queue;", true)
  | 4 => ("FusionFront$Front", "replay", "LFusionFront$Replay;", true)
  | 5 => ("FusionFront$Front", "turns", "LFusionFront$Turns;", true)
  | 6 => ("FusionFront$Front", "plainDecoder", "LFusionFront$PlainDecoder;", true)
  | 7 => ("FusionFront$Front", "tally", "LFusionFront$Tally;", true)
  | 8 => ("FusionFront$Front", "wasTaken", "[Z", true)
  | 9 => ("FusionFront$Front", "lastTaken", "I", false)
  | 10 => ("FusionFront$Front", "place", "I", false)
  | 11 => ("FusionFront$Front", "placeWasSet", "Z", false)
  | 12 => ("FusionFront$Front", "reach", "I", false)
  | 13 => ("FusionFront$Front", "cut", "Z", false)
  | 14 => ("FusionFront$Front", "waiting", "I", false)
  | 15 => ("FusionFront$Front", "pause", "I", false)
  | 16 => ("FusionFront$Front", "lengthPause", "I", false)
  | _ => ("FusionFront$Front", "stallLeft", "I", false)
def tyX0 : Nat → FieldType := fun k => match k with
  | 0 => .object "FusionFront$Program"
  | 1 => .array .int
  | 2 => .object "FusionFront$Rules"
  | 3 => .object "FusionFront$Queue"
  | 4 => .object "FusionFront$Replay"
  | 5 => .object "FusionFront$Turns"
  | 6 => .object "FusionFront$PlainDecoder"
  | 7 => .object "FusionFront$Tally"
  | 8 => .array .boolean
  | 9 => .int
  | 10 => .int
  | 11 => .boolean
  | 12 => .int
  | 13 => .boolean
  | 14 => .int
  | 15 => .int
  | 16 => .int
  | _ => .int
abbrev wsX00 : List Cond := u_ws RX0 TX0 18
theorem nmX0 : ∀ a, a < 18 → ∀ b, b < 18 → a ≠ b → (TX0 a).2.1 ≠ (TX0 b).2.1 := by decide +kernel
theorem tyX0_ok : ∀ k, k < 18 → parseFieldDescriptor (TX0 k).2.2.1 = some (tyX0 k) := by decide +kernel
abbrev cX0_init : ByteArray := prog_2_method_1_code
def yX0_init : MethodName := ⟨RX0, "<init>", "(LFusionFront$Program;)V"⟩
abbrev cX0_begin : ByteArray := prog_2_method_2_code
def yX0_begin : MethodName := ⟨RX0, "begin", "(LFusionFront$Program;)V"⟩
abbrev cX0_copyFrom : ByteArray := prog_2_method_3_code
def yX0_copyFrom : MethodName := ⟨RX0, "copyFrom", "(LFusionFront$Front;)V"⟩
abbrev cX0_decodeFor : ByteArray := prog_2_method_4_code
def yX0_decodeFor : MethodName := ⟨RX0, "decodeFor", "(I)I"⟩
abbrev cX0_passCycle : ByteArray := prog_2_method_5_code
def yX0_passCycle : MethodName := ⟨RX0, "passCycle", "()V"⟩
abbrev cX0_takeOps : ByteArray := prog_2_method_6_code
def yX0_takeOps : MethodName := ⟨RX0, "takeOps", "()V"⟩
abbrev cX0_decodeLanes : ByteArray := prog_2_method_7_code
def yX0_decodeLanes : MethodName := ⟨RX0, "decodeLanes", "()V"⟩
abbrev cX0_nextNumber : ByteArray := prog_2_method_8_code
def yX0_nextNumber : MethodName := ⟨RX0, "nextNumber", "()I"⟩
abbrev cX0_isFused : ByteArray := prog_2_method_9_code
def yX0_isFused : MethodName := ⟨RX0, "isFused", "(I)Z"⟩
abbrev cX0_fusesWithNext : ByteArray := prog_2_method_10_code
def yX0_fusesWithNext : MethodName := ⟨RX0, "fusesWithNext", "(I)Z"⟩
abbrev cX0_opsOfUnit : ByteArray := prog_2_method_11_code
def yX0_opsOfUnit : MethodName := ⟨RX0, "opsOfUnit", "(II)I"⟩
abbrev cX0_causeOfNothing : ByteArray := prog_2_method_12_code
def yX0_causeOfNothing : MethodName := ⟨RX0, "causeOfNothing", "()I"⟩
abbrev cX0_causeOfStop : ByteArray := prog_2_method_13_code
def yX0_causeOfStop : MethodName := ⟨RX0, "causeOfStop", "(II)I"⟩
abbrev cX0_decodeUnit : ByteArray := prog_2_method_14_code
def yX0_decodeUnit : MethodName := ⟨RX0, "decodeUnit", "(III)Z"⟩
abbrev cX0_follow : ByteArray := prog_2_method_15_code
def yX0_follow : MethodName := ⟨RX0, "follow", "(IZ)I"⟩
abbrev cX0_followInLoop : ByteArray := prog_2_method_16_code
def yX0_followInLoop : MethodName := ⟨RX0, "followInLoop", "(IZ)I"⟩
abbrev cX0_closesLoop : ByteArray := prog_2_method_17_code
def yX0_closesLoop : MethodName := ⟨RX0, "closesLoop", "(I)Z"⟩
abbrev cX0_goTo : ByteArray := prog_2_method_18_code
def yX0_goTo : MethodName := ⟨RX0, "goTo", "(I)V"⟩
abbrev cX0_emptyQueue : ByteArray := prog_2_method_19_code
def yX0_emptyQueue : MethodName := ⟨RX0, "emptyQueue", "()V"⟩
abbrev cX0_setPlace : ByteArray := prog_2_method_20_code
def yX0_setPlace : MethodName := ⟨RX0, "setPlace", "(I)V"⟩
abbrev cX0_fetch : ByteArray := prog_2_method_21_code
def yX0_fetch : MethodName := ⟨RX0, "fetch", "()V"⟩
abbrev cX0_readWindow : ByteArray := prog_2_method_22_code
def yX0_readWindow : MethodName := ⟨RX0, "readWindow", "()V"⟩
abbrev cX0_canMark : ByteArray := prog_2_method_23_code
def yX0_canMark : MethodName := ⟨RX0, "canMark", "()Z"⟩
abbrev cX0_mark : ByteArray := prog_2_method_24_code
def yX0_mark : MethodName := ⟨RX0, "mark", "()Z"⟩
abbrev cX0_predictsTaken : ByteArray := prog_2_method_25_code
def yX0_predictsTaken : MethodName := ⟨RX0, "predictsTaken", "(I)Z"⟩
def RX1 : String := "FusionFront$History"
def TX1 : u_T := fun k => match k with
  | 0 => ("FusionFront$History", "states", "[LFusionFront$Front;", true)
  | 1 => ("FusionFront$History", "oldest", "I", false)
  | _ => ("FusionFront$History", "size", "I", false)
def tyX1 : Nat → FieldType := fun k => match k with
  | 0 => .array (.object "FusionFront$Front")
  | 1 => .int
  | _ => .int
abbrev wsX10 : List Cond := u_ws RX1 TX1 3
theorem nmX1 : ∀ a, a < 3 → ∀ b, b < 3 → a ≠ b → (TX1 a).2.1 ≠ (TX1 b).2.1 := by decide +kernel
theorem tyX1_ok : ∀ k, k < 3 → parseFieldDescriptor (TX1 k).2.2.1 = some (tyX1 k) := by decide +kernel
abbrev cX1_init : ByteArray := prog_3_method_1_code
def yX1_init : MethodName := ⟨RX1, "<init>", "(LFusionFront$Program;)V"⟩
abbrev cX1_forget : ByteArray := prog_3_method_2_code
def yX1_forget : MethodName := ⟨RX1, "forget", "()V"⟩
abbrev cX1_remember : ByteArray := prog_3_method_3_code
def yX1_remember : MethodName := ⟨RX1, "remember", "(LFusionFront$Front;)V"⟩
abbrev cX1_takeBack : ByteArray := prog_3_method_4_code
def yX1_takeBack : MethodName := ⟨RX1, "takeBack", "(LFusionFront$Front;)V"⟩
def RX2 : String := "FusionFront$Output"
def TX2 : u_T := fun k => match k with
  | 0 => ("FusionFront$Output", "bytes", "[B", true)
  | _ => ("FusionFront$Output", "length", "I", false)
def tyX2 : Nat → FieldType := fun k => match k with
  | 0 => .array .byte
  | _ => .int
abbrev wsX20 : List Cond := u_ws RX2 TX2 2
theorem nmX2 : ∀ a, a < 2 → ∀ b, b < 2 → a ≠ b → (TX2 a).2.1 ≠ (TX2 b).2.1 := by decide +kernel
theorem tyX2_ok : ∀ k, k < 2 → parseFieldDescriptor (TX2 k).2.2.1 = some (tyX2 k) := by decide +kernel
abbrev cX2_init : ByteArray := prog_4_method_1_code
def yX2_init : MethodName := ⟨RX2, "<init>", "()V"⟩
def RX3 : String := "FusionFront$Parser"
def TX3 : u_T := fun k => match k with
  | 0 => ("FusionFront$Parser", "text", "[B", false)
  | 1 => ("FusionFront$Parser", "length", "I", false)
  | 2 => ("FusionFront$Parser", "program", "LFusionFront$Program;", false)
  | 3 => ("FusionFront$Parser", "token", "I", false)
  | 4 => ("FusionFront$Parser", "tokenStart", "I", false)
  | 5 => ("FusionFront$Parser", "tokenEnd", "I", false)
  | 6 => ("FusionFront$Parser", "value", "I", false)
  | 7 => ("FusionFront$Parser", "stands", "[Z", true)
  | 8 => ("FusionFront$Parser", "bodies", "[I", true)
  | 9 => ("FusionFront$Parser", "copies", "[I", true)
  | 10 => ("FusionFront$Parser", "depth", "I", false)
  | 11 => ("FusionFront$Parser", "code", "I", false)
  | _ => ("FusionFront$Parser", "offset", "I", false)
def tyX3 : Nat → FieldType := fun k => match k with
  | 0 => .array .byte
  | 1 => .int
  | 2 => .object "FusionFront$Program"
  | 3 => .int
  | 4 => .int
  | 5 => .int
  | 6 => .int
  | 7 => .array .boolean
  | 8 => .array .int
  | 9 => .array .int
  | 10 => .int
  | 11 => .int
  | _ => .int
abbrev wsX30 : List Cond := u_ws RX3 TX3 13
theorem nmX3 : ∀ a, a < 13 → ∀ b, b < 13 → a ≠ b → (TX3 a).2.1 ≠ (TX3 b).2.1 := by decide +kernel
theorem tyX3_ok : ∀ k, k < 13 → parseFieldDescriptor (TX3 k).2.2.1 = some (tyX3 k) := by decide +kernel
abbrev cX3_init : ByteArray := prog_5_method_1_code
def yX3_init : MethodName := ⟨RX3, "<init>", "()V"⟩
abbrev cX3_readText : ByteArray := prog_5_method_2_code
def yX3_readText : MethodName := ⟨RX3, "readText", "([BILFusionFront$Program;)Z"⟩
abbrev cX3_begin : ByteArray := prog_5_method_3_code
def yX3_begin : MethodName := ⟨RX3, "begin", "([BILFusionFront$Program;)V"⟩
abbrev cX3_fail : ByteArray := prog_5_method_4_code
def yX3_fail : MethodName := ⟨RX3, "fail", "(I)Z"⟩
abbrev cX3_readStatement : ByteArray := prog_5_method_5_code
def yX3_readStatement : MethodName := ⟨RX3, "readStatement", "()Z"⟩
abbrev cX3_openRepeat : ByteArray := prog_5_method_6_code
def yX3_openRepeat : MethodName := ⟨RX3, "openRepeat", "()Z"⟩
abbrev cX3_closeRepeat : ByteArray := prog_5_method_7_code
def yX3_closeRepeat : MethodName := ⟨RX3, "closeRepeat", "()Z"⟩
abbrev cX3_readSetting : ByteArray := prog_5_method_8_code
def yX3_readSetting : MethodName := ⟨RX3, "readSetting", "(I)Z"⟩
abbrev cX3_readRule : ByteArray := prog_5_method_9_code
def yX3_readRule : MethodName := ⟨RX3, "readRule", "()Z"⟩
abbrev cX3_readInstruction : ByteArray := prog_5_method_10_code
def yX3_readInstruction : MethodName := ⟨RX3, "readInstruction", "()Z"⟩
abbrev cX3_readTarget : ByteArray := prog_5_method_11_code
def yX3_readTarget : MethodName := ⟨RX3, "readTarget", "()I"⟩
abbrev cX3_readTimes : ByteArray := prog_5_method_12_code
def yX3_readTimes : MethodName := ⟨RX3, "readTimes", "()I"⟩
abbrev cX3_readNumber : ByteArray := prog_5_method_13_code
def yX3_readNumber : MethodName := ⟨RX3, "readNumber", "(II)I"⟩
abbrev cX3_readSign : ByteArray := prog_5_method_14_code
def yX3_readSign : MethodName := ⟨RX3, "readSign", "(I)Z"⟩
abbrev cX3_tokenIs : ByteArray := prog_5_method_15_code
def yX3_tokenIs : MethodName := ⟨RX3, "tokenIs", "(Ljava/lang/String;)Z"⟩
abbrev cX3_kindOfToken : ByteArray := prog_5_method_16_code
def yX3_kindOfToken : MethodName := ⟨RX3, "kindOfToken", "()I"⟩
abbrev cX3_settingOfToken : ByteArray := prog_5_method_17_code
def yX3_settingOfToken : MethodName := ⟨RX3, "settingOfToken", "()I"⟩
abbrev cX3_readToken : ByteArray := prog_5_method_18_code
def yX3_readToken : MethodName := ⟨RX3, "readToken", "()V"⟩
abbrev cX3_endOfWord : ByteArray := prog_5_method_19_code
def yX3_endOfWord : MethodName := ⟨RX3, "endOfWord", "(I)I"⟩
abbrev cX3_endOfNumber : ByteArray := prog_5_method_20_code
def yX3_endOfNumber : MethodName := ⟨RX3, "endOfNumber", "(I)I"⟩
def RX4 : String := "FusionFront$PlainDecoder"
def TX4 : u_T := fun k => match k with
  | 0 => ("FusionFront$PlainDecoder", "turns", "LFusionFront$Turns;", true)
  | _ => ("FusionFront$PlainDecoder", "place", "I", false)
def tyX4 : Nat → FieldType := fun k => match k with
  | 0 => .object "FusionFront$Turns"
  | _ => .int
abbrev wsX40 : List Cond := u_ws RX4 TX4 2
theorem nmX4 : ∀ a, a < 2 → ∀ b, b < 2 → a ≠ b → (TX4 a).2.1 ≠ (TX4 b).2.1 := by decide +kernel
theorem tyX4_ok : ∀ k, k < 2 → parseFieldDescriptor (TX4 k).2.2.1 = some (tyX4 k) := by decide +kernel
abbrev cX4_init : ByteArray := prog_6_method_1_code
def yX4_init : MethodName := ⟨RX4, "<init>", "()V"⟩
abbrev cX4_begin : ByteArray := prog_6_method_2_code
def yX4_begin : MethodName := ⟨RX4, "begin", "()V"⟩
abbrev cX4_next : ByteArray := prog_6_method_3_code
def yX4_next : MethodName := ⟨RX4, "next", "(LFusionFront$Program;)I"⟩
abbrev cX4_copyFrom : ByteArray := prog_6_method_4_code
def yX4_copyFrom : MethodName := ⟨RX4, "copyFrom", "(LFusionFront$PlainDecoder;)V"⟩
def RX5 : String := "FusionFront$Program"
def TX5 : u_T := fun k => match k with
  | 0 => ("FusionFront$Program", "settings", "[I", true)
  | 1 => ("FusionFront$Program", "rules", "LFusionFront$Rules;", true)
  | 2 => ("FusionFront$Program", "kinds", "[I", true)
  | 3 => ("FusionFront$Program", "longs", "[Z", true)
  | 4 => ("FusionFront$Program", "steps", "[I", true)
  | 5 => ("FusionFront$Program", "taken", "[I", true)
  | 6 => ("FusionFront$Program", "starts", "[I", true)
  | 7 => ("FusionFront$Program", "ops", "[I", true)
  | 8 => ("FusionFront$Program", "targets", "[I", true)
  | 9 => ("FusionFront$Program", "loopOps", "[I", true)
  | _ => ("FusionFront$Program", "size", "I", false)
def tyX5 : Nat → FieldType := fun k => match k with
  | 0 => .array .int
  | 1 => .object "FusionFront$Rules"
  | 2 => .array .int
  | 3 => .array .boolean
  | 4 => .array .int
  | 5 => .array .int
  | 6 => .array .int
  | 7 => .array .int
  | 8 => .array .int
  | 9 => .array .int
  | _ => .int
abbrev wsX50 : List Cond := u_ws RX5 TX5 11
theorem nmX5 : ∀ a, a < 11 → ∀ b, b < 11 → a ≠ b → (TX5 a).2.1 ≠ (TX5 b).2.1 := by decide +kernel
theorem tyX5_ok : ∀ k, k < 11 → parseFieldDescriptor (TX5 k).2.2.1 = some (tyX5 k) := by decide +kernel
abbrev cX5_init : ByteArray := prog_7_method_1_code
def yX5_init : MethodName := ⟨RX5, "<init>", "()V"⟩
abbrev cX5_clear : ByteArray := prog_7_method_2_code
def yX5_clear : MethodName := ⟨RX5, "clear", "()V"⟩
abbrev cX5_append : ByteArray := prog_7_method_3_code
def yX5_append : MethodName := ⟨RX5, "append", "(IZII)V"⟩
abbrev cX5_repeatFrom : ByteArray := prog_7_method_4_code
def yX5_repeatFrom : MethodName := ⟨RX5, "repeatFrom", "(II)V"⟩
abbrev cX5_link : ByteArray := prog_7_method_5_code
def yX5_link : MethodName := ⟨RX5, "link", "()V"⟩
abbrev cX5_opsFromTarget : ByteArray := prog_7_method_6_code
def yX5_opsFromTarget : MethodName := ⟨RX5, "opsFromTarget", "(I)I"⟩
abbrev cX5_isJumpOrBranch : ByteArray := prog_7_method_7_code
def yX5_isJumpOrBranch : MethodName := ⟨RX5, "isJumpOrBranch", "(I)Z"⟩
abbrev cX5_startOf : ByteArray := prog_7_method_8_code
def yX5_startOf : MethodName := ⟨RX5, "startOf", "(I)I"⟩
abbrev cX5_lengthOf : ByteArray := prog_7_method_9_code
def yX5_lengthOf : MethodName := ⟨RX5, "lengthOf", "(I)I"⟩
abbrev cX5_bytes : ByteArray := prog_7_method_10_code
def yX5_bytes : MethodName := ⟨RX5, "bytes", "()I"⟩
abbrev cX5_windowOf : ByteArray := prog_7_method_12_code
def yX5_windowOf : MethodName := ⟨RX5, "windowOf", "(I)I"⟩
def RX6 : String := "FusionFront$Queue"
def TX6 : u_T := fun k => match k with
  | 0 => ("FusionFront$Queue", "numbers", "[I", true)
  | 1 => ("FusionFront$Queue", "predictions", "[Z", true)
  | _ => ("FusionFront$Queue", "size", "I", false)
def tyX6 : Nat → FieldType := fun k => match k with
  | 0 => .array .int
  | 1 => .array .boolean
  | _ => .int
abbrev wsX60 : List Cond := u_ws RX6 TX6 3
theorem nmX6 : ∀ a, a < 3 → ∀ b, b < 3 → a ≠ b → (TX6 a).2.1 ≠ (TX6 b).2.1 := by decide +kernel
theorem tyX6_ok : ∀ k, k < 3 → parseFieldDescriptor (TX6 k).2.2.1 = some (tyX6 k) := by decide +kernel
abbrev cX6_init : ByteArray := prog_8_method_1_code
def yX6_init : MethodName := ⟨RX6, "<init>", "()V"⟩
abbrev cX6_append : ByteArray := prog_8_method_2_code
def yX6_append : MethodName := ⟨RX6, "append", "(IZ)V"⟩
abbrev cX6_dropFirst : ByteArray := prog_8_method_3_code
def yX6_dropFirst : MethodName := ⟨RX6, "dropFirst", "()V"⟩
abbrev cX6_copyFrom : ByteArray := prog_8_method_4_code
def yX6_copyFrom : MethodName := ⟨RX6, "copyFrom", "(LFusionFront$Queue;)V"⟩
def RX7 : String := "FusionFront$Replay"
def TX7 : u_T := fun k => match k with
  | 0 => ("FusionFront$Replay", "goesOn", "Z", false)
  | 1 => ("FusionFront$Replay", "first", "I", false)
  | 2 => ("FusionFront$Replay", "last", "I", false)
  | 3 => ("FusionFront$Replay", "next", "I", false)
  | _ => ("FusionFront$Replay", "ops", "I", false)
def tyX7 : Nat → FieldType := fun k => match k with
  | 0 => .boolean
  | 1 => .int
  | 2 => .int
  | 3 => .int
  | _ => .int
abbrev wsX70 : List Cond := u_ws RX7 TX7 5
theorem nmX7 : ∀ a, a < 5 → ∀ b, b < 5 → a ≠ b → (TX7 a).2.1 ≠ (TX7 b).2.1 := by decide +kernel
theorem tyX7_ok : ∀ k, k < 5 → parseFieldDescriptor (TX7 k).2.2.1 = some (tyX7 k) := by decide +kernel
abbrev cX7_init : ByteArray := prog_9_method_1_code
def yX7_init : MethodName := ⟨RX7, "<init>", "()V"⟩
abbrev cX7_begin : ByteArray := prog_9_method_2_code
def yX7_begin : MethodName := ⟨RX7, "begin", "(III)V"⟩
abbrev cX7_copyFrom : ByteArray := prog_9_method_3_code
def yX7_copyFrom : MethodName := ⟨RX7, "copyFrom", "(LFusionFront$Replay;)V"⟩
def RX8 : String := "FusionFront$Rules"
def TX8 : u_T := fun k => match k with
  | 0 => ("FusionFront$Rules", "firsts", "[I", true)
  | 1 => ("FusionFront$Rules", "seconds", "[I", true)
  | _ => ("FusionFront$Rules", "size", "I", false)
def tyX8 : Nat → FieldType := fun k => match k with
  | 0 => .array .int
  | 1 => .array .int
  | _ => .int
abbrev wsX80 : List Cond := u_ws RX8 TX8 3
theorem nmX8 : ∀ a, a < 3 → ∀ b, b < 3 → a ≠ b → (TX8 a).2.1 ≠ (TX8 b).2.1 := by decide +kernel
theorem tyX8_ok : ∀ k, k < 3 → parseFieldDescriptor (TX8 k).2.2.1 = some (tyX8 k) := by decide +kernel
abbrev cX8_init : ByteArray := prog_10_method_1_code
def yX8_init : MethodName := ⟨RX8, "<init>", "()V"⟩
abbrev cX8_has : ByteArray := prog_10_method_2_code
def yX8_has : MethodName := ⟨RX8, "has", "(II)Z"⟩
abbrev cX8_append : ByteArray := prog_10_method_3_code
def yX8_append : MethodName := ⟨RX8, "append", "(II)V"⟩
abbrev cX8_copyFrom : ByteArray := prog_10_method_5_code
def yX8_copyFrom : MethodName := ⟨RX8, "copyFrom", "(LFusionFront$Rules;)V"⟩
def RX9 : String := "FusionFront$Tally"
def TX9 : u_T := fun k => match k with
  | 0 => ("FusionFront$Tally", "counters", "[I", true)
  | 1 => ("FusionFront$Tally", "unused", "[I", true)
  | 2 => ("FusionFront$Tally", "perInstruction", "[I", true)
  | 3 => ("FusionFront$Tally", "recent", "[I", true)
  | _ => ("FusionFront$Tally", "likePlain", "I", false)
def tyX9 : Nat → FieldType := fun k => match k with
  | 0 => .array .int
  | 1 => .array .int
  | 2 => .array .int
  | 3 => .array .int
  | _ => .int
abbrev wsX90 : List Cond := u_ws RX9 TX9 5
theorem nmX9 : ∀ a, a < 5 → ∀ b, b < 5 → a ≠ b → (TX9 a).2.1 ≠ (TX9 b).2.1 := by decide +kernel
theorem tyX9_ok : ∀ k, k < 5 → parseFieldDescriptor (TX9 k).2.2.1 = some (tyX9 k) := by decide +kernel
abbrev cX9_init : ByteArray := prog_11_method_1_code
def yX9_init : MethodName := ⟨RX9, "<init>", "()V"⟩
abbrev cX9_clear : ByteArray := prog_11_method_2_code
def yX9_clear : MethodName := ⟨RX9, "clear", "()V"⟩
abbrev cX9_addDecoded : ByteArray := prog_11_method_3_code
def yX9_addDecoded : MethodName := ⟨RX9, "addDecoded", "(II)V"⟩
abbrev cX9_addUnused : ByteArray := prog_11_method_4_code
def yX9_addUnused : MethodName := ⟨RX9, "addUnused", "(II)V"⟩
abbrev cX9_copyFrom : ByteArray := prog_11_method_6_code
def yX9_copyFrom : MethodName := ⟨RX9, "copyFrom", "(LFusionFront$Tally;)V"⟩
def RX10 : String := "FusionFront$Turns"
def TX10 : u_T := fun k => match k with
  | _ => ("FusionFront$Turns", "taken", "[I", true)
def tyX10 : Nat → FieldType := fun k => match k with
  | _ => .array .int
abbrev wsX100 : List Cond := u_ws RX10 TX10 1
theorem nmX10 : ∀ a, a < 1 → ∀ b, b < 1 → a ≠ b → (TX10 a).2.1 ≠ (TX10 b).2.1 := by decide +kernel
theorem tyX10_ok : ∀ k, k < 1 → parseFieldDescriptor (TX10 k).2.2.1 = some (tyX10 k) := by decide +kernel
abbrev cX10_init : ByteArray := prog_12_method_1_code
def yX10_init : MethodName := ⟨RX10, "<init>", "()V"⟩
abbrev cX10_goesToTarget : ByteArray := prog_12_method_2_code
def yX10_goesToTarget : MethodName := ⟨RX10, "goesToTarget", "(LFusionFront$Program;I)Z"⟩
abbrev cX10_copyFrom : ByteArray := prog_12_method_3_code
def yX10_copyFrom : MethodName := ⟨RX10, "copyFrom", "(LFusionFront$Turns;)V"⟩
def RX11 : String := "FusionFront"
def TX11 : u_T := fun k => match k with
  | 0 => ("FusionFront", "input", "[B", true)
  | 1 => ("FusionFront", "inputLength", "I", false)
  | 2 => ("FusionFront", "parser", "LFusionFront$Parser;", true)
  | 3 => ("FusionFront", "output", "LFusionFront$Output;", true)
  | 4 => ("FusionFront", "program", "LFusionFront$Program;", false)
  | 5 => ("FusionFront", "spare", "LFusionFront$Program;", false)
  | 6 => ("FusionFront", "front", "LFusionFront$Front;", true)
  | 7 => ("FusionFront", "ahead", "LFusionFront$Front;", true)
  | 8 => ("FusionFront", "saved", "LFusionFront$Front;", true)
  | 9 => ("FusionFront", "hasSaved", "Z", false)
  | 10 => ("FusionFront", "history", "LFusionFront$History;", true)
  | _ => ("FusionFront", "plainDecoder", "LFusionFront$PlainDecoder;", true)
def tyX11 : Nat → FieldType := fun k => match k with
  | 0 => .array .byte
  | 1 => .int
  | 2 => .object "FusionFront$Parser"
  | 3 => .object "FusionFront$Output"
  | 4 => .object "FusionFront$Program"
  | 5 => .object "FusionFront$Program"
  | 6 => .object "FusionFront$Front"
  | 7 => .object "FusionFront$Front"
  | 8 => .object "FusionFront$Front"
  | 9 => .boolean
  | 10 => .object "FusionFront$History"
  | _ => .object "FusionFront$PlainDecoder"
abbrev wsX110 : List Cond := u_ws RX11 TX11 12
theorem nmX11 : ∀ a, a < 12 → ∀ b, b < 12 → a ≠ b → (TX11 a).2.1 ≠ (TX11 b).2.1 := by decide +kernel
theorem tyX11_ok : ∀ k, k < 12 → parseFieldDescriptor (TX11 k).2.2.1 = some (tyX11 k) := by decide +kernel
abbrev cX11_init : ByteArray := prog_1_method_1_code
def yX11_init : MethodName := ⟨RX11, "<init>", "()V"⟩
abbrev cX11_feed : ByteArray := prog_1_method_2_code
def yX11_feed : MethodName := ⟨RX11, "feed", "(IIIII)I"⟩
abbrev cX11_append : ByteArray := prog_1_method_3_code
def yX11_append : MethodName := ⟨RX11, "append", "(I)V"⟩
abbrev cX11_truncate : ByteArray := prog_1_method_4_code
def yX11_truncate : MethodName := ⟨RX11, "truncate", "(I)Z"⟩
abbrev cX11_parse : ByteArray := prog_1_method_5_code
def yX11_parse : MethodName := ⟨RX11, "parse", "()I"⟩
abbrev cX11_count : ByteArray := prog_1_method_8_code
def yX11_count : MethodName := ⟨RX11, "count", "(I)I"⟩
abbrev cX11_instruction : ByteArray := prog_1_method_9_code
def yX11_instruction : MethodName := ⟨RX11, "instruction", "(II)I"⟩
abbrev cX11_predictionOf : ByteArray := prog_1_method_10_code
def yX11_predictionOf : MethodName := ⟨RX11, "predictionOf", "(I)I"⟩
abbrev cX11_at : ByteArray := prog_1_method_11_code
def yX11_at : MethodName := ⟨RX11, "at", "(I)I"⟩
abbrev cX11_ofKind : ByteArray := prog_1_method_17_code
def yX11_ofKind : MethodName := ⟨RX11, "ofKind", "(IZ)I"⟩
abbrev cX11_bubbles : ByteArray := prog_1_method_22_code
def yX11_bubbles : MethodName := ⟨RX11, "bubbles", "(I)I"⟩
abbrev cX11_decoded : ByteArray := prog_1_method_24_code
def yX11_decoded : MethodName := ⟨RX11, "decoded", "(I)I"⟩
abbrev cX11_plain : ByteArray := prog_1_method_25_code
def yX11_plain : MethodName := ⟨RX11, "plain", "(I)I"⟩
abbrev cX11_agrees : ByteArray := prog_1_method_26_code
def yX11_agrees : MethodName := ⟨RX11, "agrees", "()Z"⟩
abbrev cX11_times : ByteArray := prog_1_method_27_code
def yX11_times : MethodName := ⟨RX11, "times", "(I)I"⟩
abbrev cX11_run : ByteArray := prog_1_method_30_code
def yX11_run : MethodName := ⟨RX11, "run", "(I)I"⟩
abbrev cX11_runTo : ByteArray := prog_1_method_31_code
def yX11_runTo : MethodName := ⟨RX11, "runTo", "(I)I"⟩
abbrev cX11_stall : ByteArray := prog_1_method_32_code
def yX11_stall : MethodName := ⟨RX11, "stall", "(I)I"⟩
abbrev cX11_set : ByteArray := prog_1_method_33_code
def yX11_set : MethodName := ⟨RX11, "set", "(II)I"⟩
abbrev cX11_isAllowed : ByteArray := prog_1_method_34_code
def yX11_isAllowed : MethodName := ⟨RX11, "isAllowed", "(II)Z"⟩
abbrev cX11_undo : ByteArray := prog_1_method_39_code
def yX11_undo : MethodName := ⟨RX11, "undo", "()I"⟩
abbrev cX11_cyclesTo : ByteArray := prog_1_method_40_code
def yX11_cyclesTo : MethodName := ⟨RX11, "cyclesTo", "(I)I"⟩
abbrev cX11_bubblesIn : ByteArray := prog_1_method_42_code
def yX11_bubblesIn : MethodName := ⟨RX11, "bubblesIn", "(II)I"⟩
abbrev cX11_roomNeeded : ByteArray := prog_1_method_43_code
def yX11_roomNeeded : MethodName := ⟨RX11, "roomNeeded", "(I)I"⟩
abbrev cX11_saveState : ByteArray := prog_1_method_53_code
def yX11_saveState : MethodName := ⟨RX11, "saveState", "()I"⟩
abbrev cX11_restoreState : ByteArray := prog_1_method_54_code
def yX11_restoreState : MethodName := ⟨RX11, "restoreState", "()I"⟩
abbrev cX11_wordOfKind : ByteArray := prog_1_method_55_code
def yX11_wordOfKind : MethodName := ⟨RX11, "wordOfKind", "(I)Ljava/lang/String;"⟩
abbrev cX11_wordOfSetting : ByteArray := prog_1_method_56_code
def yX11_wordOfSetting : MethodName := ⟨RX11, "wordOfSetting", "(I)Ljava/lang/String;"⟩
def RX12 : String := "FusionFrontModel"
def TX12 : u_T := fun k => match k with
  | _ => ("", "", "", false)
def tyX12 : Nat → FieldType := fun k => match k with
  | _ => .int
abbrev wsX120 : List Cond := u_ws RX12 TX12 0
theorem nmX12 : ∀ a, a < 0 → ∀ b, b < 0 → a ≠ b → (TX12 a).2.1 ≠ (TX12 b).2.1 := by decide +kernel
theorem tyX12_ok : ∀ k, k < 0 → parseFieldDescriptor (TX12 k).2.2.1 = some (tyX12 k) := by decide +kernel
def RJx145de : String := "java/io/Serializable"
def TJx145de : u_T := fun k => match k with
  | _ => ("", "", "", false)
def tyJx145de : Nat → FieldType := fun k => match k with
  | _ => .int
abbrev wsJx145de0 : List Cond := u_ws RJx145de TJx145de 0
theorem nmJx145de : ∀ a, a < 0 → ∀ b, b < 0 → a ≠ b → (TJx145de a).2.1 ≠ (TJx145de b).2.1 := by decide +kernel
theorem tyJx145de_ok : ∀ k, k < 0 → parseFieldDescriptor (TJx145de k).2.2.1 = some (tyJx145de k) := by decide +kernel
def RJ5 : String := "java/lang/AbstractStringBuilder"
def TJ5 : u_T := fun k => match k with
  | _ => ("", "", "", false)
def tyJ5 : Nat → FieldType := fun k => match k with
  | _ => .int
abbrev wsJ50 : List Cond := u_ws RJ5 TJ5 0
theorem nmJ5 : ∀ a, a < 0 → ∀ b, b < 0 → a ≠ b → (TJ5 a).2.1 ≠ (TJ5 b).2.1 := by decide +kernel
theorem tyJ5_ok : ∀ k, k < 0 → parseFieldDescriptor (TJ5 k).2.2.1 = some (tyJ5 k) := by decide +kernel
abbrev cJ5_init_d00df : ByteArray := prog_16_method_2_code
def yJ5_init_d00df : MethodName := ⟨RJ5, "<init>", "(I)V"⟩
abbrev cJ5_length_8abf5 : ByteArray := prog_16_method_6_code
def yJ5_length_8abf5 : MethodName := ⟨RJ5, "length", "()I"⟩
abbrev cJ5_ensureCapacityInternal_d00df : ByteArray := prog_16_method_9_code
def yJ5_ensureCapacityInternal_d00df : MethodName := ⟨RJ5, "ensureCapacityInternal", "(I)V"⟩
abbrev cJ5_newCapacity_0f7a4 : ByteArray := prog_16_method_10_code
def yJ5_newCapacity_0f7a4 : MethodName := ⟨RJ5, "newCapacity", "(I)I"⟩
abbrev cJ5_inflate_da8c8 : ByteArray := prog_16_method_11_code
def yJ5_inflate_da8c8 : MethodName := ⟨RJ5, "inflate", "()V"⟩
abbrev cJ5_append_cf1ce : ByteArray := prog_16_method_22_code
def yJ5_append_cf1ce : MethodName := ⟨RJ5, "append", "(Ljava/lang/String;)Ljava/lang/AbstractStringBuilder;"⟩
abbrev cJ5_appendNull_278bc : ByteArray := prog_16_method_26_code
def yJ5_appendNull_278bc : MethodName := ⟨RJ5, "appendNull", "()Ljava/lang/AbstractStringBuilder;"⟩
abbrev cJ5_append_3fe6f : ByteArray := prog_16_method_31_code
def yJ5_append_3fe6f : MethodName := ⟨RJ5, "append", "(C)Ljava/lang/AbstractStringBuilder;"⟩
abbrev cJ5_append_c97b9 : ByteArray := prog_16_method_32_code
def yJ5_append_c97b9 : MethodName := ⟨RJ5, "append", "(I)Ljava/lang/AbstractStringBuilder;"⟩
abbrev cJ5_getValue_6d5f1 : ByteArray := prog_16_method_64_code
def yJ5_getValue_6d5f1 : MethodName := ⟨RJ5, "getValue", "()[B"⟩
abbrev cJ5_isLatin1_aae02 : ByteArray := prog_16_method_68_code
def yJ5_isLatin1_aae02 : MethodName := ⟨RJ5, "isLatin1", "()Z"⟩
abbrev cJ5_inflateIfNeededFor_a7421 : ByteArray := prog_16_method_71_code
def yJ5_inflateIfNeededFor_a7421 : MethodName := ⟨RJ5, "inflateIfNeededFor", "(Ljava/lang/String;)V"⟩
abbrev cJ5_putStringAt_47b60 : ByteArray := prog_16_method_73_code
def yJ5_putStringAt_47b60 : MethodName := ⟨RJ5, "putStringAt", "(ILjava/lang/String;)V"⟩
def RJx2cfe8 : String := "java/lang/Appendable"
def TJx2cfe8 : u_T := fun k => match k with
  | _ => ("", "", "", false)
def tyJx2cfe8 : Nat → FieldType := fun k => match k with
  | _ => .int
abbrev wsJx2cfe80 : List Cond := u_ws RJx2cfe8 TJx2cfe8 0
theorem nmJx2cfe8 : ∀ a, a < 0 → ∀ b, b < 0 → a ≠ b → (TJx2cfe8 a).2.1 ≠ (TJx2cfe8 b).2.1 := by decide +kernel
theorem tyJx2cfe8_ok : ∀ k, k < 0 → parseFieldDescriptor (TJx2cfe8 k).2.2.1 = some (tyJx2cfe8 k) := by decide +kernel
def RJx9f9b0 : String := "java/lang/CharSequence"
def TJx9f9b0 : u_T := fun k => match k with
  | _ => ("", "", "", false)
def tyJx9f9b0 : Nat → FieldType := fun k => match k with
  | _ => .int
abbrev wsJx9f9b00 : List Cond := u_ws RJx9f9b0 TJx9f9b0 0
theorem nmJx9f9b0 : ∀ a, a < 0 → ∀ b, b < 0 → a ≠ b → (TJx9f9b0 a).2.1 ≠ (TJx9f9b0 b).2.1 := by decide +kernel
theorem tyJx9f9b0_ok : ∀ k, k < 0 → parseFieldDescriptor (TJx9f9b0 k).2.2.1 = some (tyJx9f9b0 k) := by decide +kernel
def RJx8e188 : String := "java/lang/Cloneable"
def TJx8e188 : u_T := fun k => match k with
  | _ => ("", "", "", false)
def tyJx8e188 : Nat → FieldType := fun k => match k with
  | _ => .int
abbrev wsJx8e1880 : List Cond := u_ws RJx8e188 TJx8e188 0
theorem nmJx8e188 : ∀ a, a < 0 → ∀ b, b < 0 → a ≠ b → (TJx8e188 a).2.1 ≠ (TJx8e188 b).2.1 := by decide +kernel
theorem tyJx8e188_ok : ∀ k, k < 0 → parseFieldDescriptor (TJx8e188 k).2.2.1 = some (tyJx8e188 k) := by decide +kernel
def RJxb160c : String := "java/lang/Comparable"
def TJxb160c : u_T := fun k => match k with
  | _ => ("", "", "", false)
def tyJxb160c : Nat → FieldType := fun k => match k with
  | _ => .int
abbrev wsJxb160c0 : List Cond := u_ws RJxb160c TJxb160c 0
theorem nmJxb160c : ∀ a, a < 0 → ∀ b, b < 0 → a ≠ b → (TJxb160c a).2.1 ≠ (TJxb160c b).2.1 := by decide +kernel
theorem tyJxb160c_ok : ∀ k, k < 0 → parseFieldDescriptor (TJxb160c k).2.2.1 = some (tyJxb160c k) := by decide +kernel
def RJ6 : String := "java/lang/Integer"
def TJ6 : u_T := fun k => match k with
  | _ => ("", "", "", false)
def tyJ6 : Nat → FieldType := fun k => match k with
  | _ => .int
abbrev wsJ60 : List Cond := u_ws RJ6 TJ6 0
theorem nmJ6 : ∀ a, a < 0 → ∀ b, b < 0 → a ≠ b → (TJ6 a).2.1 ≠ (TJ6 b).2.1 := by decide +kernel
theorem tyJ6_ok : ∀ k, k < 0 → parseFieldDescriptor (TJ6 k).2.2.1 = some (tyJ6 k) := by decide +kernel
abbrev cJ6_getChars_ba4f3 : ByteArray := prog_25_method_12_code
def yJ6_getChars_ba4f3 : MethodName := ⟨RJ6, "getChars", "(II[B)I"⟩
abbrev cJ6_stringSize_0f7a4 : ByteArray := prog_25_method_13_code
def yJ6_stringSize_0f7a4 : MethodName := ⟨RJ6, "stringSize", "(I)I"⟩
def RJ9 : String := "java/lang/Math"
def TJ9 : u_T := fun k => match k with
  | _ => ("", "", "", false)
def tyJ9 : Nat → FieldType := fun k => match k with
  | _ => .int
abbrev wsJ90 : List Cond := u_ws RJ9 TJ9 0
theorem nmJ9 : ∀ a, a < 0 → ∀ b, b < 0 → a ≠ b → (TJ9 a).2.1 ≠ (TJ9 b).2.1 := by decide +kernel
theorem tyJ9_ok : ∀ k, k < 0 → parseFieldDescriptor (TJ9 k).2.2.1 = some (tyJ9 k) := by decide +kernel
abbrev cJ9_max_7cf53 : ByteArray := prog_26_method_65_code
def yJ9_max_7cf53 : MethodName := ⟨RJ9, "max", "(II)I"⟩
abbrev cJ9_min_7cf53 : ByteArray := prog_26_method_69_code
def yJ9_min_7cf53 : MethodName := ⟨RJ9, "min", "(II)I"⟩
def RJxd2413 : String := "java/lang/Number"
def TJxd2413 : u_T := fun k => match k with
  | _ => ("", "", "", false)
def tyJxd2413 : Nat → FieldType := fun k => match k with
  | _ => .int
abbrev wsJxd24130 : List Cond := u_ws RJxd2413 TJxd2413 0
theorem nmJxd2413 : ∀ a, a < 0 → ∀ b, b < 0 → a ≠ b → (TJxd2413 a).2.1 ≠ (TJxd2413 b).2.1 := by decide +kernel
theorem tyJxd2413_ok : ∀ k, k < 0 → parseFieldDescriptor (TJxd2413 k).2.2.1 = some (tyJxd2413 k) := by decide +kernel
def RJ0 : String := "java/lang/String"
def TJ0 : u_T := fun k => match k with
  | 0 => ("java/lang/String", "value", "[B", true)
  | 1 => ("java/lang/String", "coder", "B", true)
  | 2 => ("java/lang/String", "hash", "I", false)
  | _ => ("java/lang/String", "hashIsZero", "Z", false)
def tyJ0 : Nat → FieldType := fun k => match k with
  | 0 => .array .byte
  | 1 => .byte
  | 2 => .int
  | _ => .boolean
abbrev wsJ00 : List Cond := u_ws RJ0 TJ0 4
theorem nmJ0 : ∀ a, a < 4 → ∀ b, b < 4 → a ≠ b → (TJ0 a).2.1 ≠ (TJ0 b).2.1 := by decide +kernel
theorem tyJ0_ok : ∀ k, k < 4 → parseFieldDescriptor (TJ0 k).2.2.1 = some (tyJ0 k) := by decide +kernel
abbrev cJ0_init_81219 : ByteArray := prog_29_method_53_code
def yJ0_init_81219 : MethodName := ⟨RJ0, "<init>", "(Ljava/lang/StringBuilder;)V"⟩
abbrev cJ0_length_8abf5 : ByteArray := prog_29_method_54_code
def yJ0_length_8abf5 : MethodName := ⟨RJ0, "length", "()I"⟩
abbrev cJ0_charAt_5068e : ByteArray := prog_29_method_56_code
def yJ0_charAt_5068e : MethodName := ⟨RJ0, "charAt", "(I)C"⟩
abbrev cJ0_getBytes_840e7 : ByteArray := prog_29_method_147_code
def yJ0_getBytes_840e7 : MethodName := ⟨RJ0, "getBytes", "([BIB)V"⟩
abbrev cJ0_init_db425 : ByteArray := prog_29_method_150_code
def yJ0_init_db425 : MethodName := ⟨RJ0, "<init>", "(Ljava/lang/AbstractStringBuilder;Ljava/lang/Void;)V"⟩
abbrev cJ0_coder_7d493 : ByteArray := prog_29_method_152_code
def yJ0_coder_7d493 : MethodName := ⟨RJ0, "coder", "()B"⟩
abbrev cJ0_isLatin1_aae02 : ByteArray := prog_29_method_154_code
def yJ0_isLatin1_aae02 : MethodName := ⟨RJ0, "isLatin1", "()Z"⟩
abbrev cJ0_checkIndex_df160 : ByteArray := prog_29_method_155_code
def yJ0_checkIndex_df160 : MethodName := ⟨RJ0, "checkIndex", "(II)V"⟩
abbrev cJ0_checkBoundsOffCount_cabcc : ByteArray := prog_29_method_157_code
def yJ0_checkBoundsOffCount_cabcc : MethodName := ⟨RJ0, "checkBoundsOffCount", "(III)I"⟩
abbrev cJ0_checkBoundsBeginEnd_23922 : ByteArray := prog_29_method_158_code
def yJ0_checkBoundsBeginEnd_23922 : MethodName := ⟨RJ0, "checkBoundsBeginEnd", "(III)V"⟩
def RJ4 : String := "java/lang/StringBuilder"
def TJ4 : u_T := fun k => match k with
  | 0 => ("java/lang/AbstractStringBuilder", "value", "[B", false)
  | 1 => ("java/lang/AbstractStringBuilder", "coder", "B", false)
  | 2 => ("java/lang/AbstractStringBuilder", "maybeLatin1", "Z", false)
  | _ => ("java/lang/AbstractStringBuilder", "count", "I", false)
def tyJ4 : Nat → FieldType := fun k => match k with
  | 0 => .array .byte
  | 1 => .byte
  | 2 => .boolean
  | _ => .int
abbrev wsJ40 : List Cond := u_ws RJ4 TJ4 4
theorem nmJ4 : ∀ a, a < 4 → ∀ b, b < 4 → a ≠ b → (TJ4 a).2.1 ≠ (TJ4 b).2.1 := by decide +kernel
theorem tyJ4_ok : ∀ k, k < 4 → parseFieldDescriptor (TJ4 k).2.2.1 = some (tyJ4 k) := by decide +kernel
abbrev cJ4_init_da8c8 : ByteArray := prog_30_method_1_code
def yJ4_init_da8c8 : MethodName := ⟨RJ4, "<init>", "()V"⟩
abbrev cJ4_append_15ec4 : ByteArray := prog_30_method_7_code
def yJ4_append_15ec4 : MethodName := ⟨RJ4, "append", "(Ljava/lang/String;)Ljava/lang/StringBuilder;"⟩
abbrev cJ4_append_cf468 : ByteArray := prog_30_method_14_code
def yJ4_append_cf468 : MethodName := ⟨RJ4, "append", "(C)Ljava/lang/StringBuilder;"⟩
abbrev cJ4_append_bf812 : ByteArray := prog_30_method_15_code
def yJ4_append_bf812 : MethodName := ⟨RJ4, "append", "(I)Ljava/lang/StringBuilder;"⟩
abbrev cJ4_toString_0e30d : ByteArray := prog_30_method_42_code
def yJ4_toString_0e30d : MethodName := ⟨RJ4, "toString", "()Ljava/lang/String;"⟩
abbrev cJ4_length_8abf5 : ByteArray := prog_30_method_93_code
def yJ4_length_8abf5 : MethodName := ⟨RJ4, "length", "()I"⟩
def RJ1 : String := "java/lang/StringLatin1"
def TJ1 : u_T := fun k => match k with
  | _ => ("", "", "", false)
def tyJ1 : Nat → FieldType := fun k => match k with
  | _ => .int
abbrev wsJ10 : List Cond := u_ws RJ1 TJ1 0
theorem nmJ1 : ∀ a, a < 0 → ∀ b, b < 0 → a ≠ b → (TJ1 a).2.1 ≠ (TJ1 b).2.1 := by decide +kernel
theorem tyJ1_ok : ∀ k, k < 0 → parseFieldDescriptor (TJ1 k).2.2.1 = some (tyJ1 k) := by decide +kernel
abbrev cJ1_charAt_3b067 : ByteArray := prog_31_method_2_code
def yJ1_charAt_3b067 : MethodName := ⟨RJ1, "charAt", "([BI)C"⟩
abbrev cJ1_canEncode_fc78d : ByteArray := prog_31_method_3_code
def yJ1_canEncode_fc78d : MethodName := ⟨RJ1, "canEncode", "(C)Z"⟩
abbrev cJ1_inflate_0e8fd : ByteArray := prog_31_method_50_code
def yJ1_inflate_0e8fd : MethodName := ⟨RJ1, "inflate", "([BI[BII)V"⟩
def RJ2 : String := "java/lang/StringUTF16"
def TJ2 : u_T := fun k => match k with
  | _ => ("", "", "", false)
def tyJ2 : Nat → FieldType := fun k => match k with
  | _ => .int
abbrev wsJ20 : List Cond := u_ws RJ2 TJ2 0
theorem nmJ2 : ∀ a, a < 0 → ∀ b, b < 0 → a ≠ b → (TJ2 a).2.1 ≠ (TJ2 b).2.1 := by decide +kernel
theorem tyJ2_ok : ∀ k, k < 0 → parseFieldDescriptor (TJ2 k).2.2.1 = some (tyJ2 k) := by decide +kernel
abbrev cJ2_newBytesFor_77867 : ByteArray := prog_32_method_2_code
def yJ2_newBytesFor_77867 : MethodName := ⟨RJ2, "newBytesFor", "(I)[B"⟩
abbrev cJ2_newBytesLength_0f7a4 : ByteArray := prog_32_method_3_code
def yJ2_newBytesLength_0f7a4 : MethodName := ⟨RJ2, "newBytesLength", "(I)I"⟩
abbrev cJ2_putChar_b72d1 : ByteArray := prog_32_method_4_code
def yJ2_putChar_b72d1 : MethodName := ⟨RJ2, "putChar", "([BII)V"⟩
abbrev cJ2_getChar_3b067 : ByteArray := prog_32_method_5_code
def yJ2_getChar_3b067 : MethodName := ⟨RJ2, "getChar", "([BI)C"⟩
abbrev cJ2_length_9d52b : ByteArray := prog_32_method_6_code
def yJ2_length_9d52b : MethodName := ⟨RJ2, "length", "([B)I"⟩
abbrev cJ2_coderFromArrayLen_85cad : ByteArray := prog_32_method_15_code
def yJ2_coderFromArrayLen_85cad : MethodName := ⟨RJ2, "coderFromArrayLen", "([BI)B"⟩
abbrev cJ2_compress_39247 : ByteArray := prog_32_method_17_code
def yJ2_compress_39247 : MethodName := ⟨RJ2, "compress", "([BII)[B"⟩
abbrev cJ2_compress_5af95 : ByteArray := prog_32_method_22_code
def yJ2_compress_5af95 : MethodName := ⟨RJ2, "compress", "([BI[BII)I"⟩
abbrev cJ2_putCharSB_b72d1 : ByteArray := prog_32_method_71_code
def yJ2_putCharSB_b72d1 : MethodName := ⟨RJ2, "putCharSB", "([BII)V"⟩
abbrev cJ2_getChars_46870 : ByteArray := prog_32_method_77_code
def yJ2_getChars_46870 : MethodName := ⟨RJ2, "getChars", "(III[B)I"⟩
abbrev cJ2_putCharsAt_cd4e5 : ByteArray := prog_32_method_81_code
def yJ2_putCharsAt_cd4e5 : MethodName := ⟨RJ2, "putCharsAt", "([BICCCC)I"⟩
abbrev cJ2_charAt_3b067 : ByteArray := prog_32_method_83_code
def yJ2_charAt_3b067 : MethodName := ⟨RJ2, "charAt", "([BI)C"⟩
abbrev cJ2_inflate_0e8fd : ByteArray := prog_32_method_86_code
def yJ2_inflate_0e8fd : MethodName := ⟨RJ2, "inflate", "([BI[BII)V"⟩
abbrev cJ2_getChars_ba4f3 : ByteArray := prog_32_method_89_code
def yJ2_getChars_ba4f3 : MethodName := ⟨RJ2, "getChars", "(II[B)I"⟩
abbrev cJ2_checkIndex_2214a : ByteArray := prog_32_method_91_code
def yJ2_checkIndex_2214a : MethodName := ⟨RJ2, "checkIndex", "(I[B)V"⟩
abbrev cJ2_checkBoundsBeginEnd_d044e : ByteArray := prog_32_method_93_code
def yJ2_checkBoundsBeginEnd_d044e : MethodName := ⟨RJ2, "checkBoundsBeginEnd", "(II[B)V"⟩
abbrev cJ2_checkBoundsOffCount_d044e : ByteArray := prog_32_method_94_code
def yJ2_checkBoundsOffCount_d044e : MethodName := ⟨RJ2, "checkBoundsOffCount", "(II[B)V"⟩
def RJ10 : String := "java/lang/System"
def TJ10 : u_T := fun k => match k with
  | _ => ("", "", "", false)
def tyJ10 : Nat → FieldType := fun k => match k with
  | _ => .int
abbrev wsJ100 : List Cond := u_ws RJ10 TJ10 0
theorem nmJ10 : ∀ a, a < 0 → ∀ b, b < 0 → a ≠ b → (TJ10 a).2.1 ≠ (TJ10 b).2.1 := by decide +kernel
theorem tyJ10_ok : ∀ k, k < 0 → parseFieldDescriptor (TJ10 k).2.2.1 = some (tyJ10 k) := by decide +kernel
def RJxfd54e : String := "java/lang/constant/Constable"
def TJxfd54e : u_T := fun k => match k with
  | _ => ("", "", "", false)
def tyJxfd54e : Nat → FieldType := fun k => match k with
  | _ => .int
abbrev wsJxfd54e0 : List Cond := u_ws RJxfd54e TJxfd54e 0
theorem nmJxfd54e : ∀ a, a < 0 → ∀ b, b < 0 → a ≠ b → (TJxfd54e a).2.1 ≠ (TJxfd54e b).2.1 := by decide +kernel
theorem tyJxfd54e_ok : ∀ k, k < 0 → parseFieldDescriptor (TJxfd54e k).2.2.1 = some (tyJxfd54e k) := by decide +kernel
def RJx3cf43 : String := "java/lang/constant/ConstantDesc"
def TJx3cf43 : u_T := fun k => match k with
  | _ => ("", "", "", false)
def tyJx3cf43 : Nat → FieldType := fun k => match k with
  | _ => .int
abbrev wsJx3cf430 : List Cond := u_ws RJx3cf43 TJx3cf43 0
theorem nmJx3cf43 : ∀ a, a < 0 → ∀ b, b < 0 → a ≠ b → (TJx3cf43 a).2.1 ≠ (TJx3cf43 b).2.1 := by decide +kernel
theorem tyJx3cf43_ok : ∀ k, k < 0 → parseFieldDescriptor (TJx3cf43 k).2.2.1 = some (tyJx3cf43 k) := by decide +kernel
def RJ7 : String := "java/util/Arrays"
def TJ7 : u_T := fun k => match k with
  | _ => ("", "", "", false)
def tyJ7 : Nat → FieldType := fun k => match k with
  | _ => .int
abbrev wsJ70 : List Cond := u_ws RJ7 TJ7 0
theorem nmJ7 : ∀ a, a < 0 → ∀ b, b < 0 → a ≠ b → (TJ7 a).2.1 ≠ (TJ7 b).2.1 := by decide +kernel
theorem tyJ7_ok : ∀ k, k < 0 → parseFieldDescriptor (TJ7 k).2.2.1 = some (tyJ7 k) := by decide +kernel
abbrev cJ7_fill_53178 : ByteArray := prog_37_method_103_code
def yJ7_fill_53178 : MethodName := ⟨RJ7, "fill", "([II)V"⟩
abbrev cJ7_copyOf_9075b : ByteArray := prog_37_method_121_code
def yJ7_copyOf_9075b : MethodName := ⟨RJ7, "copyOf", "([BI)[B"⟩
abbrev cJ7_checkLength_df160 : ByteArray := prog_37_method_131_code
def yJ7_checkLength_df160 : MethodName := ⟨RJ7, "checkLength", "(II)V"⟩
abbrev cJ7_copyOfRange_39247 : ByteArray := prog_37_method_132_code
def yJ7_copyOfRange_39247 : MethodName := ⟨RJ7, "copyOfRange", "([BII)[B"⟩
abbrev cJ7_copyOfRangeByte_39247 : ByteArray := prog_37_method_133_code
def yJ7_copyOfRangeByte_39247 : MethodName := ⟨RJ7, "copyOfRangeByte", "([BII)[B"⟩
def RJ8 : String := "jdk/internal/util/ArraysSupport"
def TJ8 : u_T := fun k => match k with
  | _ => ("", "", "", false)
def tyJ8 : Nat → FieldType := fun k => match k with
  | _ => .int
abbrev wsJ80 : List Cond := u_ws RJ8 TJ8 0
theorem nmJ8 : ∀ a, a < 0 → ∀ b, b < 0 → a ≠ b → (TJ8 a).2.1 ≠ (TJ8 b).2.1 := by decide +kernel
theorem tyJ8_ok : ∀ k, k < 0 → parseFieldDescriptor (TJ8 k).2.2.1 = some (tyJ8 k) := by decide +kernel
abbrev cJ8_newLength_cabcc : ByteArray := prog_39_method_27_code
def yJ8_newLength_cabcc : MethodName := ⟨RJ8, "newLength", "(III)I"⟩
abbrev cJ8_hugeLength_7cf53 : ByteArray := prog_39_method_28_code
def yJ8_hugeLength_7cf53 : MethodName := ⟨RJ8, "hugeLength", "(II)I"⟩
def RJ3 : String := "jdk/internal/util/Preconditions"
def TJ3 : u_T := fun k => match k with
  | _ => ("", "", "", false)
def tyJ3 : Nat → FieldType := fun k => match k with
  | _ => .int
abbrev wsJ30 : List Cond := u_ws RJ3 TJ3 0
theorem nmJ3 : ∀ a, a < 0 → ∀ b, b < 0 → a ≠ b → (TJ3 a).2.1 ≠ (TJ3 b).2.1 := by decide +kernel
theorem tyJ3_ok : ∀ k, k < 0 → parseFieldDescriptor (TJ3 k).2.2.1 = some (tyJ3 k) := by decide +kernel
abbrev cJ3_checkIndex_8e157 : ByteArray := prog_40_method_11_code
def yJ3_checkIndex_8e157 : MethodName := ⟨RJ3, "checkIndex", "(IILjava/util/function/BiFunction;)I"⟩
abbrev cJ3_checkFromToIndex_8c36e : ByteArray := prog_40_method_12_code
def yJ3_checkFromToIndex_8c36e : MethodName := ⟨RJ3, "checkFromToIndex", "(IIILjava/util/function/BiFunction;)I"⟩
abbrev cJ3_checkFromIndexSize_8c36e : ByteArray := prog_40_method_13_code
def yJ3_checkFromIndexSize_8c36e : MethodName := ⟨RJ3, "checkFromIndexSize", "(IIILjava/util/function/BiFunction;)I"⟩
def RL : String := "FusionFrontLaw"
abbrev cL_cell : ByteArray := method_2_code
def yL_cell : MethodName := ⟨RL, "cell", "([II)I"⟩
abbrev cL_draw : ByteArray := method_3_code
def yL_draw : MethodName := ⟨RL, "draw", "([IIII)I"⟩
abbrev cL_feed : ByteArray := method_4_code
def yL_feed : MethodName := ⟨RL, "feed", "(LFusionFront;Ljava/lang/String;)V"⟩
abbrev cL_parsed : ByteArray := method_5_code
def yL_parsed : MethodName := ⟨RL, "parsed", "(LFusionFront;Ljava/lang/String;)I"⟩
abbrev cL_kind : ByteArray := method_6_code
def yL_kind : MethodName := ⟨RL, "kind", "(I)Ljava/lang/String;"⟩
abbrev cL_setup : ByteArray := method_7_code
def yL_setup : MethodName := ⟨RL, "setup", "([I)Ljava/lang/String;"⟩
abbrev cL_act : ByteArray := method_8_code
def yL_act : MethodName := ⟨RL, "act", "(LFusionFront;[II)V"⟩
abbrev cL_allBubbles : ByteArray := method_9_code
def yL_allBubbles : MethodName := ⟨RL, "allBubbles", "(LFusionFront;)I"⟩
abbrev cL_isSound : ByteArray := method_10_code
def yL_isSound : MethodName := ⟨RL, "isSound", "(LFusionFront;)Z"⟩
abbrev cL_law : ByteArray := code
def yL_law : MethodName := ⟨RL, "law", "([I)Z"⟩
abbrev vwCl : List vw_C := [(RJ0, TJ0, 4), (RJ4, TJ4, 4), (RX0, TX0, 18), (RX1, TX1, 3), (RX2, TX2, 2), (RX3, TX3, 13), (RX4, TX4, 2), (RX5, TX5, 11), (RX6, TX6, 3), (RX7, TX7, 5), (RX8, TX8, 3), (RX9, TX9, 5), (RX10, TX10, 1), (RX11, TX11, 12)]
