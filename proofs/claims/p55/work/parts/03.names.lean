def RX0 : String := "DrumWarren$1"
def TX0 : u_T := fun k => match k with
  | _ => ("", "", "", false)
def tyX0 : Nat → FieldType := fun k => match k with
  | _ => .int
abbrev wsX00 : List Cond := u_ws RX0 TX0 0
theorem nmX0 : ∀ a, a < 0 → ∀ b, b < 0 → a ≠ b → (TX0 a).2.1 ≠ (TX0 b).2.1 := by decide +kernel
theorem tyX0_ok : ∀ k, k < 0 → parseFieldDescriptor (TX0 k).2.2.1 = some (tyX0 k) := by decide +kernel
def RX1 : String := "DrumWarren$Air"
def TX1 : u_T := fun k => match k with
  | _ => ("DrumWarren$Air", "thumps", "[I", true)
def tyX1 : Nat → FieldType := fun k => match k with
  | _ => .array .int
abbrev wsX10 : List Cond := u_ws RX1 TX1 1
theorem nmX1 : ∀ a, a < 1 → ∀ b, b < 1 → a ≠ b → (TX1 a).2.1 ≠ (TX1 b).2.1 := by decide +kernel
theorem tyX1_ok : ∀ k, k < 1 → parseFieldDescriptor (TX1 k).2.2.1 = some (tyX1 k) := by decide +kernel
abbrev cX1_init : ByteArray := prog_3_method_1_code
def yX1_init : MethodName := ⟨RX1, "<init>", "()V"⟩
abbrev cX1_copyFrom : ByteArray := prog_3_method_2_code
def yX1_copyFrom : MethodName := ⟨RX1, "copyFrom", "(LDrumWarren$Air;)V"⟩
abbrev cX1_addThump : ByteArray := prog_3_method_3_code
def yX1_addThump : MethodName := ⟨RX1, "addThump", "(II)V"⟩
abbrev cX1_thumpsIn : ByteArray := prog_3_method_4_code
def yX1_thumpsIn : MethodName := ⟨RX1, "thumpsIn", "(II)I"⟩
abbrev cX1_openTick : ByteArray := prog_3_method_5_code
def yX1_openTick : MethodName := ⟨RX1, "openTick", "(I)V"⟩
def RX2 : String := "DrumWarren$Burrow"
def TX2 : u_T := fun k => match k with
  | 0 => ("DrumWarren$Burrow", "chambers", "I", false)
  | 1 => ("DrumWarren$Burrow", "tunnels", "I", false)
  | 2 => ("DrumWarren$Burrow", "tunnelDelays", "[I", true)
  | 3 => ("DrumWarren$Burrow", "wayDelays", "[I", true)
  | _ => ("DrumWarren$Burrow", "reached", "[I", true)
def tyX2 : Nat → FieldType := fun k => match k with
  | 0 => .int
  | 1 => .int
  | 2 => .array .int
  | 3 => .array .int
  | _ => .array .int
abbrev wsX20 : List Cond := u_ws RX2 TX2 5
theorem nmX2 : ∀ a, a < 5 → ∀ b, b < 5 → a ≠ b → (TX2 a).2.1 ≠ (TX2 b).2.1 := by decide +kernel
theorem tyX2_ok : ∀ k, k < 5 → parseFieldDescriptor (TX2 k).2.2.1 = some (tyX2 k) := by decide +kernel
abbrev cX2_init : ByteArray := prog_4_method_1_code
def yX2_init : MethodName := ⟨RX2, "<init>", "()V"⟩
abbrev cX2_copyFrom : ByteArray := prog_4_method_2_code
def yX2_copyFrom : MethodName := ⟨RX2, "copyFrom", "(LDrumWarren$Burrow;)V"⟩
abbrev cX2_has : ByteArray := prog_4_method_3_code
def yX2_has : MethodName := ⟨RX2, "has", "(I)Z"⟩
abbrev cX2_digChamber : ByteArray := prog_4_method_4_code
def yX2_digChamber : MethodName := ⟨RX2, "digChamber", "()LDrumWarren$Fault;"⟩
abbrev cX2_digTunnel : ByteArray := prog_4_method_5_code
def yX2_digTunnel : MethodName := ⟨RX2, "digTunnel", "(III)LDrumWarren$Fault;"⟩
abbrev cX2_fillTunnel : ByteArray := prog_4_method_6_code
def yX2_fillTunnel : MethodName := ⟨RX2, "fillTunnel", "(II)LDrumWarren$Fault;"⟩
abbrev cX2_join : ByteArray := prog_4_method_7_code
def yX2_join : MethodName := ⟨RX2, "join", "(III)V"⟩
abbrev cX2_delayOfTunnel : ByteArray := prog_4_method_8_code
def yX2_delayOfTunnel : MethodName := ⟨RX2, "delayOfTunnel", "(II)I"⟩
abbrev cX2_delayOfWay : ByteArray := prog_4_method_9_code
def yX2_delayOfWay : MethodName := ⟨RX2, "delayOfWay", "(II)I"⟩
abbrev cX2_improveAllPairs : ByteArray := prog_4_method_10_code
def yX2_improveAllPairs : MethodName := ⟨RX2, "improveAllPairs", "()V"⟩
abbrev cX2_improveFrom : ByteArray := prog_4_method_11_code
def yX2_improveFrom : MethodName := ⟨RX2, "improveFrom", "(II)V"⟩
abbrev cX2_searchWay : ByteArray := prog_4_method_12_code
def yX2_searchWay : MethodName := ⟨RX2, "searchWay", "(II)I"⟩
abbrev cX2_nearestBut : ByteArray := prog_4_method_13_code
def yX2_nearestBut : MethodName := ⟨RX2, "nearestBut", "(I)I"⟩
abbrev cX2_continueFrom : ByteArray := prog_4_method_14_code
def yX2_continueFrom : MethodName := ⟨RX2, "continueFrom", "(I)V"⟩
abbrev cX2_waysAgree : ByteArray := prog_4_method_15_code
def yX2_waysAgree : MethodName := ⟨RX2, "waysAgree", "()Z"⟩
def RX3 : String := "DrumWarren$Command"
def TX3 : u_T := fun k => match k with
  | 0 => ("DrumWarren$Command", "kind", "LDrumWarren$CommandKind;", false)
  | 1 => ("DrumWarren$Command", "arguments", "[I", true)
  | _ => ("DrumWarren$Command", "argumentCount", "I", false)
def tyX3 : Nat → FieldType := fun k => match k with
  | 0 => .object "DrumWarren$CommandKind"
  | 1 => .array .int
  | _ => .int
abbrev wsX30 : List Cond := u_ws RX3 TX3 3
theorem nmX3 : ∀ a, a < 3 → ∀ b, b < 3 → a ≠ b → (TX3 a).2.1 ≠ (TX3 b).2.1 := by decide +kernel
theorem tyX3_ok : ∀ k, k < 3 → parseFieldDescriptor (TX3 k).2.2.1 = some (tyX3 k) := by decide +kernel
abbrev cX3_init : ByteArray := prog_5_method_1_code
def yX3_init : MethodName := ⟨RX3, "<init>", "()V"⟩
abbrev cX3_addArgument : ByteArray := prog_5_method_2_code
def yX3_addArgument : MethodName := ⟨RX3, "addArgument", "(I)V"⟩
def RX4 : String := "DrumWarren$CommandKind"
def TX4 : u_T := fun k => match k with
  | _ => ("", "", "", false)
def tyX4 : Nat → FieldType := fun k => match k with
  | _ => .int
abbrev wsX40 : List Cond := u_ws RX4 TX4 0
theorem nmX4 : ∀ a, a < 0 → ∀ b, b < 0 → a ≠ b → (TX4 a).2.1 ≠ (TX4 b).2.1 := by decide +kernel
theorem tyX4_ok : ∀ k, k < 0 → parseFieldDescriptor (TX4 k).2.2.1 = some (tyX4 k) := by decide +kernel
def RX5 : String := "DrumWarren$CommandReader"
def TX5 : u_T := fun k => match k with
  | 0 => ("DrumWarren$CommandReader", "text", "[C", true)
  | 1 => ("DrumWarren$CommandReader", "length", "I", false)
  | 2 => ("DrumWarren$CommandReader", "commands", "[LDrumWarren$Command;", true)
  | 3 => ("DrumWarren$CommandReader", "commandCount", "I", false)
  | 4 => ("DrumWarren$CommandReader", "errorPosition", "I", false)
  | _ => ("DrumWarren$CommandReader", "position", "I", false)
def tyX5 : Nat → FieldType := fun k => match k with
  | 0 => .array .char
  | 1 => .int
  | 2 => .array (.object "DrumWarren$Command")
  | 3 => .int
  | 4 => .int
  | _ => .int
abbrev wsX50 : List Cond := u_ws RX5 TX5 6
theorem nmX5 : ∀ a, a < 6 → ∀ b, b < 6 → a ≠ b → (TX5 a).2.1 ≠ (TX5 b).2.1 := by decide +kernel
theorem tyX5_ok : ∀ k, k < 6 → parseFieldDescriptor (TX5 k).2.2.1 = some (tyX5 k) := by decide +kernel
abbrev cX5_init : ByteArray := prog_7_method_1_code
def yX5_init : MethodName := ⟨RX5, "<init>", "()V"⟩
abbrev cX5_take : ByteArray := prog_7_method_2_code
def yX5_take : MethodName := ⟨RX5, "take", "(C)Z"⟩
abbrev cX5_readText : ByteArray := prog_7_method_3_code
def yX5_readText : MethodName := ⟨RX5, "readText", "()V"⟩
abbrev cX5_readCommand : ByteArray := prog_7_method_4_code
def yX5_readCommand : MethodName := ⟨RX5, "readCommand", "(ILDrumWarren$Command;)Z"⟩
abbrev cX5_readForm : ByteArray := prog_7_method_5_code
def yX5_readForm : MethodName := ⟨RX5, "readForm", "(LDrumWarren$CommandKind;ILDrumWarren$Command;)Z"⟩
abbrev cX5_readSign : ByteArray := prog_7_method_6_code
def yX5_readSign : MethodName := ⟨RX5, "readSign", "(C)Z"⟩
abbrev cX5_readNumber : ByteArray := prog_7_method_7_code
def yX5_readNumber : MethodName := ⟨RX5, "readNumber", "(ZLDrumWarren$Command;)Z"⟩
abbrev cX5_isAt : ByteArray := prog_7_method_8_code
def yX5_isAt : MethodName := ⟨RX5, "isAt", "(IC)Z"⟩
abbrev cX5_isDigitAt : ByteArray := prog_7_method_9_code
def yX5_isDigitAt : MethodName := ⟨RX5, "isDigitAt", "(I)Z"⟩
abbrev cX5_digitAt : ByteArray := prog_7_method_10_code
def yX5_digitAt : MethodName := ⟨RX5, "digitAt", "(I)I"⟩
def RX6 : String := "DrumWarren$Fault"
def TX6 : u_T := fun k => match k with
  | _ => ("", "", "", false)
def tyX6 : Nat → FieldType := fun k => match k with
  | _ => .int
abbrev wsX60 : List Cond := u_ws RX6 TX6 0
theorem nmX6 : ∀ a, a < 0 → ∀ b, b < 0 → a ≠ b → (TX6 a).2.1 ≠ (TX6 b).2.1 := by decide +kernel
theorem tyX6_ok : ∀ k, k < 0 → parseFieldDescriptor (TX6 k).2.2.1 = some (tyX6 k) := by decide +kernel
def RX7 : String := "DrumWarren$Hare"
def TX7 : u_T := fun k => match k with
  | 0 => ("DrumWarren$Hare", "chamber", "I", false)
  | 1 => ("DrumWarren$Hare", "listens", "Z", false)
  | 2 => ("DrumWarren$Hare", "received", "I", false)
  | _ => ("DrumWarren$Hare", "latest", "I", false)
def tyX7 : Nat → FieldType := fun k => match k with
  | 0 => .int
  | 1 => .boolean
  | 2 => .int
  | _ => .int
abbrev wsX70 : List Cond := u_ws RX7 TX7 4
theorem nmX7 : ∀ a, a < 4 → ∀ b, b < 4 → a ≠ b → (TX7 a).2.1 ≠ (TX7 b).2.1 := by decide +kernel
theorem tyX7_ok : ∀ k, k < 4 → parseFieldDescriptor (TX7 k).2.2.1 = some (tyX7 k) := by decide +kernel
abbrev cX7_init : ByteArray := prog_9_method_1_code
def yX7_init : MethodName := ⟨RX7, "<init>", "()V"⟩
abbrev cX7_copyFrom : ByteArray := prog_9_method_2_code
def yX7_copyFrom : MethodName := ⟨RX7, "copyFrom", "(LDrumWarren$Hare;)V"⟩
def RX8 : String := "DrumWarren$History"
def TX8 : u_T := fun k => match k with
  | 0 => ("DrumWarren$History", "before", "[LDrumWarren$State;", true)
  | 1 => ("DrumWarren$History", "next", "I", false)
  | _ => ("DrumWarren$History", "count", "I", false)
def tyX8 : Nat → FieldType := fun k => match k with
  | 0 => .array (.object "DrumWarren$State")
  | 1 => .int
  | _ => .int
abbrev wsX80 : List Cond := u_ws RX8 TX8 3
theorem nmX8 : ∀ a, a < 3 → ∀ b, b < 3 → a ≠ b → (TX8 a).2.1 ≠ (TX8 b).2.1 := by decide +kernel
theorem tyX8_ok : ∀ k, k < 3 → parseFieldDescriptor (TX8 k).2.2.1 = some (tyX8 k) := by decide +kernel
abbrev cX8_init : ByteArray := prog_10_method_1_code
def yX8_init : MethodName := ⟨RX8, "<init>", "()V"⟩
abbrev cX8_prepare : ByteArray := prog_10_method_2_code
def yX8_prepare : MethodName := ⟨RX8, "prepare", "(LDrumWarren$State;)V"⟩
abbrev cX8_copyPreparedTo : ByteArray := prog_10_method_3_code
def yX8_copyPreparedTo : MethodName := ⟨RX8, "copyPreparedTo", "(LDrumWarren$State;)V"⟩
abbrev cX8_keep : ByteArray := prog_10_method_4_code
def yX8_keep : MethodName := ⟨RX8, "keep", "()V"⟩
abbrev cX8_takeBack : ByteArray := prog_10_method_5_code
def yX8_takeBack : MethodName := ⟨RX8, "takeBack", "(LDrumWarren$State;)Z"⟩
def RX9 : String := "DrumWarren$Message"
def TX9 : u_T := fun k => match k with
  | 0 => ("DrumWarren$Message", "id", "I", false)
  | 1 => ("DrumWarren$Message", "sender", "I", false)
  | 2 => ("DrumWarren$Message", "receiver", "I", false)
  | 3 => ("DrumWarren$Message", "number", "I", false)
  | 4 => ("DrumWarren$Message", "state", "C", false)
  | 5 => ("DrumWarren$Message", "timesLost", "I", false)
  | 6 => ("DrumWarren$Message", "beats", "I", false)
  | _ => ("DrumWarren$Message", "heardAt", "[I", true)
def tyX9 : Nat → FieldType := fun k => match k with
  | 0 => .int
  | 1 => .int
  | 2 => .int
  | 3 => .int
  | 4 => .char
  | 5 => .int
  | 6 => .int
  | _ => .array .int
abbrev wsX90 : List Cond := u_ws RX9 TX9 8
theorem nmX9 : ∀ a, a < 8 → ∀ b, b < 8 → a ≠ b → (TX9 a).2.1 ≠ (TX9 b).2.1 := by decide +kernel
theorem tyX9_ok : ∀ k, k < 8 → parseFieldDescriptor (TX9 k).2.2.1 = some (tyX9 k) := by decide +kernel
abbrev cX9_init : ByteArray := prog_11_method_1_code
def yX9_init : MethodName := ⟨RX9, "<init>", "()V"⟩
abbrev cX9_copyFrom : ByteArray := prog_11_method_2_code
def yX9_copyFrom : MethodName := ⟨RX9, "copyFrom", "(LDrumWarren$Message;)V"⟩
abbrev cX9_noteHeard : ByteArray := prog_11_method_3_code
def yX9_noteHeard : MethodName := ⟨RX9, "noteHeard", "(III)V"⟩
abbrev cX9_tickHeard : ByteArray := prog_11_method_4_code
def yX9_tickHeard : MethodName := ⟨RX9, "tickHeard", "(II)I"⟩
abbrev cX9_isSlot : ByteArray := prog_11_method_5_code
def yX9_isSlot : MethodName := ⟨RX9, "isSlot", "(II)Z"⟩
abbrev cX9_begin : ByteArray := prog_11_method_6_code
def yX9_begin : MethodName := ⟨RX9, "begin", "()V"⟩
abbrev cX9_arrive : ByteArray := prog_11_method_7_code
def yX9_arrive : MethodName := ⟨RX9, "arrive", "()V"⟩
abbrev cX9_lose : ByteArray := prog_11_method_8_code
def yX9_lose : MethodName := ⟨RX9, "lose", "()V"⟩
def RX10 : String := "DrumWarren$State"
def TX10 : u_T := fun k => match k with
  | 0 => ("DrumWarren$State", "burrow", "LDrumWarren$Burrow;", true)
  | 1 => ("DrumWarren$State", "hares", "[LDrumWarren$Hare;", true)
  | 2 => ("DrumWarren$State", "hareCount", "I", false)
  | 3 => ("DrumWarren$State", "messages", "[LDrumWarren$Message;", true)
  | 4 => ("DrumWarren$State", "messageCount", "I", false)
  | 5 => ("DrumWarren$State", "nextId", "I", false)
  | 6 => ("DrumWarren$State", "air", "LDrumWarren$Air;", true)
  | 7 => ("DrumWarren$State", "ticks", "I", false)
  | 8 => ("DrumWarren$State", "thumps", "I", false)
  | 9 => ("DrumWarren$State", "deliveries", "I", false)
  | _ => ("DrumWarren$State", "losses", "I", false)
def tyX10 : Nat → FieldType := fun k => match k with
  | 0 => .object "DrumWarren$Burrow"
  | 1 => .array (.object "DrumWarren$Hare")
  | 2 => .int
  | 3 => .array (.object "DrumWarren$Message")
  | 4 => .int
  | 5 => .int
  | 6 => .object "DrumWarren$Air"
  | 7 => .int
  | 8 => .int
  | 9 => .int
  | _ => .int
abbrev wsX100 : List Cond := u_ws RX10 TX10 11
theorem nmX10 : ∀ a, a < 11 → ∀ b, b < 11 → a ≠ b → (TX10 a).2.1 ≠ (TX10 b).2.1 := by decide +kernel
theorem tyX10_ok : ∀ k, k < 11 → parseFieldDescriptor (TX10 k).2.2.1 = some (tyX10 k) := by decide +kernel
abbrev cX10_init : ByteArray := prog_12_method_1_code
def yX10_init : MethodName := ⟨RX10, "<init>", "()V"⟩
abbrev cX10_copyFrom : ByteArray := prog_12_method_2_code
def yX10_copyFrom : MethodName := ⟨RX10, "copyFrom", "(LDrumWarren$State;)V"⟩
abbrev cX10_hasHare : ByteArray := prog_12_method_3_code
def yX10_hasHare : MethodName := ⟨RX10, "hasHare", "(I)Z"⟩
abbrev cX10_placeOf : ByteArray := prog_12_method_4_code
def yX10_placeOf : MethodName := ⟨RX10, "placeOf", "(I)I"⟩
abbrev cX10_listens : ByteArray := prog_12_method_5_code
def yX10_listens : MethodName := ⟨RX10, "listens", "(I)Z"⟩
abbrev cX10_receivedBy : ByteArray := prog_12_method_6_code
def yX10_receivedBy : MethodName := ⟨RX10, "receivedBy", "(I)I"⟩
abbrev cX10_latestOf : ByteArray := prog_12_method_7_code
def yX10_latestOf : MethodName := ⟨RX10, "latestOf", "(I)I"⟩
abbrev cX10_drums : ByteArray := prog_12_method_8_code
def yX10_drums : MethodName := ⟨RX10, "drums", "(I)Z"⟩
abbrev cX10_haresAheadOf : ByteArray := prog_12_method_9_code
def yX10_haresAheadOf : MethodName := ⟨RX10, "haresAheadOf", "(I)I"⟩
abbrev cX10_settle : ByteArray := prog_12_method_10_code
def yX10_settle : MethodName := ⟨RX10, "settle", "(I)LDrumWarren$Fault;"⟩
abbrev cX10_go : ByteArray := prog_12_method_11_code
def yX10_go : MethodName := ⟨RX10, "go", "(II)LDrumWarren$Fault;"⟩
abbrev cX10_letListen : ByteArray := prog_12_method_12_code
def yX10_letListen : MethodName := ⟨RX10, "letListen", "(IZ)LDrumWarren$Fault;"⟩
abbrev cX10_positionOf : ByteArray := prog_12_method_13_code
def yX10_positionOf : MethodName := ⟨RX10, "positionOf", "(I)I"⟩
abbrev cX10_isDelivered : ByteArray := prog_12_method_14_code
def yX10_isDelivered : MethodName := ⟨RX10, "isDelivered", "(I)Z"⟩
abbrev cX10_addMessage : ByteArray := prog_12_method_15_code
def yX10_addMessage : MethodName := ⟨RX10, "addMessage", "(III)LDrumWarren$Fault;"⟩
abbrev cX10_dropMessage : ByteArray := prog_12_method_16_code
def yX10_dropMessage : MethodName := ⟨RX10, "dropMessage", "(I)LDrumWarren$Fault;"⟩
abbrev cX10_letTicksPass : ByteArray := prog_12_method_17_code
def yX10_letTicksPass : MethodName := ⟨RX10, "letTicksPass", "(I)LDrumWarren$Fault;"⟩
abbrev cX10_passOneTick : ByteArray := prog_12_method_18_code
def yX10_passOneTick : MethodName := ⟨RX10, "passOneTick", "()V"⟩
abbrev cX10_beginMessages : ByteArray := prog_12_method_19_code
def yX10_beginMessages : MethodName := ⟨RX10, "beginMessages", "()V"⟩
abbrev cX10_firstIn : ByteArray := prog_12_method_20_code
def yX10_firstIn : MethodName := ⟨RX10, "firstIn", "(IC)I"⟩
abbrev cX10_drumBeats : ByteArray := prog_12_method_21_code
def yX10_drumBeats : MethodName := ⟨RX10, "drumBeats", "()V"⟩
abbrev cX10_thump : ByteArray := prog_12_method_22_code
def yX10_thump : MethodName := ⟨RX10, "thump", "(LDrumWarren$Message;)V"⟩
abbrev cX10_decideDeliveries : ByteArray := prog_12_method_23_code
def yX10_decideDeliveries : MethodName := ⟨RX10, "decideDeliveries", "()V"⟩
abbrev cX10_isUnderstood : ByteArray := prog_12_method_24_code
def yX10_isUnderstood : MethodName := ⟨RX10, "isUnderstood", "(LDrumWarren$Message;)Z"⟩
abbrev cX10_deliver : ByteArray := prog_12_method_25_code
def yX10_deliver : MethodName := ⟨RX10, "deliver", "(LDrumWarren$Message;)V"⟩
abbrev cX10_isDrummedByOneEach : ByteArray := prog_12_method_26_code
def yX10_isDrummedByOneEach : MethodName := ⟨RX10, "isDrummedByOneEach", "()Z"⟩
def RX11 : String := "DrumWarren"
def TX11 : u_T := fun k => match k with
  | 0 => ("DrumWarren", "now", "LDrumWarren$State;", true)
  | 1 => ("DrumWarren", "trial", "LDrumWarren$State;", true)
  | 2 => ("DrumWarren", "saved", "LDrumWarren$State;", true)
  | 3 => ("DrumWarren", "history", "LDrumWarren$History;", true)
  | 4 => ("DrumWarren", "reader", "LDrumWarren$CommandReader;", true)
  | 5 => ("DrumWarren", "output", "Ljava/lang/StringBuilder;", true)
  | 6 => ("DrumWarren", "hasSaved", "Z", false)
  | 7 => ("DrumWarren", "keptErrorPosition", "I", false)
  | _ => ("DrumWarren", "keptFailedCommand", "I", false)
def tyX11 : Nat → FieldType := fun k => match k with
  | 0 => .object "DrumWarren$State"
  | 1 => .object "DrumWarren$State"
  | 2 => .object "DrumWarren$State"
  | 3 => .object "DrumWarren$History"
  | 4 => .object "DrumWarren$CommandReader"
  | 5 => .object "java/lang/StringBuilder"
  | 6 => .boolean
  | 7 => .int
  | _ => .int
abbrev wsX110 : List Cond := u_ws RX11 TX11 9
theorem nmX11 : ∀ a, a < 9 → ∀ b, b < 9 → a ≠ b → (TX11 a).2.1 ≠ (TX11 b).2.1 := by decide +kernel
theorem tyX11_ok : ∀ k, k < 9 → parseFieldDescriptor (TX11 k).2.2.1 = some (tyX11 k) := by decide +kernel
abbrev cX11_init : ByteArray := prog_1_method_1_code
def yX11_init : MethodName := ⟨RX11, "<init>", "()V"⟩
abbrev cX11_addChamber : ByteArray := prog_1_method_2_code
def yX11_addChamber : MethodName := ⟨RX11, "addChamber", "()I"⟩
abbrev cX11_addTunnel : ByteArray := prog_1_method_3_code
def yX11_addTunnel : MethodName := ⟨RX11, "addTunnel", "(III)I"⟩
abbrev cX11_removeTunnel : ByteArray := prog_1_method_4_code
def yX11_removeTunnel : MethodName := ⟨RX11, "removeTunnel", "(II)I"⟩
abbrev cX11_chamberCount : ByteArray := prog_1_method_5_code
def yX11_chamberCount : MethodName := ⟨RX11, "chamberCount", "()I"⟩
abbrev cX11_tunnelCount : ByteArray := prog_1_method_6_code
def yX11_tunnelCount : MethodName := ⟨RX11, "tunnelCount", "()I"⟩
abbrev cX11_tunnelDelay : ByteArray := prog_1_method_7_code
def yX11_tunnelDelay : MethodName := ⟨RX11, "tunnelDelay", "(II)I"⟩
abbrev cX11_shortestDelay : ByteArray := prog_1_method_8_code
def yX11_shortestDelay : MethodName := ⟨RX11, "shortestDelay", "(II)I"⟩
abbrev cX11_shortestDelayBySearch : ByteArray := prog_1_method_9_code
def yX11_shortestDelayBySearch : MethodName := ⟨RX11, "shortestDelayBySearch", "(II)I"⟩
abbrev cX11_loudness : ByteArray := prog_1_method_10_code
def yX11_loudness : MethodName := ⟨RX11, "loudness", "(II)F"⟩
abbrev cX11_loudnessBits : ByteArray := prog_1_method_11_code
def yX11_loudnessBits : MethodName := ⟨RX11, "loudnessBits", "(II)I"⟩
abbrev cX11_addHare : ByteArray := prog_1_method_12_code
def yX11_addHare : MethodName := ⟨RX11, "addHare", "(I)I"⟩
abbrev cX11_move : ByteArray := prog_1_method_13_code
def yX11_move : MethodName := ⟨RX11, "move", "(II)I"⟩
abbrev cX11_setListening : ByteArray := prog_1_method_14_code
def yX11_setListening : MethodName := ⟨RX11, "setListening", "(IZ)Z"⟩
abbrev cX11_hareCount : ByteArray := prog_1_method_15_code
def yX11_hareCount : MethodName := ⟨RX11, "hareCount", "()I"⟩
abbrev cX11_chamberOf : ByteArray := prog_1_method_16_code
def yX11_chamberOf : MethodName := ⟨RX11, "chamberOf", "(I)I"⟩
abbrev cX11_isListening : ByteArray := prog_1_method_17_code
def yX11_isListening : MethodName := ⟨RX11, "isListening", "(I)Z"⟩
abbrev cX11_isDrumming : ByteArray := prog_1_method_18_code
def yX11_isDrumming : MethodName := ⟨RX11, "isDrumming", "(I)Z"⟩
abbrev cX11_received : ByteArray := prog_1_method_19_code
def yX11_received : MethodName := ⟨RX11, "received", "(I)I"⟩
abbrev cX11_latestNumber : ByteArray := prog_1_method_20_code
def yX11_latestNumber : MethodName := ⟨RX11, "latestNumber", "(I)I"⟩
abbrev cX11_hareByReceived : ByteArray := prog_1_method_21_code
def yX11_hareByReceived : MethodName := ⟨RX11, "hareByReceived", "(I)I"⟩
abbrev cX11_say : ByteArray := prog_1_method_22_code
def yX11_say : MethodName := ⟨RX11, "say", "(III)I"⟩
abbrev cX11_forget : ByteArray := prog_1_method_23_code
def yX11_forget : MethodName := ⟨RX11, "forget", "(I)I"⟩
abbrev cX11_messageCount : ByteArray := prog_1_method_24_code
def yX11_messageCount : MethodName := ⟨RX11, "messageCount", "()I"⟩
abbrev cX11_message : ByteArray := prog_1_method_25_code
def yX11_message : MethodName := ⟨RX11, "message", "(I)I"⟩
abbrev cX11_sender : ByteArray := prog_1_method_26_code
def yX11_sender : MethodName := ⟨RX11, "sender", "(I)I"⟩
abbrev cX11_receiver : ByteArray := prog_1_method_27_code
def yX11_receiver : MethodName := ⟨RX11, "receiver", "(I)I"⟩
abbrev cX11_state : ByteArray := prog_1_method_28_code
def yX11_state : MethodName := ⟨RX11, "state", "(I)C"⟩
abbrev cX11_timesLost : ByteArray := prog_1_method_29_code
def yX11_timesLost : MethodName := ⟨RX11, "timesLost", "(I)I"⟩
abbrev cX11_beatsDrummed : ByteArray := prog_1_method_30_code
def yX11_beatsDrummed : MethodName := ⟨RX11, "beatsDrummed", "(I)I"⟩
abbrev cX11_isThump : ByteArray := prog_1_method_31_code
def yX11_isThump : MethodName := ⟨RX11, "isThump", "(II)Z"⟩
abbrev cX11_decode : ByteArray := prog_1_method_32_code
def yX11_decode : MethodName := ⟨RX11, "decode", "(I)I"⟩
abbrev cX11_ticksUntilDelivery : ByteArray := prog_1_method_33_code
def yX11_ticksUntilDelivery : MethodName := ⟨RX11, "ticksUntilDelivery", "(I)I"⟩
abbrev cX11_passTicks : ByteArray := prog_1_method_34_code
def yX11_passTicks : MethodName := ⟨RX11, "passTicks", "(I)I"⟩
abbrev cX11_ticks : ByteArray := prog_1_method_35_code
def yX11_ticks : MethodName := ⟨RX11, "ticks", "()I"⟩
abbrev cX11_thumpsHeard : ByteArray := prog_1_method_36_code
def yX11_thumpsHeard : MethodName := ⟨RX11, "thumpsHeard", "(II)I"⟩
abbrev cX11_thumpsDrummed : ByteArray := prog_1_method_37_code
def yX11_thumpsDrummed : MethodName := ⟨RX11, "thumpsDrummed", "()I"⟩
abbrev cX11_deliveries : ByteArray := prog_1_method_38_code
def yX11_deliveries : MethodName := ⟨RX11, "deliveries", "()I"⟩
abbrev cX11_losses : ByteArray := prog_1_method_39_code
def yX11_losses : MethodName := ⟨RX11, "losses", "()I"⟩
abbrev cX11_meanLoudness : ByteArray := prog_1_method_40_code
def yX11_meanLoudness : MethodName := ⟨RX11, "meanLoudness", "(I)F"⟩
abbrev cX11_deliveryFraction : ByteArray := prog_1_method_41_code
def yX11_deliveryFraction : MethodName := ⟨RX11, "deliveryFraction", "()D"⟩
abbrev cX11_writeMessage : ByteArray := prog_1_method_42_code
def yX11_writeMessage : MethodName := ⟨RX11, "writeMessage", "(I)I"⟩
abbrev cX11_writeCode : ByteArray := prog_1_method_43_code
def yX11_writeCode : MethodName := ⟨RX11, "writeCode", "(I)I"⟩
abbrev cX11_outputCharacter : ByteArray := prog_1_method_44_code
def yX11_outputCharacter : MethodName := ⟨RX11, "outputCharacter", "(I)C"⟩
abbrev cX11_isConsistent : ByteArray := prog_1_method_45_code
def yX11_isConsistent : MethodName := ⟨RX11, "isConsistent", "()Z"⟩
abbrev cX11_feed : ByteArray := prog_1_method_46_code
def yX11_feed : MethodName := ⟨RX11, "feed", "(C)I"⟩
abbrev cX11_execute : ByteArray := prog_1_method_47_code
def yX11_execute : MethodName := ⟨RX11, "execute", "()I"⟩
abbrev cX11_undo : ByteArray := prog_1_method_50_code
def yX11_undo : MethodName := ⟨RX11, "undo", "()I"⟩
abbrev cX11_undoCount : ByteArray := prog_1_method_51_code
def yX11_undoCount : MethodName := ⟨RX11, "undoCount", "()I"⟩
abbrev cX11_refuse : ByteArray := prog_1_method_54_code
def yX11_refuse : MethodName := ⟨RX11, "refuse", "(LDrumWarren$Fault;)V"⟩
abbrev cX11_checkChamber : ByteArray := prog_1_method_55_code
def yX11_checkChamber : MethodName := ⟨RX11, "checkChamber", "(I)V"⟩
abbrev cX11_checkHare : ByteArray := prog_1_method_56_code
def yX11_checkHare : MethodName := ⟨RX11, "checkHare", "(I)V"⟩
abbrev cX11_checkNumber : ByteArray := prog_1_method_57_code
def yX11_checkNumber : MethodName := ⟨RX11, "checkNumber", "(I)V"⟩
abbrev cX11_checkedWay : ByteArray := prog_1_method_58_code
def yX11_checkedWay : MethodName := ⟨RX11, "checkedWay", "(I)I"⟩
abbrev cX11_existing : ByteArray := prog_1_method_59_code
def yX11_existing : MethodName := ⟨RX11, "existing", "(I)LDrumWarren$Message;"⟩
abbrev cX11_isNumber : ByteArray := prog_1_method_60_code
def yX11_isNumber : MethodName := ⟨RX11, "isNumber", "(I)Z"⟩
abbrev cX11_codeOf : ByteArray := prog_1_method_61_code
def yX11_codeOf : MethodName := ⟨RX11, "codeOf", "(I)I"⟩
abbrev cX11_numberOf : ByteArray := prog_1_method_62_code
def yX11_numberOf : MethodName := ⟨RX11, "numberOf", "(I)I"⟩
abbrev cX11_isOne : ByteArray := prog_1_method_63_code
def yX11_isOne : MethodName := ⟨RX11, "isOne", "(II)Z"⟩
abbrev cX11_codesDecode : ByteArray := prog_1_method_64_code
def yX11_codesDecode : MethodName := ⟨RX11, "codesDecode", "()Z"⟩
abbrev cX11_loudnessAfter : ByteArray := prog_1_method_65_code
def yX11_loudnessAfter : MethodName := ⟨RX11, "loudnessAfter", "(I)F"⟩
abbrev cX11_bitsOf : ByteArray := prog_1_method_66_code
def yX11_bitsOf : MethodName := ⟨RX11, "bitsOf", "(F)I"⟩
abbrev cX11_perform : ByteArray := prog_1_method_67_code
def yX11_perform : MethodName := ⟨RX11, "perform", "(LDrumWarren$Command;)LDrumWarren$Fault;"⟩
def RX12 : String := "DrumWarrenModel"
def TX12 : u_T := fun k => match k with
  | _ => ("", "", "", false)
def tyX12 : Nat → FieldType := fun k => match k with
  | _ => .int
abbrev wsX120 : List Cond := u_ws RX12 TX12 0
theorem nmX12 : ∀ a, a < 0 → ∀ b, b < 0 → a ≠ b → (TX12 a).2.1 ≠ (TX12 b).2.1 := by decide +kernel
theorem tyX12_ok : ∀ k, k < 0 → parseFieldDescriptor (TX12 k).2.2.1 = some (tyX12 k) := by decide +kernel
def RJx145de : String := "java/io/Serializable"
def TJx145de : u_T := fun k => match k with
  | _ => ("", "", "", false)
def tyJx145de : Nat → FieldType := fun k => match k with
  | _ => .int
abbrev wsJx145de0 : List Cond := u_ws RJx145de TJx145de 0
theorem nmJx145de : ∀ a, a < 0 → ∀ b, b < 0 → a ≠ b → (TJx145de a).2.1 ≠ (TJx145de b).2.1 := by decide +kernel
theorem tyJx145de_ok : ∀ k, k < 0 → parseFieldDescriptor (TJx145de k).2.2.1 = some (tyJx145de k) := by decide +kernel
def RJ5 : String := "java/lang/AbstractStringBuilder"
def TJ5 : u_T := fun k => match k with
  | _ => ("", "", "", false)
def tyJ5 : Nat → FieldType := fun k => match k with
  | _ => .int
abbrev wsJ50 : List Cond := u_ws RJ5 TJ5 0
theorem nmJ5 : ∀ a, a < 0 → ∀ b, b < 0 → a ≠ b → (TJ5 a).2.1 ≠ (TJ5 b).2.1 := by decide +kernel
theorem tyJ5_ok : ∀ k, k < 0 → parseFieldDescriptor (TJ5 k).2.2.1 = some (tyJ5 k) := by decide +kernel
abbrev cJ5_init_d00df : ByteArray := prog_16_method_2_code
def yJ5_init_d00df : MethodName := ⟨RJ5, "<init>", "(I)V"⟩
abbrev cJ5_length_8abf5 : ByteArray := prog_16_method_6_code
def yJ5_length_8abf5 : MethodName := ⟨RJ5, "length", "()I"⟩
abbrev cJ5_ensureCapacityInternal_d00df : ByteArray := prog_16_method_9_code
def yJ5_ensureCapacityInternal_d00df : MethodName := ⟨RJ5, "ensureCapacityInternal", "(I)V"⟩
abbrev cJ5_newCapacity_0f7a4 : ByteArray := prog_16_method_10_code
def yJ5_newCapacity_0f7a4 : MethodName := ⟨RJ5, "newCapacity", "(I)I"⟩
abbrev cJ5_inflate_da8c8 : ByteArray := prog_16_method_11_code
def yJ5_inflate_da8c8 : MethodName := ⟨RJ5, "inflate", "()V"⟩
abbrev cJ5_setLength_d00df : ByteArray := prog_16_method_13_code
def yJ5_setLength_d00df : MethodName := ⟨RJ5, "setLength", "(I)V"⟩
abbrev cJ5_charAt_5068e : ByteArray := prog_16_method_14_code
def yJ5_charAt_5068e : MethodName := ⟨RJ5, "charAt", "(I)C"⟩
abbrev cJ5_append_cf1ce : ByteArray := prog_16_method_22_code
def yJ5_append_cf1ce : MethodName := ⟨RJ5, "append", "(Ljava/lang/String;)Ljava/lang/AbstractStringBuilder;"⟩
abbrev cJ5_appendNull_278bc : ByteArray := prog_16_method_26_code
def yJ5_appendNull_278bc : MethodName := ⟨RJ5, "appendNull", "()Ljava/lang/AbstractStringBuilder;"⟩
abbrev cJ5_append_3fe6f : ByteArray := prog_16_method_31_code
def yJ5_append_3fe6f : MethodName := ⟨RJ5, "append", "(C)Ljava/lang/AbstractStringBuilder;"⟩
abbrev cJ5_append_c97b9 : ByteArray := prog_16_method_32_code
def yJ5_append_c97b9 : MethodName := ⟨RJ5, "append", "(I)Ljava/lang/AbstractStringBuilder;"⟩
abbrev cJ5_getValue_6d5f1 : ByteArray := prog_16_method_64_code
def yJ5_getValue_6d5f1 : MethodName := ⟨RJ5, "getValue", "()[B"⟩
abbrev cJ5_isLatin1_aae02 : ByteArray := prog_16_method_68_code
def yJ5_isLatin1_aae02 : MethodName := ⟨RJ5, "isLatin1", "()Z"⟩
abbrev cJ5_inflateIfNeededFor_a7421 : ByteArray := prog_16_method_71_code
def yJ5_inflateIfNeededFor_a7421 : MethodName := ⟨RJ5, "inflateIfNeededFor", "(Ljava/lang/String;)V"⟩
abbrev cJ5_putStringAt_47b60 : ByteArray := prog_16_method_73_code
def yJ5_putStringAt_47b60 : MethodName := ⟨RJ5, "putStringAt", "(ILjava/lang/String;)V"⟩
def RJx2cfe8 : String := "java/lang/Appendable"
def TJx2cfe8 : u_T := fun k => match k with
  | _ => ("", "", "", false)
def tyJx2cfe8 : Nat → FieldType := fun k => match k with
  | _ => .int
abbrev wsJx2cfe80 : List Cond := u_ws RJx2cfe8 TJx2cfe8 0
theorem nmJx2cfe8 : ∀ a, a < 0 → ∀ b, b < 0 → a ≠ b → (TJx2cfe8 a).2.1 ≠ (TJx2cfe8 b).2.1 := by decide +kernel
theorem tyJx2cfe8_ok : ∀ k, k < 0 → parseFieldDescriptor (TJx2cfe8 k).2.2.1 = some (tyJx2cfe8 k) := by decide +kernel
def RJx00060 : String := "java/lang/ArrayIndexOutOfBoundsException"
def TJx00060 : u_T := fun k => match k with
  | 0 => ("java/lang/Throwable", "backtrace", "Ljava/lang/Object;", false)
  | 1 => ("java/lang/Throwable", "detailMessage", "Ljava/lang/String;", false)
  | 2 => ("java/lang/Throwable", "cause", "Ljava/lang/Throwable;", false)
  | 3 => ("java/lang/Throwable", "stackTrace", "[Ljava/lang/StackTraceElement;", false)
  | 4 => ("java/lang/Throwable", "depth", "I", false)
  | _ => ("java/lang/Throwable", "suppressedExceptions", "Ljava/util/List;", false)
def tyJx00060 : Nat → FieldType := fun k => match k with
  | 0 => .object "java/lang/Object"
  | 1 => .object "java/lang/String"
  | 2 => .object "java/lang/Throwable"
  | 3 => .array (.object "java/lang/StackTraceElement")
  | 4 => .int
  | _ => .object "java/util/List"
abbrev wsJx000600 : List Cond := u_ws RJx00060 TJx00060 6
theorem nmJx00060 : ∀ a, a < 6 → ∀ b, b < 6 → a ≠ b → (TJx00060 a).2.1 ≠ (TJx00060 b).2.1 := by decide +kernel
theorem tyJx00060_ok : ∀ k, k < 6 → parseFieldDescriptor (TJx00060 k).2.2.1 = some (tyJx00060 k) := by decide +kernel
abbrev cJx00060_init_a7421 : ByteArray := prog_19_method_2_code
def yJx00060_init_a7421 : MethodName := ⟨RJx00060, "<init>", "(Ljava/lang/String;)V"⟩
abbrev cJx00060_init_d00df : ByteArray := prog_19_method_3_code
def yJx00060_init_d00df : MethodName := ⟨RJx00060, "<init>", "(I)V"⟩
def RJx9f9b0 : String := "java/lang/CharSequence"
def TJx9f9b0 : u_T := fun k => match k with
  | _ => ("", "", "", false)
def tyJx9f9b0 : Nat → FieldType := fun k => match k with
  | _ => .int
abbrev wsJx9f9b00 : List Cond := u_ws RJx9f9b0 TJx9f9b0 0
theorem nmJx9f9b0 : ∀ a, a < 0 → ∀ b, b < 0 → a ≠ b → (TJx9f9b0 a).2.1 ≠ (TJx9f9b0 b).2.1 := by decide +kernel
theorem tyJx9f9b0_ok : ∀ k, k < 0 → parseFieldDescriptor (TJx9f9b0 k).2.2.1 = some (tyJx9f9b0 k) := by decide +kernel
def RJx8e188 : String := "java/lang/Cloneable"
def TJx8e188 : u_T := fun k => match k with
  | _ => ("", "", "", false)
def tyJx8e188 : Nat → FieldType := fun k => match k with
  | _ => .int
abbrev wsJx8e1880 : List Cond := u_ws RJx8e188 TJx8e188 0
theorem nmJx8e188 : ∀ a, a < 0 → ∀ b, b < 0 → a ≠ b → (TJx8e188 a).2.1 ≠ (TJx8e188 b).2.1 := by decide +kernel
theorem tyJx8e188_ok : ∀ k, k < 0 → parseFieldDescriptor (TJx8e188 k).2.2.1 = some (tyJx8e188 k) := by decide +kernel
def RJxb160c : String := "java/lang/Comparable"
def TJxb160c : u_T := fun k => match k with
  | _ => ("", "", "", false)
def tyJxb160c : Nat → FieldType := fun k => match k with
  | _ => .int
abbrev wsJxb160c0 : List Cond := u_ws RJxb160c TJxb160c 0
theorem nmJxb160c : ∀ a, a < 0 → ∀ b, b < 0 → a ≠ b → (TJxb160c a).2.1 ≠ (TJxb160c b).2.1 := by decide +kernel
theorem tyJxb160c_ok : ∀ k, k < 0 → parseFieldDescriptor (TJxb160c k).2.2.1 = some (tyJxb160c k) := by decide +kernel
def RJx29ce0 : String := "java/lang/Enum"
def TJx29ce0 : u_T := fun k => match k with
  | _ => ("", "", "", false)
def tyJx29ce0 : Nat → FieldType := fun k => match k with
  | _ => .int
abbrev wsJx29ce00 : List Cond := u_ws RJx29ce0 TJx29ce0 0
theorem nmJx29ce0 : ∀ a, a < 0 → ∀ b, b < 0 → a ≠ b → (TJx29ce0 a).2.1 ≠ (TJx29ce0 b).2.1 := by decide +kernel
theorem tyJx29ce0_ok : ∀ k, k < 0 → parseFieldDescriptor (TJx29ce0 k).2.2.1 = some (tyJx29ce0 k) := by decide +kernel
abbrev cJx29ce0_ordinal_8abf5 : ByteArray := prog_23_method_2_code
def yJx29ce0_ordinal_8abf5 : MethodName := ⟨RJx29ce0, "ordinal", "()I"⟩
def RJxf58ca : String := "java/lang/Float"
def TJxf58ca : u_T := fun k => match k with
  | _ => ("", "", "", false)
def tyJxf58ca : Nat → FieldType := fun k => match k with
  | _ => .int
abbrev wsJxf58ca0 : List Cond := u_ws RJxf58ca TJxf58ca 0
theorem nmJxf58ca : ∀ a, a < 0 → ∀ b, b < 0 → a ≠ b → (TJxf58ca a).2.1 ≠ (TJxf58ca b).2.1 := by decide +kernel
theorem tyJxf58ca_ok : ∀ k, k < 0 → parseFieldDescriptor (TJxf58ca k).2.2.1 = some (tyJxf58ca k) := by decide +kernel
abbrev cJxf58ca_isNaN_12338 : ByteArray := prog_25_method_6_code
def yJxf58ca_isNaN_12338 : MethodName := ⟨RJxf58ca, "isNaN", "(F)Z"⟩
abbrev cJxf58ca_floatToIntBits_5c35a : ByteArray := prog_25_method_24_code
def yJxf58ca_floatToIntBits_5c35a : MethodName := ⟨RJxf58ca, "floatToIntBits", "(F)I"⟩
def RJ6 : String := "java/lang/Integer"
def TJ6 : u_T := fun k => match k with
  | _ => ("", "", "", false)
def tyJ6 : Nat → FieldType := fun k => match k with
  | _ => .int
abbrev wsJ60 : List Cond := u_ws RJ6 TJ6 0
theorem nmJ6 : ∀ a, a < 0 → ∀ b, b < 0 → a ≠ b → (TJ6 a).2.1 ≠ (TJ6 b).2.1 := by decide +kernel
theorem tyJ6_ok : ∀ k, k < 0 → parseFieldDescriptor (TJ6 k).2.2.1 = some (tyJ6 k) := by decide +kernel
abbrev cJ6_getChars_ba4f3 : ByteArray := prog_29_method_12_code
def yJ6_getChars_ba4f3 : MethodName := ⟨RJ6, "getChars", "(II[B)I"⟩
abbrev cJ6_stringSize_0f7a4 : ByteArray := prog_29_method_13_code
def yJ6_stringSize_0f7a4 : MethodName := ⟨RJ6, "stringSize", "(I)I"⟩
abbrev cJ6_bitCount_0f7a4 : ByteArray := prog_29_method_49_code
def yJ6_bitCount_0f7a4 : MethodName := ⟨RJ6, "bitCount", "(I)I"⟩
def RJ9 : String := "java/lang/Math"
def TJ9 : u_T := fun k => match k with
  | _ => ("", "", "", false)
def tyJ9 : Nat → FieldType := fun k => match k with
  | _ => .int
abbrev wsJ90 : List Cond := u_ws RJ9 TJ9 0
theorem nmJ9 : ∀ a, a < 0 → ∀ b, b < 0 → a ≠ b → (TJ9 a).2.1 ≠ (TJ9 b).2.1 := by decide +kernel
theorem tyJ9_ok : ∀ k, k < 0 → parseFieldDescriptor (TJ9 k).2.2.1 = some (tyJ9 k) := by decide +kernel
abbrev cJ9_max_7cf53 : ByteArray := prog_30_method_65_code
def yJ9_max_7cf53 : MethodName := ⟨RJ9, "max", "(II)I"⟩
abbrev cJ9_min_7cf53 : ByteArray := prog_30_method_69_code
def yJ9_min_7cf53 : MethodName := ⟨RJ9, "min", "(II)I"⟩
def RJxd2413 : String := "java/lang/Number"
def TJxd2413 : u_T := fun k => match k with
  | _ => ("", "", "", false)
def tyJxd2413 : Nat → FieldType := fun k => match k with
  | _ => .int
abbrev wsJxd24130 : List Cond := u_ws RJxd2413 TJxd2413 0
theorem nmJxd2413 : ∀ a, a < 0 → ∀ b, b < 0 → a ≠ b → (TJxd2413 a).2.1 ≠ (TJxd2413 b).2.1 := by decide +kernel
theorem tyJxd2413_ok : ∀ k, k < 0 → parseFieldDescriptor (TJxd2413 k).2.2.1 = some (tyJxd2413 k) := by decide +kernel
def RJ0 : String := "java/lang/String"
def TJ0 : u_T := fun k => match k with
  | 0 => ("java/lang/String", "value", "[B", true)
  | 1 => ("java/lang/String", "coder", "B", true)
  | 2 => ("java/lang/String", "hash", "I", false)
  | _ => ("java/lang/String", "hashIsZero", "Z", false)
def tyJ0 : Nat → FieldType := fun k => match k with
  | 0 => .array .byte
  | 1 => .byte
  | 2 => .int
  | _ => .boolean
abbrev wsJ00 : List Cond := u_ws RJ0 TJ0 4
theorem nmJ0 : ∀ a, a < 4 → ∀ b, b < 4 → a ≠ b → (TJ0 a).2.1 ≠ (TJ0 b).2.1 := by decide +kernel
theorem tyJ0_ok : ∀ k, k < 4 → parseFieldDescriptor (TJ0 k).2.2.1 = some (tyJ0 k) := by decide +kernel
abbrev cJ0_init_81219 : ByteArray := prog_33_method_53_code
def yJ0_init_81219 : MethodName := ⟨RJ0, "<init>", "(Ljava/lang/StringBuilder;)V"⟩
abbrev cJ0_length_8abf5 : ByteArray := prog_33_method_54_code
def yJ0_length_8abf5 : MethodName := ⟨RJ0, "length", "()I"⟩
abbrev cJ0_charAt_5068e : ByteArray := prog_33_method_56_code
def yJ0_charAt_5068e : MethodName := ⟨RJ0, "charAt", "(I)C"⟩
abbrev cJ0_substring_37a41 : ByteArray := prog_33_method_92_code
def yJ0_substring_37a41 : MethodName := ⟨RJ0, "substring", "(II)Ljava/lang/String;"⟩
abbrev cJ0_getBytes_840e7 : ByteArray := prog_33_method_147_code
def yJ0_getBytes_840e7 : MethodName := ⟨RJ0, "getBytes", "([BIB)V"⟩
abbrev cJ0_init_db425 : ByteArray := prog_33_method_150_code
def yJ0_init_db425 : MethodName := ⟨RJ0, "<init>", "(Ljava/lang/AbstractStringBuilder;Ljava/lang/Void;)V"⟩
abbrev cJ0_init_031fb : ByteArray := prog_33_method_151_code
def yJ0_init_031fb : MethodName := ⟨RJ0, "<init>", "([BB)V"⟩
abbrev cJ0_coder_7d493 : ByteArray := prog_33_method_152_code
def yJ0_coder_7d493 : MethodName := ⟨RJ0, "coder", "()B"⟩
abbrev cJ0_isLatin1_aae02 : ByteArray := prog_33_method_154_code
def yJ0_isLatin1_aae02 : MethodName := ⟨RJ0, "isLatin1", "()Z"⟩
abbrev cJ0_checkIndex_df160 : ByteArray := prog_33_method_155_code
def yJ0_checkIndex_df160 : MethodName := ⟨RJ0, "checkIndex", "(II)V"⟩
abbrev cJ0_checkBoundsOffCount_cabcc : ByteArray := prog_33_method_157_code
def yJ0_checkBoundsOffCount_cabcc : MethodName := ⟨RJ0, "checkBoundsOffCount", "(III)I"⟩
abbrev cJ0_checkBoundsBeginEnd_23922 : ByteArray := prog_33_method_158_code
def yJ0_checkBoundsBeginEnd_23922 : MethodName := ⟨RJ0, "checkBoundsBeginEnd", "(III)V"⟩
def RJ4 : String := "java/lang/StringBuilder"
def TJ4 : u_T := fun k => match k with
  | 0 => ("java/lang/AbstractStringBuilder", "value", "[B", false)
  | 1 => ("java/lang/AbstractStringBuilder", "coder", "B", false)
  | 2 => ("java/lang/AbstractStringBuilder", "maybeLatin1", "Z", false)
  | _ => ("java/lang/AbstractStringBuilder", "count", "I", false)
def tyJ4 : Nat → FieldType := fun k => match k with
  | 0 => .array .byte
  | 1 => .byte
  | 2 => .boolean
  | _ => .int
abbrev wsJ40 : List Cond := u_ws RJ4 TJ4 4
theorem nmJ4 : ∀ a, a < 4 → ∀ b, b < 4 → a ≠ b → (TJ4 a).2.1 ≠ (TJ4 b).2.1 := by decide +kernel
theorem tyJ4_ok : ∀ k, k < 4 → parseFieldDescriptor (TJ4 k).2.2.1 = some (tyJ4 k) := by decide +kernel
abbrev cJ4_init_da8c8 : ByteArray := prog_34_method_1_code
def yJ4_init_da8c8 : MethodName := ⟨RJ4, "<init>", "()V"⟩
abbrev cJ4_append_15ec4 : ByteArray := prog_34_method_7_code
def yJ4_append_15ec4 : MethodName := ⟨RJ4, "append", "(Ljava/lang/String;)Ljava/lang/StringBuilder;"⟩
abbrev cJ4_append_cf468 : ByteArray := prog_34_method_14_code
def yJ4_append_cf468 : MethodName := ⟨RJ4, "append", "(C)Ljava/lang/StringBuilder;"⟩
abbrev cJ4_append_bf812 : ByteArray := prog_34_method_15_code
def yJ4_append_bf812 : MethodName := ⟨RJ4, "append", "(I)Ljava/lang/StringBuilder;"⟩
abbrev cJ4_toString_0e30d : ByteArray := prog_34_method_42_code
def yJ4_toString_0e30d : MethodName := ⟨RJ4, "toString", "()Ljava/lang/String;"⟩
abbrev cJ4_charAt_5068e : ByteArray := prog_34_method_88_code
def yJ4_charAt_5068e : MethodName := ⟨RJ4, "charAt", "(I)C"⟩
abbrev cJ4_setLength_d00df : ByteArray := prog_34_method_89_code
def yJ4_setLength_d00df : MethodName := ⟨RJ4, "setLength", "(I)V"⟩
abbrev cJ4_length_8abf5 : ByteArray := prog_34_method_93_code
def yJ4_length_8abf5 : MethodName := ⟨RJ4, "length", "()I"⟩
def RJx7c733 : String := "java/lang/StringIndexOutOfBoundsException"
def TJx7c733 : u_T := fun k => match k with
  | 0 => ("java/lang/Throwable", "backtrace", "Ljava/lang/Object;", false)
  | 1 => ("java/lang/Throwable", "detailMessage", "Ljava/lang/String;", false)
  | 2 => ("java/lang/Throwable", "cause", "Ljava/lang/Throwable;", false)
  | 3 => ("java/lang/Throwable", "stackTrace", "[Ljava/lang/StackTraceElement;", false)
  | 4 => ("java/lang/Throwable", "depth", "I", false)
  | _ => ("java/lang/Throwable", "suppressedExceptions", "Ljava/util/List;", false)
def tyJx7c733 : Nat → FieldType := fun k => match k with
  | 0 => .object "java/lang/Object"
  | 1 => .object "java/lang/String"
  | 2 => .object "java/lang/Throwable"
  | 3 => .array (.object "java/lang/StackTraceElement")
  | 4 => .int
  | _ => .object "java/util/List"
abbrev wsJx7c7330 : List Cond := u_ws RJx7c733 TJx7c733 6
theorem nmJx7c733 : ∀ a, a < 6 → ∀ b, b < 6 → a ≠ b → (TJx7c733 a).2.1 ≠ (TJx7c733 b).2.1 := by decide +kernel
theorem tyJx7c733_ok : ∀ k, k < 6 → parseFieldDescriptor (TJx7c733 k).2.2.1 = some (tyJx7c733 k) := by decide +kernel
abbrev cJx7c733_init_d00df : ByteArray := prog_35_method_3_code
def yJx7c733_init_d00df : MethodName := ⟨RJx7c733, "<init>", "(I)V"⟩
def RJ1 : String := "java/lang/StringLatin1"
def TJ1 : u_T := fun k => match k with
  | _ => ("", "", "", false)
def tyJ1 : Nat → FieldType := fun k => match k with
  | _ => .int
abbrev wsJ10 : List Cond := u_ws RJ1 TJ1 0
theorem nmJ1 : ∀ a, a < 0 → ∀ b, b < 0 → a ≠ b → (TJ1 a).2.1 ≠ (TJ1 b).2.1 := by decide +kernel
theorem tyJ1_ok : ∀ k, k < 0 → parseFieldDescriptor (TJ1 k).2.2.1 = some (tyJ1 k) := by decide +kernel
abbrev cJ1_charAt_3b067 : ByteArray := prog_36_method_2_code
def yJ1_charAt_3b067 : MethodName := ⟨RJ1, "charAt", "([BI)C"⟩
abbrev cJ1_canEncode_fc78d : ByteArray := prog_36_method_3_code
def yJ1_canEncode_fc78d : MethodName := ⟨RJ1, "canEncode", "(C)Z"⟩
abbrev cJ1_newString_b4f7a : ByteArray := prog_36_method_47_code
def yJ1_newString_b4f7a : MethodName := ⟨RJ1, "newString", "([BII)Ljava/lang/String;"⟩
abbrev cJ1_fillNull_b72d1 : ByteArray := prog_36_method_48_code
def yJ1_fillNull_b72d1 : MethodName := ⟨RJ1, "fillNull", "([BII)V"⟩
abbrev cJ1_inflate_0e8fd : ByteArray := prog_36_method_50_code
def yJ1_inflate_0e8fd : MethodName := ⟨RJ1, "inflate", "([BI[BII)V"⟩
def RJ2 : String := "java/lang/StringUTF16"
def TJ2 : u_T := fun k => match k with
  | _ => ("", "", "", false)
def tyJ2 : Nat → FieldType := fun k => match k with
  | _ => .int
abbrev wsJ20 : List Cond := u_ws RJ2 TJ2 0
theorem nmJ2 : ∀ a, a < 0 → ∀ b, b < 0 → a ≠ b → (TJ2 a).2.1 ≠ (TJ2 b).2.1 := by decide +kernel
theorem tyJ2_ok : ∀ k, k < 0 → parseFieldDescriptor (TJ2 k).2.2.1 = some (tyJ2 k) := by decide +kernel
abbrev cJ2_newBytesFor_77867 : ByteArray := prog_37_method_2_code
def yJ2_newBytesFor_77867 : MethodName := ⟨RJ2, "newBytesFor", "(I)[B"⟩
abbrev cJ2_newBytesLength_0f7a4 : ByteArray := prog_37_method_3_code
def yJ2_newBytesLength_0f7a4 : MethodName := ⟨RJ2, "newBytesLength", "(I)I"⟩
abbrev cJ2_putChar_b72d1 : ByteArray := prog_37_method_4_code
def yJ2_putChar_b72d1 : MethodName := ⟨RJ2, "putChar", "([BII)V"⟩
abbrev cJ2_getChar_3b067 : ByteArray := prog_37_method_5_code
def yJ2_getChar_3b067 : MethodName := ⟨RJ2, "getChar", "([BI)C"⟩
abbrev cJ2_length_9d52b : ByteArray := prog_37_method_6_code
def yJ2_length_9d52b : MethodName := ⟨RJ2, "length", "([B)I"⟩
abbrev cJ2_coderFromArrayLen_85cad : ByteArray := prog_37_method_15_code
def yJ2_coderFromArrayLen_85cad : MethodName := ⟨RJ2, "coderFromArrayLen", "([BI)B"⟩
abbrev cJ2_compress_39247 : ByteArray := prog_37_method_17_code
def yJ2_compress_39247 : MethodName := ⟨RJ2, "compress", "([BII)[B"⟩
abbrev cJ2_compress_5af95 : ByteArray := prog_37_method_22_code
def yJ2_compress_5af95 : MethodName := ⟨RJ2, "compress", "([BI[BII)I"⟩
abbrev cJ2_newString_b4f7a : ByteArray := prog_37_method_69_code
def yJ2_newString_b4f7a : MethodName := ⟨RJ2, "newString", "([BII)Ljava/lang/String;"⟩
abbrev cJ2_fillNull_b72d1 : ByteArray := prog_37_method_70_code
def yJ2_fillNull_b72d1 : MethodName := ⟨RJ2, "fillNull", "([BII)V"⟩
abbrev cJ2_putCharSB_b72d1 : ByteArray := prog_37_method_71_code
def yJ2_putCharSB_b72d1 : MethodName := ⟨RJ2, "putCharSB", "([BII)V"⟩
abbrev cJ2_getChars_46870 : ByteArray := prog_37_method_77_code
def yJ2_getChars_46870 : MethodName := ⟨RJ2, "getChars", "(III[B)I"⟩
abbrev cJ2_putCharsAt_cd4e5 : ByteArray := prog_37_method_81_code
def yJ2_putCharsAt_cd4e5 : MethodName := ⟨RJ2, "putCharsAt", "([BICCCC)I"⟩
abbrev cJ2_charAt_3b067 : ByteArray := prog_37_method_83_code
def yJ2_charAt_3b067 : MethodName := ⟨RJ2, "charAt", "([BI)C"⟩
abbrev cJ2_inflate_0e8fd : ByteArray := prog_37_method_86_code
def yJ2_inflate_0e8fd : MethodName := ⟨RJ2, "inflate", "([BI[BII)V"⟩
abbrev cJ2_getChars_ba4f3 : ByteArray := prog_37_method_89_code
def yJ2_getChars_ba4f3 : MethodName := ⟨RJ2, "getChars", "(II[B)I"⟩
abbrev cJ2_checkIndex_2214a : ByteArray := prog_37_method_91_code
def yJ2_checkIndex_2214a : MethodName := ⟨RJ2, "checkIndex", "(I[B)V"⟩
abbrev cJ2_checkBoundsBeginEnd_d044e : ByteArray := prog_37_method_93_code
def yJ2_checkBoundsBeginEnd_d044e : MethodName := ⟨RJ2, "checkBoundsBeginEnd", "(II[B)V"⟩
abbrev cJ2_checkBoundsOffCount_d044e : ByteArray := prog_37_method_94_code
def yJ2_checkBoundsOffCount_d044e : MethodName := ⟨RJ2, "checkBoundsOffCount", "(II[B)V"⟩
def RJ10 : String := "java/lang/System"
def TJ10 : u_T := fun k => match k with
  | _ => ("", "", "", false)
def tyJ10 : Nat → FieldType := fun k => match k with
  | _ => .int
abbrev wsJ100 : List Cond := u_ws RJ10 TJ10 0
theorem nmJ10 : ∀ a, a < 0 → ∀ b, b < 0 → a ≠ b → (TJ10 a).2.1 ≠ (TJ10 b).2.1 := by decide +kernel
theorem tyJ10_ok : ∀ k, k < 0 → parseFieldDescriptor (TJ10 k).2.2.1 = some (tyJ10 k) := by decide +kernel
def RJxfd54e : String := "java/lang/constant/Constable"
def TJxfd54e : u_T := fun k => match k with
  | _ => ("", "", "", false)
def tyJxfd54e : Nat → FieldType := fun k => match k with
  | _ => .int
abbrev wsJxfd54e0 : List Cond := u_ws RJxfd54e TJxfd54e 0
theorem nmJxfd54e : ∀ a, a < 0 → ∀ b, b < 0 → a ≠ b → (TJxfd54e a).2.1 ≠ (TJxfd54e b).2.1 := by decide +kernel
theorem tyJxfd54e_ok : ∀ k, k < 0 → parseFieldDescriptor (TJxfd54e k).2.2.1 = some (tyJxfd54e k) := by decide +kernel
def RJx3cf43 : String := "java/lang/constant/ConstantDesc"
def TJx3cf43 : u_T := fun k => match k with
  | _ => ("", "", "", false)
def tyJx3cf43 : Nat → FieldType := fun k => match k with
  | _ => .int
abbrev wsJx3cf430 : List Cond := u_ws RJx3cf43 TJx3cf43 0
theorem nmJx3cf43 : ∀ a, a < 0 → ∀ b, b < 0 → a ≠ b → (TJx3cf43 a).2.1 ≠ (TJx3cf43 b).2.1 := by decide +kernel
theorem tyJx3cf43_ok : ∀ k, k < 0 → parseFieldDescriptor (TJx3cf43 k).2.2.1 = some (tyJx3cf43 k) := by decide +kernel
def RJ7 : String := "java/util/Arrays"
def TJ7 : u_T := fun k => match k with
  | _ => ("", "", "", false)
def tyJ7 : Nat → FieldType := fun k => match k with
  | _ => .int
abbrev wsJ70 : List Cond := u_ws RJ7 TJ7 0
theorem nmJ7 : ∀ a, a < 0 → ∀ b, b < 0 → a ≠ b → (TJ7 a).2.1 ≠ (TJ7 b).2.1 := by decide +kernel
theorem tyJ7_ok : ∀ k, k < 0 → parseFieldDescriptor (TJ7 k).2.2.1 = some (tyJ7 k) := by decide +kernel
abbrev cJ7_rangeCheck_23922 : ByteArray := prog_43_method_30_code
def yJ7_rangeCheck_23922 : MethodName := ⟨RJ7, "rangeCheck", "(III)V"⟩
abbrev cJ7_fill_eb02e : ByteArray := prog_43_method_110_code
def yJ7_fill_eb02e : MethodName := ⟨RJ7, "fill", "([BIIB)V"⟩
abbrev cJ7_copyOf_9075b : ByteArray := prog_43_method_121_code
def yJ7_copyOf_9075b : MethodName := ⟨RJ7, "copyOf", "([BI)[B"⟩
abbrev cJ7_checkLength_df160 : ByteArray := prog_43_method_131_code
def yJ7_checkLength_df160 : MethodName := ⟨RJ7, "checkLength", "(II)V"⟩
abbrev cJ7_copyOfRange_39247 : ByteArray := prog_43_method_132_code
def yJ7_copyOfRange_39247 : MethodName := ⟨RJ7, "copyOfRange", "([BII)[B"⟩
abbrev cJ7_copyOfRangeByte_39247 : ByteArray := prog_43_method_133_code
def yJ7_copyOfRangeByte_39247 : MethodName := ⟨RJ7, "copyOfRangeByte", "([BII)[B"⟩
def RJ8 : String := "jdk/internal/util/ArraysSupport"
def TJ8 : u_T := fun k => match k with
  | _ => ("", "", "", false)
def tyJ8 : Nat → FieldType := fun k => match k with
  | _ => .int
abbrev wsJ80 : List Cond := u_ws RJ8 TJ8 0
theorem nmJ8 : ∀ a, a < 0 → ∀ b, b < 0 → a ≠ b → (TJ8 a).2.1 ≠ (TJ8 b).2.1 := by decide +kernel
theorem tyJ8_ok : ∀ k, k < 0 → parseFieldDescriptor (TJ8 k).2.2.1 = some (tyJ8 k) := by decide +kernel
abbrev cJ8_newLength_cabcc : ByteArray := prog_45_method_27_code
def yJ8_newLength_cabcc : MethodName := ⟨RJ8, "newLength", "(III)I"⟩
abbrev cJ8_hugeLength_7cf53 : ByteArray := prog_45_method_28_code
def yJ8_hugeLength_7cf53 : MethodName := ⟨RJ8, "hugeLength", "(II)I"⟩
def RJ3 : String := "jdk/internal/util/Preconditions"
def TJ3 : u_T := fun k => match k with
  | _ => ("", "", "", false)
def tyJ3 : Nat → FieldType := fun k => match k with
  | _ => .int
abbrev wsJ30 : List Cond := u_ws RJ3 TJ3 0
theorem nmJ3 : ∀ a, a < 0 → ∀ b, b < 0 → a ≠ b → (TJ3 a).2.1 ≠ (TJ3 b).2.1 := by decide +kernel
theorem tyJ3_ok : ∀ k, k < 0 → parseFieldDescriptor (TJ3 k).2.2.1 = some (tyJ3 k) := by decide +kernel
abbrev cJ3_checkIndex_8e157 : ByteArray := prog_46_method_11_code
def yJ3_checkIndex_8e157 : MethodName := ⟨RJ3, "checkIndex", "(IILjava/util/function/BiFunction;)I"⟩
abbrev cJ3_checkFromToIndex_8c36e : ByteArray := prog_46_method_12_code
def yJ3_checkFromToIndex_8c36e : MethodName := ⟨RJ3, "checkFromToIndex", "(IIILjava/util/function/BiFunction;)I"⟩
abbrev cJ3_checkFromIndexSize_8c36e : ByteArray := prog_46_method_13_code
def yJ3_checkFromIndexSize_8c36e : MethodName := ⟨RJ3, "checkFromIndexSize", "(IIILjava/util/function/BiFunction;)I"⟩
def RL : String := "DrumWarrenLaw"
abbrev cL_cell : ByteArray := method_2_code
def yL_cell : MethodName := ⟨RL, "cell", "([II)I"⟩
abbrev cL_addChamber : ByteArray := method_3_code
def yL_addChamber : MethodName := ⟨RL, "addChamber", "(LDrumWarren;)I"⟩
abbrev cL_addTunnel : ByteArray := method_4_code
def yL_addTunnel : MethodName := ⟨RL, "addTunnel", "(LDrumWarren;III)I"⟩
abbrev cL_removeTunnel : ByteArray := method_5_code
def yL_removeTunnel : MethodName := ⟨RL, "removeTunnel", "(LDrumWarren;II)I"⟩
abbrev cL_delayOf : ByteArray := method_6_code
def yL_delayOf : MethodName := ⟨RL, "delayOf", "(LDrumWarren;II)I"⟩
abbrev cL_shortest : ByteArray := method_7_code
def yL_shortest : MethodName := ⟨RL, "shortest", "(LDrumWarren;II)I"⟩
abbrev cL_bySearch : ByteArray := method_8_code
def yL_bySearch : MethodName := ⟨RL, "bySearch", "(LDrumWarren;II)I"⟩
abbrev cL_loudBits : ByteArray := method_9_code
def yL_loudBits : MethodName := ⟨RL, "loudBits", "(LDrumWarren;II)I"⟩
abbrev cL_addHare : ByteArray := method_10_code
def yL_addHare : MethodName := ⟨RL, "addHare", "(LDrumWarren;I)I"⟩
abbrev cL_move : ByteArray := method_11_code
def yL_move : MethodName := ⟨RL, "move", "(LDrumWarren;II)I"⟩
abbrev cL_listen : ByteArray := method_12_code
def yL_listen : MethodName := ⟨RL, "listen", "(LDrumWarren;IZ)I"⟩
abbrev cL_chamberOf : ByteArray := method_13_code
def yL_chamberOf : MethodName := ⟨RL, "chamberOf", "(LDrumWarren;I)I"⟩
abbrev cL_isListening : ByteArray := method_14_code
def yL_isListening : MethodName := ⟨RL, "isListening", "(LDrumWarren;I)I"⟩
abbrev cL_isDrumming : ByteArray := method_15_code
def yL_isDrumming : MethodName := ⟨RL, "isDrumming", "(LDrumWarren;I)I"⟩
abbrev cL_received : ByteArray := method_16_code
def yL_received : MethodName := ⟨RL, "received", "(LDrumWarren;I)I"⟩
abbrev cL_latest : ByteArray := method_17_code
def yL_latest : MethodName := ⟨RL, "latest", "(LDrumWarren;I)I"⟩
abbrev cL_byReceived : ByteArray := method_18_code
def yL_byReceived : MethodName := ⟨RL, "byReceived", "(LDrumWarren;I)I"⟩
abbrev cL_say : ByteArray := method_19_code
def yL_say : MethodName := ⟨RL, "say", "(LDrumWarren;III)I"⟩
abbrev cL_forget : ByteArray := method_20_code
def yL_forget : MethodName := ⟨RL, "forget", "(LDrumWarren;I)I"⟩
abbrev cL_messageAt : ByteArray := method_21_code
def yL_messageAt : MethodName := ⟨RL, "messageAt", "(LDrumWarren;I)I"⟩
abbrev cL_sender : ByteArray := method_22_code
def yL_sender : MethodName := ⟨RL, "sender", "(LDrumWarren;I)I"⟩
abbrev cL_receiver : ByteArray := method_23_code
def yL_receiver : MethodName := ⟨RL, "receiver", "(LDrumWarren;I)I"⟩
abbrev cL_state : ByteArray := method_24_code
def yL_state : MethodName := ⟨RL, "state", "(LDrumWarren;I)I"⟩
abbrev cL_timesLost : ByteArray := method_25_code
def yL_timesLost : MethodName := ⟨RL, "timesLost", "(LDrumWarren;I)I"⟩
abbrev cL_beats : ByteArray := method_26_code
def yL_beats : MethodName := ⟨RL, "beats", "(LDrumWarren;I)I"⟩
abbrev cL_isThump : ByteArray := method_27_code
def yL_isThump : MethodName := ⟨RL, "isThump", "(LDrumWarren;II)I"⟩
abbrev cL_decode : ByteArray := method_28_code
def yL_decode : MethodName := ⟨RL, "decode", "(LDrumWarren;I)I"⟩
abbrev cL_until : ByteArray := method_29_code
def yL_until : MethodName := ⟨RL, "until", "(LDrumWarren;I)I"⟩
abbrev cL_pass : ByteArray := method_30_code
def yL_pass : MethodName := ⟨RL, "pass", "(LDrumWarren;I)I"⟩
abbrev cL_writeMessage : ByteArray := method_32_code
def yL_writeMessage : MethodName := ⟨RL, "writeMessage", "(LDrumWarren;I)I"⟩
abbrev cL_writeCode : ByteArray := method_33_code
def yL_writeCode : MethodName := ⟨RL, "writeCode", "(LDrumWarren;I)I"⟩
abbrev cL_outputAt : ByteArray := method_34_code
def yL_outputAt : MethodName := ⟨RL, "outputAt", "(LDrumWarren;I)I"⟩
abbrev cL_feed : ByteArray := method_35_code
def yL_feed : MethodName := ⟨RL, "feed", "(LDrumWarren;C)I"⟩
abbrev cL_executes : ByteArray := method_36_code
def yL_executes : MethodName := ⟨RL, "executes", "(LDrumWarren;)I"⟩
abbrev cL_undo : ByteArray := method_39_code
def yL_undo : MethodName := ⟨RL, "undo", "(LDrumWarren;)I"⟩
abbrev cL_execute : ByteArray := method_40_code
def yL_execute : MethodName := ⟨RL, "execute", "(LDrumWarren;Ljava/lang/String;)I"⟩
abbrev cL_drawn : ByteArray := method_41_code
def yL_drawn : MethodName := ⟨RL, "drawn", "([I)LDrumWarren;"⟩
abbrev cL_law : ByteArray := code
def yL_law : MethodName := ⟨RL, "law", "([I)Z"⟩
abbrev cL_nearest : ByteArray := method_43_code
def yL_nearest : MethodName := ⟨RL, "nearest", "(LDrumWarren;III)I"⟩
abbrev cL_ways : ByteArray := method_44_code
def yL_ways : MethodName := ⟨RL, "ways", "(LDrumWarren;)Z"⟩
abbrev cL_hares : ByteArray := method_45_code
def yL_hares : MethodName := ⟨RL, "hares", "(LDrumWarren;)Z"⟩
abbrev cL_spells : ByteArray := method_46_code
def yL_spells : MethodName := ⟨RL, "spells", "(LDrumWarren;ILjava/lang/String;)Z"⟩
abbrev cL_numberOf : ByteArray := method_47_code
def yL_numberOf : MethodName := ⟨RL, "numberOf", "(LDrumWarren;I)I"⟩
abbrev cL_messages : ByteArray := method_48_code
def yL_messages : MethodName := ⟨RL, "messages", "(LDrumWarren;)Z"⟩
abbrev cL_codes : ByteArray := method_49_code
def yL_codes : MethodName := ⟨RL, "codes", "(LDrumWarren;)Z"⟩
abbrev cL_sum : ByteArray := method_50_code
def yL_sum : MethodName := ⟨RL, "sum", "(LDrumWarren;)J"⟩
abbrev cL_undone : ByteArray := method_51_code
def yL_undone : MethodName := ⟨RL, "undone", "([ILDrumWarren;)Z"⟩
abbrev vwCl : List vw_C := [(RJ0, TJ0, 4), (RJ4, TJ4, 4), (RJx00060, TJx00060, 6), (RJx7c733, TJx7c733, 6), (RX1, TX1, 1), (RX2, TX2, 5), (RX3, TX3, 3), (RX5, TX5, 6), (RX7, TX7, 4), (RX8, TX8, 3), (RX9, TX9, 8), (RX10, TX10, 11), (RX11, TX11, 9)]
