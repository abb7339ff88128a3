def RX0 : String := "StalemateDinner$Guest"
def TX0 : u_T := fun k => match k with
  | 0 => ("StalemateDinner$Guest", "kind", "I", false)
  | 1 => ("StalemateDinner$Guest", "more", "I", false)
  | 2 => ("StalemateDinner$Guest", "wrong", "I", false)
  | 3 => ("StalemateDinner$Guest", "shy", "I", false)
  | 4 => ("StalemateDinner$Guest", "bored", "I", false)
  | 5 => ("StalemateDinner$Guest", "ate", "I", false)
  | _ => ("StalemateDinner$Guest", "danger", "Z", false)
def tyX0 : Nat → FieldType := fun k => match k with
  | 0 => .int
  | 1 => .int
  | 2 => .int
  | 3 => .int
  | 4 => .int
  | 5 => .int
  | _ => .boolean
abbrev wsX00 : List Cond := u_ws RX0 TX0 7
theorem nmX0 : ∀ a, a < 7 → ∀ b, b < 7 → a ≠ b → (TX0 a).2.1 ≠ (TX0 b).2.1 := by decide +kernel
theorem tyX0_ok : ∀ k, k < 7 → parseFieldDescriptor (TX0 k).2.2.1 = some (tyX0 k) := by decide +kernel
abbrev cX0_init : ByteArray := prog_2_method_1_code
def yX0_init : MethodName := ⟨RX0, "<init>", "()V"⟩
abbrev cX0_come : ByteArray := prog_2_method_2_code
def yX0_come : MethodName := ⟨RX0, "come", "(III)V"⟩
abbrev cX0_become : ByteArray := prog_2_method_3_code
def yX0_become : MethodName := ⟨RX0, "become", "(LStalemateDinner$Guest;)V"⟩
abbrev cX0_stateOf : ByteArray := prog_2_method_4_code
def yX0_stateOf : MethodName := ⟨RX0, "stateOf", "(I)I"⟩
abbrev cX0_setState : ByteArray := prog_2_method_5_code
def yX0_setState : MethodName := ⟨RX0, "setState", "(II)V"⟩
def RX1 : String := "StalemateDinner$Pile"
def TX1 : u_T := fun k => match k with
  | 0 => ("StalemateDinner$Pile", "numbers", "[I", true)
  | _ => ("StalemateDinner$Pile", "height", "I", false)
def tyX1 : Nat → FieldType := fun k => match k with
  | 0 => .array .int
  | _ => .int
abbrev wsX10 : List Cond := u_ws RX1 TX1 2
theorem nmX1 : ∀ a, a < 2 → ∀ b, b < 2 → a ≠ b → (TX1 a).2.1 ≠ (TX1 b).2.1 := by decide +kernel
theorem tyX1_ok : ∀ k, k < 2 → parseFieldDescriptor (TX1 k).2.2.1 = some (tyX1 k) := by decide +kernel
abbrev cX1_init : ByteArray := prog_3_method_1_code
def yX1_init : MethodName := ⟨RX1, "<init>", "()V"⟩
abbrev cX1_lay : ByteArray := prog_3_method_2_code
def yX1_lay : MethodName := ⟨RX1, "lay", "(I)V"⟩
abbrev cX1_lift : ByteArray := prog_3_method_3_code
def yX1_lift : MethodName := ⟨RX1, "lift", "()I"⟩
def RX2 : String := "StalemateDinner$Reader"
def TX2 : u_T := fun k => match k with
  | 0 => ("StalemateDinner$Reader", "tape", "LStalemateDinner$Tape;", true)
  | 1 => ("StalemateDinner$Reader", "code", "[I", true)
  | 2 => ("StalemateDinner$Reader", "starts", "[I", true)
  | _ => ("StalemateDinner$Reader", "length", "I", false)
def tyX2 : Nat → FieldType := fun k => match k with
  | 0 => .object "StalemateDinner$Tape"
  | 1 => .array .int
  | 2 => .array .int
  | _ => .int
abbrev wsX20 : List Cond := u_ws RX2 TX2 4
theorem nmX2 : ∀ a, a < 4 → ∀ b, b < 4 → a ≠ b → (TX2 a).2.1 ≠ (TX2 b).2.1 := by decide +kernel
theorem tyX2_ok : ∀ k, k < 4 → parseFieldDescriptor (TX2 k).2.2.1 = some (tyX2 k) := by decide +kernel
abbrev cX2_init : ByteArray := prog_4_method_1_code
def yX2_init : MethodName := ⟨RX2, "<init>", "(LStalemateDinner$Tape;)V"⟩
abbrev cX2_faultPlace : ByteArray := prog_4_method_2_code
def yX2_faultPlace : MethodName := ⟨RX2, "faultPlace", "()I"⟩
abbrev cX2_readPart : ByteArray := prog_4_method_3_code
def yX2_readPart : MethodName := ⟨RX2, "readPart", "(II)Z"⟩
abbrev cX2_readToken : ByteArray := prog_4_method_4_code
def yX2_readToken : MethodName := ⟨RX2, "readToken", "(I)Z"⟩
abbrev cX2_readOr : ByteArray := prog_4_method_5_code
def yX2_readOr : MethodName := ⟨RX2, "readOr", "(I)Z"⟩
abbrev cX2_readAnd : ByteArray := prog_4_method_6_code
def yX2_readAnd : MethodName := ⟨RX2, "readAnd", "(I)Z"⟩
abbrev cX2_readNot : ByteArray := prog_4_method_7_code
def yX2_readNot : MethodName := ⟨RX2, "readNot", "(I)Z"⟩
abbrev cX2_readSum : ByteArray := prog_4_method_8_code
def yX2_readSum : MethodName := ⟨RX2, "readSum", "(I)Z"⟩
abbrev cX2_readTerm : ByteArray := prog_4_method_9_code
def yX2_readTerm : MethodName := ⟨RX2, "readTerm", "(I)Z"⟩
abbrev cX2_readOne : ByteArray := prog_4_method_10_code
def yX2_readOne : MethodName := ⟨RX2, "readOne", "(I)Z"⟩
abbrev cX2_write : ByteArray := prog_4_method_11_code
def yX2_write : MethodName := ⟨RX2, "write", "(I)V"⟩
def RX3 : String := "StalemateDinner$Sheet"
def TX3 : u_T := fun k => match k with
  | 0 => ("StalemateDinner$Sheet", "numbers", "[I", true)
  | 1 => ("StalemateDinner$Sheet", "sort", "I", false)
  | _ => ("StalemateDinner$Sheet", "size", "I", false)
def tyX3 : Nat → FieldType := fun k => match k with
  | 0 => .array .int
  | 1 => .int
  | _ => .int
abbrev wsX30 : List Cond := u_ws RX3 TX3 3
theorem nmX3 : ∀ a, a < 3 → ∀ b, b < 3 → a ≠ b → (TX3 a).2.1 ≠ (TX3 b).2.1 := by decide +kernel
theorem tyX3_ok : ∀ k, k < 3 → parseFieldDescriptor (TX3 k).2.2.1 = some (tyX3 k) := by decide +kernel
abbrev cX3_init : ByteArray := prog_5_method_1_code
def yX3_init : MethodName := ⟨RX3, "<init>", "()V"⟩
abbrev cX3_become : ByteArray := prog_5_method_2_code
def yX3_become : MethodName := ⟨RX3, "become", "(II)V"⟩
abbrev cX3_set : ByteArray := prog_5_method_3_code
def yX3_set : MethodName := ⟨RX3, "set", "(II)V"⟩
def RX4 : String := "StalemateDinner$Table"
def TX4 : u_T := fun k => match k with
  | 0 => ("StalemateDinner$Table", "guests", "[LStalemateDinner$Guest;", true)
  | 1 => ("StalemateDinner$Table", "seats", "I", false)
  | 2 => ("StalemateDinner$Table", "now", "I", false)
  | _ => ("StalemateDinner$Table", "law", "LStalemateDinner$Text;", false)
def tyX4 : Nat → FieldType := fun k => match k with
  | 0 => .array (.object "StalemateDinner$Guest")
  | 1 => .int
  | 2 => .int
  | _ => .object "StalemateDinner$Text"
abbrev wsX40 : List Cond := u_ws RX4 TX4 4
theorem nmX4 : ∀ a, a < 4 → ∀ b, b < 4 → a ≠ b → (TX4 a).2.1 ≠ (TX4 b).2.1 := by decide +kernel
theorem tyX4_ok : ∀ k, k < 4 → parseFieldDescriptor (TX4 k).2.2.1 = some (tyX4 k) := by decide +kernel
abbrev cX4_init : ByteArray := prog_6_method_1_code
def yX4_init : MethodName := ⟨RX4, "<init>", "(LStalemateDinner$Text;)V"⟩
abbrev cX4_become : ByteArray := prog_6_method_2_code
def yX4_become : MethodName := ⟨RX4, "become", "(LStalemateDinner$Table;)V"⟩
abbrev cX4_seatsOne : ByteArray := prog_6_method_3_code
def yX4_seatsOne : MethodName := ⟨RX4, "seatsOne", "(I)Z"⟩
abbrev cX4_minded : ByteArray := prog_6_method_4_code
def yX4_minded : MethodName := ⟨RX4, "minded", "(LStalemateDinner$Guest;)I"⟩
abbrev cX4_mindedByBred : ByteArray := prog_6_method_5_code
def yX4_mindedByBred : MethodName := ⟨RX4, "mindedByBred", "(LStalemateDinner$Guest;Z)I"⟩
abbrev cX4_mindedByHungry : ByteArray := prog_6_method_6_code
def yX4_mindedByHungry : MethodName := ⟨RX4, "mindedByHungry", "(LStalemateDinner$Guest;Z)I"⟩
abbrev cX4_eatenBy : ByteArray := prog_6_method_7_code
def yX4_eatenBy : MethodName := ⟨RX4, "eatenBy", "(LStalemateDinner$Guest;I)I"⟩
abbrev cX4_toldBy : ByteArray := prog_6_method_8_code
def yX4_toldBy : MethodName := ⟨RX4, "toldBy", "(I)I"⟩
abbrev cX4_actOf : ByteArray := prog_6_method_9_code
def yX4_actOf : MethodName := ⟨RX4, "actOf", "(LStalemateDinner$Guest;)I"⟩
abbrev cX4_isStuck : ByteArray := prog_6_method_10_code
def yX4_isStuck : MethodName := ⟨RX4, "isStuck", "(LStalemateDinner$Guest;)Z"⟩
abbrev cX4_perform : ByteArray := prog_6_method_11_code
def yX4_perform : MethodName := ⟨RX4, "perform", "(II)V"⟩
abbrev cX4_pass : ByteArray := prog_6_method_12_code
def yX4_pass : MethodName := ⟨RX4, "pass", "()I"⟩
abbrev cX4_stuckBehind : ByteArray := prog_6_method_13_code
def yX4_stuckBehind : MethodName := ⟨RX4, "stuckBehind", "(I)I"⟩
abbrev cX4_ateBehind : ByteArray := prog_6_method_14_code
def yX4_ateBehind : MethodName := ⟨RX4, "ateBehind", "(I)I"⟩
abbrev cX4_makeRight : ByteArray := prog_6_method_15_code
def yX4_makeRight : MethodName := ⟨RX4, "makeRight", "(I)V"⟩
abbrev cX4_exchange : ByteArray := prog_6_method_16_code
def yX4_exchange : MethodName := ⟨RX4, "exchange", "(II)V"⟩
abbrev cX4_stuckBits : ByteArray := prog_6_method_17_code
def yX4_stuckBits : MethodName := ⟨RX4, "stuckBits", "()I"⟩
abbrev cX4_dangerBits : ByteArray := prog_6_method_18_code
def yX4_dangerBits : MethodName := ⟨RX4, "dangerBits", "()I"⟩
abbrev cX4_rightForAnybody : ByteArray := prog_6_method_19_code
def yX4_rightForAnybody : MethodName := ⟨RX4, "rightForAnybody", "()I"⟩
abbrev cX4_rightForAll : ByteArray := prog_6_method_20_code
def yX4_rightForAll : MethodName := ⟨RX4, "rightForAll", "()I"⟩
abbrev cX4_ateTogether : ByteArray := prog_6_method_21_code
def yX4_ateTogether : MethodName := ⟨RX4, "ateTogether", "()I"⟩
abbrev cX4_boredTogether : ByteArray := prog_6_method_22_code
def yX4_boredTogether : MethodName := ⟨RX4, "boredTogether", "()I"⟩
def RX5 : String := "StalemateDinner$Tape"
def TX5 : u_T := fun k => match k with
  | 0 => ("StalemateDinner$Tape", "bytes", "[I", true)
  | 1 => ("StalemateDinner$Tape", "size", "I", false)
  | 2 => ("StalemateDinner$Tape", "at", "I", false)
  | 3 => ("StalemateDinner$Tape", "token", "I", false)
  | 4 => ("StalemateDinner$Tape", "tokenAt", "I", false)
  | _ => ("StalemateDinner$Tape", "number", "I", false)
def tyX5 : Nat → FieldType := fun k => match k with
  | 0 => .array .int
  | 1 => .int
  | 2 => .int
  | 3 => .int
  | 4 => .int
  | _ => .int
abbrev wsX50 : List Cond := u_ws RX5 TX5 6
theorem nmX5 : ∀ a, a < 6 → ∀ b, b < 6 → a ≠ b → (TX5 a).2.1 ≠ (TX5 b).2.1 := by decide +kernel
theorem tyX5_ok : ∀ k, k < 6 → parseFieldDescriptor (TX5 k).2.2.1 = some (tyX5 k) := by decide +kernel
abbrev cX5_init : ByteArray := prog_7_method_1_code
def yX5_init : MethodName := ⟨RX5, "<init>", "()V"⟩
abbrev cX5_add : ByteArray := prog_7_method_2_code
def yX5_add : MethodName := ⟨RX5, "add", "(I)V"⟩
abbrev cX5_start : ByteArray := prog_7_method_3_code
def yX5_start : MethodName := ⟨RX5, "start", "()V"⟩
abbrev cX5_next : ByteArray := prog_7_method_4_code
def yX5_next : MethodName := ⟨RX5, "next", "()V"⟩
abbrev cX5_wordToken : ByteArray := prog_7_method_5_code
def yX5_wordToken : MethodName := ⟨RX5, "wordToken", "()I"⟩
abbrev cX5_spells : ByteArray := prog_7_method_6_code
def yX5_spells : MethodName := ⟨RX5, "spells", "(Ljava/lang/String;)Z"⟩
abbrev cX5_numberToken : ByteArray := prog_7_method_7_code
def yX5_numberToken : MethodName := ⟨RX5, "numberToken", "()I"⟩
abbrev cX5_signToken : ByteArray := prog_7_method_8_code
def yX5_signToken : MethodName := ⟨RX5, "signToken", "(I)I"⟩
abbrev cX5_isLetter : ByteArray := prog_7_method_9_code
def yX5_isLetter : MethodName := ⟨RX5, "isLetter", "(I)Z"⟩
abbrev cX5_isDigit : ByteArray := prog_7_method_10_code
def yX5_isDigit : MethodName := ⟨RX5, "isDigit", "(I)Z"⟩
def RX6 : String := "StalemateDinner$Text"
def TX6 : u_T := fun k => match k with
  | 0 => ("StalemateDinner$Text", "number", "I", true)
  | 1 => ("StalemateDinner$Text", "code", "[I", true)
  | 2 => ("StalemateDinner$Text", "starts", "[I", true)
  | _ => ("StalemateDinner$Text", "pile", "LStalemateDinner$Pile;", true)
def tyX6 : Nat → FieldType := fun k => match k with
  | 0 => .int
  | 1 => .array .int
  | 2 => .array .int
  | _ => .object "StalemateDinner$Pile"
abbrev wsX60 : List Cond := u_ws RX6 TX6 4
theorem nmX6 : ∀ a, a < 4 → ∀ b, b < 4 → a ≠ b → (TX6 a).2.1 ≠ (TX6 b).2.1 := by decide +kernel
theorem tyX6_ok : ∀ k, k < 4 → parseFieldDescriptor (TX6 k).2.2.1 = some (tyX6 k) := by decide +kernel
abbrev cX6_init : ByteArray := prog_8_method_1_code
def yX6_init : MethodName := ⟨RX6, "<init>", "(I[I[ILStalemateDinner$Pile;)V"⟩
abbrev cX6_says : ByteArray := prog_8_method_2_code
def yX6_says : MethodName := ⟨RX6, "says", "(ILStalemateDinner$Guest;I)I"⟩
abbrev cX6_named : ByteArray := prog_8_method_3_code
def yX6_named : MethodName := ⟨RX6, "named", "(ILStalemateDinner$Guest;I)I"⟩
abbrev cX6_joined : ByteArray := prog_8_method_4_code
def yX6_joined : MethodName := ⟨RX6, "joined", "(III)I"⟩
def RX7 : String := "StalemateDinner"
def TX7 : u_T := fun k => match k with
  | 0 => ("StalemateDinner", "tape", "LStalemateDinner$Tape;", true)
  | 1 => ("StalemateDinner", "reader", "LStalemateDinner$Reader;", true)
  | 2 => ("StalemateDinner", "pile", "LStalemateDinner$Pile;", true)
  | 3 => ("StalemateDinner", "texts", "[LStalemateDinner$Text;", true)
  | 4 => ("StalemateDinner", "textCount", "I", false)
  | 5 => ("StalemateDinner", "table", "LStalemateDinner$Table;", true)
  | 6 => ("StalemateDinner", "thought", "LStalemateDinner$Table;", true)
  | 7 => ("StalemateDinner", "kept", "LStalemateDinner$Table;", true)
  | 8 => ("StalemateDinner", "isKept", "Z", false)
  | _ => ("StalemateDinner", "sheets", "[LStalemateDinner$Sheet;", true)
def tyX7 : Nat → FieldType := fun k => match k with
  | 0 => .object "StalemateDinner$Tape"
  | 1 => .object "StalemateDinner$Reader"
  | 2 => .object "StalemateDinner$Pile"
  | 3 => .array (.object "StalemateDinner$Text")
  | 4 => .int
  | 5 => .object "StalemateDinner$Table"
  | 6 => .object "StalemateDinner$Table"
  | 7 => .object "StalemateDinner$Table"
  | 8 => .boolean
  | _ => .array (.object "StalemateDinner$Sheet")
abbrev wsX70 : List Cond := u_ws RX7 TX7 10
theorem nmX7 : ∀ a, a < 10 → ∀ b, b < 10 → a ≠ b → (TX7 a).2.1 ≠ (TX7 b).2.1 := by decide +kernel
theorem tyX7_ok : ∀ k, k < 10 → parseFieldDescriptor (TX7 k).2.2.1 = some (tyX7 k) := by decide +kernel
abbrev cX7_init : ByteArray := prog_1_method_1_code
def yX7_init : MethodName := ⟨RX7, "<init>", "()V"⟩
abbrev cX7_count : ByteArray := prog_1_method_2_code
def yX7_count : MethodName := ⟨RX7, "count", "(I)I"⟩
abbrev cX7_clock : ByteArray := prog_1_method_3_code
def yX7_clock : MethodName := ⟨RX7, "clock", "(I)I"⟩
abbrev cX7_feed : ByteArray := prog_1_method_4_code
def yX7_feed : MethodName := ⟨RX7, "feed", "(IIIIII)I"⟩
abbrev cX7_text : ByteArray := prog_1_method_5_code
def yX7_text : MethodName := ⟨RX7, "text", "()I"⟩
abbrev cX7_force : ByteArray := prog_1_method_6_code
def yX7_force : MethodName := ⟨RX7, "force", "(I)I"⟩
abbrev cX7_asks : ByteArray := prog_1_method_7_code
def yX7_asks : MethodName := ⟨RX7, "asks", "(II)I"⟩
abbrev cX7_guest : ByteArray := prog_1_method_8_code
def yX7_guest : MethodName := ⟨RX7, "guest", "(III)I"⟩
abbrev cX7_put : ByteArray := prog_1_method_9_code
def yX7_put : MethodName := ⟨RX7, "put", "(III)I"⟩
abbrev cX7_told : ByteArray := prog_1_method_10_code
def yX7_told : MethodName := ⟨RX7, "told", "(II)I"⟩
abbrev cX7_manners : ByteArray := prog_1_method_11_code
def yX7_manners : MethodName := ⟨RX7, "manners", "(III)I"⟩
abbrev cX7_dinner : ByteArray := prog_1_method_12_code
def yX7_dinner : MethodName := ⟨RX7, "dinner", "(I)I"⟩
abbrev cX7_minute : ByteArray := prog_1_method_13_code
def yX7_minute : MethodName := ⟨RX7, "minute", "()I"⟩
abbrev cX7_act : ByteArray := prog_1_method_14_code
def yX7_act : MethodName := ⟨RX7, "act", "(I)I"⟩
abbrev cX7_swap : ByteArray := prog_1_method_15_code
def yX7_swap : MethodName := ⟨RX7, "swap", "(II)I"⟩
abbrev cX7_run : ByteArray := prog_1_method_16_code
def yX7_run : MethodName := ⟨RX7, "run", "(II)I"⟩
abbrev cX7_when : ByteArray := prog_1_method_17_code
def yX7_when : MethodName := ⟨RX7, "when", "(I)I"⟩
abbrev cX7_poker : ByteArray := prog_1_method_18_code
def yX7_poker : MethodName := ⟨RX7, "poker", "(II)I"⟩
abbrev cX7_forgive : ByteArray := prog_1_method_19_code
def yX7_forgive : MethodName := ⟨RX7, "forgive", "(II)I"⟩
abbrev cX7_alarm : ByteArray := prog_1_method_20_code
def yX7_alarm : MethodName := ⟨RX7, "alarm", "(II)I"⟩
abbrev cX7_change : ByteArray := prog_1_method_21_code
def yX7_change : MethodName := ⟨RX7, "change", "(II)I"⟩
abbrev cX7_bold : ByteArray := prog_1_method_22_code
def yX7_bold : MethodName := ⟨RX7, "bold", "(I)I"⟩
abbrev cX7_mean : ByteArray := prog_1_method_23_code
def yX7_mean : MethodName := ⟨RX7, "mean", "(I)J"⟩
abbrev cX7_judge : ByteArray := prog_1_method_24_code
def yX7_judge : MethodName := ⟨RX7, "judge", "(I)I"⟩
abbrev cX7_kinds : ByteArray := prog_1_method_25_code
def yX7_kinds : MethodName := ⟨RX7, "kinds", "(III)I"⟩
abbrev cX7_turned : ByteArray := prog_1_method_26_code
def yX7_turned : MethodName := ⟨RX7, "turned", "(II)I"⟩
abbrev cX7_states : ByteArray := prog_1_method_27_code
def yX7_states : MethodName := ⟨RX7, "states", "(IIII)I"⟩
abbrev cX7_feared : ByteArray := prog_1_method_28_code
def yX7_feared : MethodName := ⟨RX7, "feared", "(I)I"⟩
abbrev cX7_laws : ByteArray := prog_1_method_29_code
def yX7_laws : MethodName := ⟨RX7, "laws", "(I)I"⟩
abbrev cX7_film : ByteArray := prog_1_method_30_code
def yX7_film : MethodName := ⟨RX7, "film", "(II)I"⟩
abbrev cX7_drawn : ByteArray := prog_1_method_31_code
def yX7_drawn : MethodName := ⟨RX7, "drawn", "(II)I"⟩
abbrev cX7_odds : ByteArray := prog_1_method_32_code
def yX7_odds : MethodName := ⟨RX7, "odds", "(IIII)J"⟩
abbrev cX7_image : ByteArray := prog_1_method_33_code
def yX7_image : MethodName := ⟨RX7, "image", "()I"⟩
abbrev cX7_back : ByteArray := prog_1_method_34_code
def yX7_back : MethodName := ⟨RX7, "back", "()I"⟩
abbrev cX7_sheet : ByteArray := prog_1_method_35_code
def yX7_sheet : MethodName := ⟨RX7, "sheet", "(III)I"⟩
abbrev cX7_cell : ByteArray := prog_1_method_36_code
def yX7_cell : MethodName := ⟨RX7, "cell", "(III)I"⟩
abbrev cX7_copy : ByteArray := prog_1_method_37_code
def yX7_copy : MethodName := ⟨RX7, "copy", "(IIIII)I"⟩
abbrev cX7_guestsBy : ByteArray := prog_1_method_38_code
def yX7_guestsBy : MethodName := ⟨RX7, "guestsBy", "(IIII)I"⟩
abbrev cX7_taken : ByteArray := prog_1_method_39_code
def yX7_taken : MethodName := ⟨RX7, "taken", "(II)I"⟩
abbrev cX7_think : ByteArray := prog_1_method_40_code
def yX7_think : MethodName := ⟨RX7, "think", "()V"⟩
abbrev cX7_firstOther : ByteArray := prog_1_method_41_code
def yX7_firstOther : MethodName := ⟨RX7, "firstOther", "(LStalemateDinner$Sheet;)I"⟩
abbrev cX7_refusalOfTale : ByteArray := prog_1_method_42_code
def yX7_refusalOfTale : MethodName := ⟨RX7, "refusalOfTale", "(I)I"⟩
abbrev cX7_actsByLots : ByteArray := prog_1_method_43_code
def yX7_actsByLots : MethodName := ⟨RX7, "actsByLots", "(I)I"⟩
abbrev cX7_partOfFraction : ByteArray := prog_1_method_44_code
def yX7_partOfFraction : MethodName := ⟨RX7, "partOfFraction", "(III)J"⟩
abbrev cX7_isOfKind : ByteArray := prog_1_method_45_code
def yX7_isOfKind : MethodName := ⟨RX7, "isOfKind", "(II)Z"⟩
abbrev cX7_mostOf : ByteArray := prog_1_method_46_code
def yX7_mostOf : MethodName := ⟨RX7, "mostOf", "(I)I"⟩
abbrev cX7_holds : ByteArray := prog_1_method_47_code
def yX7_holds : MethodName := ⟨RX7, "holds", "(II)Z"⟩
abbrev cX7_isByte : ByteArray := prog_1_method_48_code
def yX7_isByte : MethodName := ⟨RX7, "isByte", "(I)Z"⟩
abbrev cX7_isChoice : ByteArray := prog_1_method_49_code
def yX7_isChoice : MethodName := ⟨RX7, "isChoice", "(I)Z"⟩
abbrev cX7_isRun : ByteArray := prog_1_method_50_code
def yX7_isRun : MethodName := ⟨RX7, "isRun", "(I)Z"⟩
abbrev cX7_isSeed : ByteArray := prog_1_method_51_code
def yX7_isSeed : MethodName := ⟨RX7, "isSeed", "(I)Z"⟩
abbrev cX7_isSheet : ByteArray := prog_1_method_52_code
def yX7_isSheet : MethodName := ⟨RX7, "isSheet", "(I)Z"⟩
def RX8 : String := "StalemateDinnerModel"
def TX8 : u_T := fun k => match k with
  | 0 => ("StalemateDinnerModel", "guests", "I", false)
  | 1 => ("StalemateDinnerModel", "kind", "[I", true)
  | 2 => ("StalemateDinnerModel", "moreOf", "[I", true)
  | 3 => ("StalemateDinnerModel", "rows", "[I", true)
  | 4 => ("StalemateDinnerModel", "minutes", "I", false)
  | 5 => ("StalemateDinnerModel", "tape", "[I", true)
  | 6 => ("StalemateDinnerModel", "taped", "I", false)
  | 7 => ("StalemateDinnerModel", "codes", "[I", true)
  | 8 => ("StalemateDinnerModel", "starts", "[I", true)
  | 9 => ("StalemateDinnerModel", "texts", "I", false)
  | 10 => ("StalemateDinnerModel", "rule", "I", false)
  | 11 => ("StalemateDinnerModel", "hasImage", "Z", false)
  | 12 => ("StalemateDinnerModel", "imageRows", "[I", true)
  | 13 => ("StalemateDinnerModel", "imageHeld", "[I", true)
  | 14 => ("StalemateDinnerModel", "sheetSort", "[I", true)
  | 15 => ("StalemateDinnerModel", "sheetSize", "[I", true)
  | 16 => ("StalemateDinnerModel", "cells", "[I", true)
  | 17 => ("StalemateDinnerModel", "law", "[I", true)
  | 18 => ("StalemateDinnerModel", "at", "I", false)
  | 19 => ("StalemateDinnerModel", "begun", "I", false)
  | 20 => ("StalemateDinnerModel", "token", "I", false)
  | 21 => ("StalemateDinnerModel", "value", "I", false)
  | 22 => ("StalemateDinnerModel", "words", "[I", true)
  | 23 => ("StalemateDinnerModel", "held", "[I", true)
  | 24 => ("StalemateDinnerModel", "heldMany", "I", false)
  | 25 => ("StalemateDinnerModel", "opens", "I", false)
  | 26 => ("StalemateDinnerModel", "out", "I", false)
  | 27 => ("StalemateDinnerModel", "stack", "[I", true)
  | 28 => ("StalemateDinnerModel", "named", "[I", true)
  | 29 => ("StalemateDinnerModel", "kept", "[I", true)
  | _ => ("StalemateDinnerModel", "stuckThen", "I", false)
def tyX8 : Nat → FieldType := fun k => match k with
  | 0 => .int
  | 1 => .array .int
  | 2 => .array .int
  | 3 => .array .int
  | 4 => .int
  | 5 => .array .int
  | 6 => .int
  | 7 => .array .int
  | 8 => .array .int
  | 9 => .int
  | 10 => .int
  | 11 => .boolean
  | 12 => .array .int
  | 13 => .array .int
  | 14 => .array .int
  | 15 => .array .int
  | 16 => .array .int
  | 17 => .array .int
  | 18 => .int
  | 19 => .int
  | 20 => .int
  | 21 => .int
  | 22 => .array .int
  | 23 => .array .int
  | 24 => .int
  | 25 => .int
  | 26 => .int
  | 27 => .array .int
  | 28 => .array .int
  | 29 => .array .int
  | _ => .int
abbrev wsX80 : List Cond := u_ws RX8 TX8 31
theorem nmX8 : ∀ a, a < 31 → ∀ b, b < 31 → a ≠ b → (TX8 a).2.1 ≠ (TX8 b).2.1 := by decide +kernel
theorem tyX8_ok : ∀ k, k < 31 → parseFieldDescriptor (TX8 k).2.2.1 = some (tyX8 k) := by decide +kernel
abbrev cX8_init : ByteArray := prog_10_method_1_code
def yX8_init : MethodName := ⟨RX8, "<init>", "()V"⟩
abbrev cX8_in : ByteArray := prog_10_method_3_code
def yX8_in : MethodName := ⟨RX8, "in", "(III)Z"⟩
abbrev cX8_within : ByteArray := prog_10_method_4_code
def yX8_within : MethodName := ⟨RX8, "within", "(III)I"⟩
abbrev cX8_onesOf : ByteArray := prog_10_method_5_code
def yX8_onesOf : MethodName := ⟨RX8, "onesOf", "(I)I"⟩
abbrev cX8_isOne : ByteArray := prog_10_method_6_code
def yX8_isOne : MethodName := ⟨RX8, "isOne", "(I)Z"⟩
abbrev cX8_count : ByteArray := prog_10_method_7_code
def yX8_count : MethodName := ⟨RX8, "count", "(I)I"⟩
abbrev cX8_clock : ByteArray := prog_10_method_8_code
def yX8_clock : MethodName := ⟨RX8, "clock", "(I)I"⟩
abbrev cX8_isByte : ByteArray := prog_10_method_9_code
def yX8_isByte : MethodName := ⟨RX8, "isByte", "(I)Z"⟩
abbrev cX8_feed : ByteArray := prog_10_method_10_code
def yX8_feed : MethodName := ⟨RX8, "feed", "(IIIIII)I"⟩
abbrev cX8_wordFrom : ByteArray := prog_10_method_11_code
def yX8_wordFrom : MethodName := ⟨RX8, "wordFrom", "(II)I"⟩
abbrev cX8_next : ByteArray := prog_10_method_12_code
def yX8_next : MethodName := ⟨RX8, "next", "()V"⟩
abbrev cX8_rank : ByteArray := prog_10_method_13_code
def yX8_rank : MethodName := ⟨RX8, "rank", "(I)I"⟩
abbrev cX8_puts : ByteArray := prog_10_method_14_code
def yX8_puts : MethodName := ⟨RX8, "puts", "(I)V"⟩
abbrev cX8_unwinds : ByteArray := prog_10_method_15_code
def yX8_unwinds : MethodName := ⟨RX8, "unwinds", "(I)V"⟩
abbrev cX8_holds : ByteArray := prog_10_method_16_code
def yX8_holds : MethodName := ⟨RX8, "holds", "(I)V"⟩
abbrev cX8_opensOne : ByteArray := prog_10_method_17_code
def yX8_opensOne : MethodName := ⟨RX8, "opensOne", "(I)Z"⟩
abbrev cX8_between : ByteArray := prog_10_method_18_code
def yX8_between : MethodName := ⟨RX8, "between", "(I)Z"⟩
abbrev cX8_signOf : ByteArray := prog_10_method_19_code
def yX8_signOf : MethodName := ⟨RX8, "signOf", "()I"⟩
abbrev cX8_eRead : ByteArray := prog_10_method_20_code
def yX8_eRead : MethodName := ⟨RX8, "eRead", "()Z"⟩
abbrev cX8_text : ByteArray := prog_10_method_21_code
def yX8_text : MethodName := ⟨RX8, "text", "()I"⟩
abbrev cX8_two : ByteArray := prog_10_method_22_code
def yX8_two : MethodName := ⟨RX8, "two", "(III)I"⟩
abbrev cX8_says : ByteArray := prog_10_method_23_code
def yX8_says : MethodName := ⟨RX8, "says", "(I)I"⟩
abbrev cX8_force : ByteArray := prog_10_method_24_code
def yX8_force : MethodName := ⟨RX8, "force", "(I)I"⟩
abbrev cX8_asksOf : ByteArray := prog_10_method_25_code
def yX8_asksOf : MethodName := ⟨RX8, "asksOf", "(II)I"⟩
abbrev cX8_asks : ByteArray := prog_10_method_26_code
def yX8_asks : MethodName := ⟨RX8, "asks", "(II)I"⟩
abbrev cX8_guest : ByteArray := prog_10_method_27_code
def yX8_guest : MethodName := ⟨RX8, "guest", "(III)I"⟩
abbrev cX8_put : ByteArray := prog_10_method_28_code
def yX8_put : MethodName := ⟨RX8, "put", "(III)I"⟩
abbrev cX8_mindSet : ByteArray := prog_10_method_29_code
def yX8_mindSet : MethodName := ⟨RX8, "mindSet", "(I)I"⟩
abbrev cX8_eatsOf : ByteArray := prog_10_method_30_code
def yX8_eatsOf : MethodName := ⟨RX8, "eatsOf", "(II)I"⟩
abbrev cX8_tellsOf : ByteArray := prog_10_method_31_code
def yX8_tellsOf : MethodName := ⟨RX8, "tellsOf", "(I)I"⟩
abbrev cX8_actOf : ByteArray := prog_10_method_32_code
def yX8_actOf : MethodName := ⟨RX8, "actOf", "(I)I"⟩
abbrev cX8_isStuck : ByteArray := prog_10_method_33_code
def yX8_isStuck : MethodName := ⟨RX8, "isStuck", "(I)Z"⟩
abbrev cX8_stuckSet : ByteArray := prog_10_method_34_code
def yX8_stuckSet : MethodName := ⟨RX8, "stuckSet", "()I"⟩
abbrev cX8_told : ByteArray := prog_10_method_35_code
def yX8_told : MethodName := ⟨RX8, "told", "(II)I"⟩
abbrev cX8_manners : ByteArray := prog_10_method_36_code
def yX8_manners : MethodName := ⟨RX8, "manners", "(III)I"⟩
abbrev cX8_ateAll : ByteArray := prog_10_method_37_code
def yX8_ateAll : MethodName := ⟨RX8, "ateAll", "()I"⟩
abbrev cX8_dinner : ByteArray := prog_10_method_38_code
def yX8_dinner : MethodName := ⟨RX8, "dinner", "(I)I"⟩
abbrev cX8_doesAct : ByteArray := prog_10_method_39_code
def yX8_doesAct : MethodName := ⟨RX8, "doesAct", "(I)I"⟩
abbrev cX8_minuteOf : ByteArray := prog_10_method_40_code
def yX8_minuteOf : MethodName := ⟨RX8, "minuteOf", "()I"⟩
abbrev cX8_minute : ByteArray := prog_10_method_41_code
def yX8_minute : MethodName := ⟨RX8, "minute", "()I"⟩
abbrev cX8_act : ByteArray := prog_10_method_42_code
def yX8_act : MethodName := ⟨RX8, "act", "(I)I"⟩
abbrev cX8_changes : ByteArray := prog_10_method_43_code
def yX8_changes : MethodName := ⟨RX8, "changes", "(II)V"⟩
abbrev cX8_swap : ByteArray := prog_10_method_44_code
def yX8_swap : MethodName := ⟨RX8, "swap", "(II)I"⟩
abbrev cX8_keeps : ByteArray := prog_10_method_45_code
def yX8_keeps : MethodName := ⟨RX8, "keeps", "()V"⟩
abbrev cX8_lays : ByteArray := prog_10_method_46_code
def yX8_lays : MethodName := ⟨RX8, "lays", "()V"⟩
abbrev cX8_passes : ByteArray := prog_10_method_47_code
def yX8_passes : MethodName := ⟨RX8, "passes", "(I)I"⟩
abbrev cX8_run : ByteArray := prog_10_method_48_code
def yX8_run : MethodName := ⟨RX8, "run", "(II)I"⟩
abbrev cX8_when : ByteArray := prog_10_method_49_code
def yX8_when : MethodName := ⟨RX8, "when", "(I)I"⟩
abbrev cX8_stuckBehind : ByteArray := prog_10_method_50_code
def yX8_stuckBehind : MethodName := ⟨RX8, "stuckBehind", "(I)I"⟩
abbrev cX8_poker : ByteArray := prog_10_method_51_code
def yX8_poker : MethodName := ⟨RX8, "poker", "(II)I"⟩
abbrev cX8_forgive : ByteArray := prog_10_method_52_code
def yX8_forgive : MethodName := ⟨RX8, "forgive", "(II)I"⟩
abbrev cX8_ateBehind : ByteArray := prog_10_method_53_code
def yX8_ateBehind : MethodName := ⟨RX8, "ateBehind", "(I)I"⟩
abbrev cX8_alarm : ByteArray := prog_10_method_54_code
def yX8_alarm : MethodName := ⟨RX8, "alarm", "(II)I"⟩
abbrev cX8_change : ByteArray := prog_10_method_55_code
def yX8_change : MethodName := ⟨RX8, "change", "(II)I"⟩
abbrev cX8_bold : ByteArray := prog_10_method_56_code
def yX8_bold : MethodName := ⟨RX8, "bold", "(I)I"⟩
abbrev cX8_lowest : ByteArray := prog_10_method_57_code
def yX8_lowest : MethodName := ⟨RX8, "lowest", "(JJI)J"⟩
abbrev cX8_mean : ByteArray := prog_10_method_58_code
def yX8_mean : MethodName := ⟨RX8, "mean", "(I)J"⟩
abbrev cX8_sheetWrong : ByteArray := prog_10_method_59_code
def yX8_sheetWrong : MethodName := ⟨RX8, "sheetWrong", "(I)I"⟩
abbrev cX8_unlike : ByteArray := prog_10_method_60_code
def yX8_unlike : MethodName := ⟨RX8, "unlike", "(I)I"⟩
abbrev cX8_judge : ByteArray := prog_10_method_61_code
def yX8_judge : MethodName := ⟨RX8, "judge", "(I)I"⟩
abbrev cX8_kinds : ByteArray := prog_10_method_62_code
def yX8_kinds : MethodName := ⟨RX8, "kinds", "(III)I"⟩
abbrev cX8_turned : ByteArray := prog_10_method_63_code
def yX8_turned : MethodName := ⟨RX8, "turned", "(II)I"⟩
abbrev cX8_states : ByteArray := prog_10_method_64_code
def yX8_states : MethodName := ⟨RX8, "states", "(IIII)I"⟩
abbrev cX8_feared : ByteArray := prog_10_method_65_code
def yX8_feared : MethodName := ⟨RX8, "feared", "(I)I"⟩
abbrev cX8_laws : ByteArray := prog_10_method_66_code
def yX8_laws : MethodName := ⟨RX8, "laws", "(I)I"⟩
abbrev cX8_film : ByteArray := prog_10_method_67_code
def yX8_film : MethodName := ⟨RX8, "film", "(II)I"⟩
abbrev cX8_dinners : ByteArray := prog_10_method_68_code
def yX8_dinners : MethodName := ⟨RX8, "dinners", "(I)I"⟩
abbrev cX8_drawn : ByteArray := prog_10_method_69_code
def yX8_drawn : MethodName := ⟨RX8, "drawn", "(II)I"⟩
abbrev cX8_odds : ByteArray := prog_10_method_70_code
def yX8_odds : MethodName := ⟨RX8, "odds", "(IIII)J"⟩
abbrev cX8_image : ByteArray := prog_10_method_71_code
def yX8_image : MethodName := ⟨RX8, "image", "()I"⟩
abbrev cX8_back : ByteArray := prog_10_method_72_code
def yX8_back : MethodName := ⟨RX8, "back", "()I"⟩
abbrev cX8_sheet : ByteArray := prog_10_method_73_code
def yX8_sheet : MethodName := ⟨RX8, "sheet", "(III)I"⟩
abbrev cX8_cell : ByteArray := prog_10_method_74_code
def yX8_cell : MethodName := ⟨RX8, "cell", "(III)I"⟩
abbrev cX8_copy : ByteArray := prog_10_method_75_code
def yX8_copy : MethodName := ⟨RX8, "copy", "(IIIII)I"⟩
abbrev cX8_guestsBy : ByteArray := prog_10_method_76_code
def yX8_guestsBy : MethodName := ⟨RX8, "guestsBy", "(IIII)I"⟩
abbrev cX8_isUnder : ByteArray := prog_10_method_77_code
def yX8_isUnder : MethodName := ⟨RX8, "isUnder", "(II)Z"⟩
abbrev cX8_taken : ByteArray := prog_10_method_78_code
def yX8_taken : MethodName := ⟨RX8, "taken", "(II)I"⟩
def RJx145de : String := "java/io/Serializable"
def TJx145de : u_T := fun k => match k with
  | _ => ("", "", "", false)
def tyJx145de : Nat → FieldType := fun k => match k with
  | _ => .int
abbrev wsJx145de0 : List Cond := u_ws RJx145de TJx145de 0
theorem nmJx145de : ∀ a, a < 0 → ∀ b, b < 0 → a ≠ b → (TJx145de a).2.1 ≠ (TJx145de b).2.1 := by decide +kernel
theorem tyJx145de_ok : ∀ k, k < 0 → parseFieldDescriptor (TJx145de k).2.2.1 = some (tyJx145de k) := by decide +kernel
def RJx9f9b0 : String := "java/lang/CharSequence"
def TJx9f9b0 : u_T := fun k => match k with
  | _ => ("", "", "", false)
def tyJx9f9b0 : Nat → FieldType := fun k => match k with
  | _ => .int
abbrev wsJx9f9b00 : List Cond := u_ws RJx9f9b0 TJx9f9b0 0
theorem nmJx9f9b0 : ∀ a, a < 0 → ∀ b, b < 0 → a ≠ b → (TJx9f9b0 a).2.1 ≠ (TJx9f9b0 b).2.1 := by decide +kernel
theorem tyJx9f9b0_ok : ∀ k, k < 0 → parseFieldDescriptor (TJx9f9b0 k).2.2.1 = some (tyJx9f9b0 k) := by decide +kernel
def RJx8e188 : String := "java/lang/Cloneable"
def TJx8e188 : u_T := fun k => match k with
  | _ => ("", "", "", false)
def tyJx8e188 : Nat → FieldType := fun k => match k with
  | _ => .int
abbrev wsJx8e1880 : List Cond := u_ws RJx8e188 TJx8e188 0
theorem nmJx8e188 : ∀ a, a < 0 → ∀ b, b < 0 → a ≠ b → (TJx8e188 a).2.1 ≠ (TJx8e188 b).2.1 := by decide +kernel
theorem tyJx8e188_ok : ∀ k, k < 0 → parseFieldDescriptor (TJx8e188 k).2.2.1 = some (tyJx8e188 k) := by decide +kernel
def RJxb160c : String := "java/lang/Comparable"
def TJxb160c : u_T := fun k => match k with
  | _ => ("", "", "", false)
def tyJxb160c : Nat → FieldType := fun k => match k with
  | _ => .int
abbrev wsJxb160c0 : List Cond := u_ws RJxb160c TJxb160c 0
theorem nmJxb160c : ∀ a, a < 0 → ∀ b, b < 0 → a ≠ b → (TJxb160c a).2.1 ≠ (TJxb160c b).2.1 := by decide +kernel
theorem tyJxb160c_ok : ∀ k, k < 0 → parseFieldDescriptor (TJxb160c k).2.2.1 = some (tyJxb160c k) := by decide +kernel
def RJ6 : String := "java/lang/Integer"
def TJ6 : u_T := fun k => match k with
  | _ => ("", "", "", false)
def tyJ6 : Nat → FieldType := fun k => match k with
  | _ => .int
abbrev wsJ60 : List Cond := u_ws RJ6 TJ6 0
theorem nmJ6 : ∀ a, a < 0 → ∀ b, b < 0 → a ≠ b → (TJ6 a).2.1 ≠ (TJ6 b).2.1 := by decide +kernel
theorem tyJ6_ok : ∀ k, k < 0 → parseFieldDescriptor (TJ6 k).2.2.1 = some (tyJ6 k) := by decide +kernel
abbrev cJ6_bitCount_0f7a4 : ByteArray := prog_12_method_49_code
def yJ6_bitCount_0f7a4 : MethodName := ⟨RJ6, "bitCount", "(I)I"⟩
def RJ9 : String := "java/lang/Math"
def TJ9 : u_T := fun k => match k with
  | _ => ("", "", "", false)
def tyJ9 : Nat → FieldType := fun k => match k with
  | _ => .int
abbrev wsJ90 : List Cond := u_ws RJ9 TJ9 0
theorem nmJ9 : ∀ a, a < 0 → ∀ b, b < 0 → a ≠ b → (TJ9 a).2.1 ≠ (TJ9 b).2.1 := by decide +kernel
theorem tyJ9_ok : ∀ k, k < 0 → parseFieldDescriptor (TJ9 k).2.2.1 = some (tyJ9 k) := by decide +kernel
abbrev cJ9_floorMod_7cf53 : ByteArray := prog_13_method_50_code
def yJ9_floorMod_7cf53 : MethodName := ⟨RJ9, "floorMod", "(II)I"⟩
abbrev cJ9_max_7cf53 : ByteArray := prog_13_method_65_code
def yJ9_max_7cf53 : MethodName := ⟨RJ9, "max", "(II)I"⟩
abbrev cJ9_min_7cf53 : ByteArray := prog_13_method_69_code
def yJ9_min_7cf53 : MethodName := ⟨RJ9, "min", "(II)I"⟩
def RJ0 : String := "java/lang/String"
def TJ0 : u_T := fun k => match k with
  | _ => ("", "", "", false)
def tyJ0 : Nat → FieldType := fun k => match k with
  | _ => .int
abbrev wsJ00 : List Cond := u_ws RJ0 TJ0 0
theorem nmJ0 : ∀ a, a < 0 → ∀ b, b < 0 → a ≠ b → (TJ0 a).2.1 ≠ (TJ0 b).2.1 := by decide +kernel
theorem tyJ0_ok : ∀ k, k < 0 → parseFieldDescriptor (TJ0 k).2.2.1 = some (tyJ0 k) := by decide +kernel
abbrev cJ0_length_8abf5 : ByteArray := prog_14_method_54_code
def yJ0_length_8abf5 : MethodName := ⟨RJ0, "length", "()I"⟩
abbrev cJ0_charAt_5068e : ByteArray := prog_14_method_56_code
def yJ0_charAt_5068e : MethodName := ⟨RJ0, "charAt", "(I)C"⟩
abbrev cJ0_coder_7d493 : ByteArray := prog_14_method_152_code
def yJ0_coder_7d493 : MethodName := ⟨RJ0, "coder", "()B"⟩
abbrev cJ0_isLatin1_aae02 : ByteArray := prog_14_method_154_code
def yJ0_isLatin1_aae02 : MethodName := ⟨RJ0, "isLatin1", "()Z"⟩
abbrev cJ0_checkIndex_df160 : ByteArray := prog_14_method_155_code
def yJ0_checkIndex_df160 : MethodName := ⟨RJ0, "checkIndex", "(II)V"⟩
def RJ1 : String := "java/lang/StringLatin1"
def TJ1 : u_T := fun k => match k with
  | _ => ("", "", "", false)
def tyJ1 : Nat → FieldType := fun k => match k with
  | _ => .int
abbrev wsJ10 : List Cond := u_ws RJ1 TJ1 0
theorem nmJ1 : ∀ a, a < 0 → ∀ b, b < 0 → a ≠ b → (TJ1 a).2.1 ≠ (TJ1 b).2.1 := by decide +kernel
theorem tyJ1_ok : ∀ k, k < 0 → parseFieldDescriptor (TJ1 k).2.2.1 = some (tyJ1 k) := by decide +kernel
abbrev cJ1_charAt_3b067 : ByteArray := prog_15_method_2_code
def yJ1_charAt_3b067 : MethodName := ⟨RJ1, "charAt", "([BI)C"⟩
def RJ2 : String := "java/lang/StringUTF16"
def TJ2 : u_T := fun k => match k with
  | _ => ("", "", "", false)
def tyJ2 : Nat → FieldType := fun k => match k with
  | _ => .int
abbrev wsJ20 : List Cond := u_ws RJ2 TJ2 0
theorem nmJ2 : ∀ a, a < 0 → ∀ b, b < 0 → a ≠ b → (TJ2 a).2.1 ≠ (TJ2 b).2.1 := by decide +kernel
theorem tyJ2_ok : ∀ k, k < 0 → parseFieldDescriptor (TJ2 k).2.2.1 = some (tyJ2 k) := by decide +kernel
abbrev cJ2_getChar_3b067 : ByteArray := prog_16_method_5_code
def yJ2_getChar_3b067 : MethodName := ⟨RJ2, "getChar", "([BI)C"⟩
abbrev cJ2_length_9d52b : ByteArray := prog_16_method_6_code
def yJ2_length_9d52b : MethodName := ⟨RJ2, "length", "([B)I"⟩
abbrev cJ2_charAt_3b067 : ByteArray := prog_16_method_83_code
def yJ2_charAt_3b067 : MethodName := ⟨RJ2, "charAt", "([BI)C"⟩
abbrev cJ2_checkIndex_2214a : ByteArray := prog_16_method_91_code
def yJ2_checkIndex_2214a : MethodName := ⟨RJ2, "checkIndex", "(I[B)V"⟩
def RJ10 : String := "java/lang/System"
def TJ10 : u_T := fun k => match k with
  | _ => ("", "", "", false)
def tyJ10 : Nat → FieldType := fun k => match k with
  | _ => .int
abbrev wsJ100 : List Cond := u_ws RJ10 TJ10 0
theorem nmJ10 : ∀ a, a < 0 → ∀ b, b < 0 → a ≠ b → (TJ10 a).2.1 ≠ (TJ10 b).2.1 := by decide +kernel
theorem tyJ10_ok : ∀ k, k < 0 → parseFieldDescriptor (TJ10 k).2.2.1 = some (tyJ10 k) := by decide +kernel
def RJxfd54e : String := "java/lang/constant/Constable"
def TJxfd54e : u_T := fun k => match k with
  | _ => ("", "", "", false)
def tyJxfd54e : Nat → FieldType := fun k => match k with
  | _ => .int
abbrev wsJxfd54e0 : List Cond := u_ws RJxfd54e TJxfd54e 0
theorem nmJxfd54e : ∀ a, a < 0 → ∀ b, b < 0 → a ≠ b → (TJxfd54e a).2.1 ≠ (TJxfd54e b).2.1 := by decide +kernel
theorem tyJxfd54e_ok : ∀ k, k < 0 → parseFieldDescriptor (TJxfd54e k).2.2.1 = some (tyJxfd54e k) := by decide +kernel
def RJx3cf43 : String := "java/lang/constant/ConstantDesc"
def TJx3cf43 : u_T := fun k => match k with
  | _ => ("", "", "", false)
def tyJx3cf43 : Nat → FieldType := fun k => match k with
  | _ => .int
abbrev wsJx3cf430 : List Cond := u_ws RJx3cf43 TJx3cf43 0
theorem nmJx3cf43 : ∀ a, a < 0 → ∀ b, b < 0 → a ≠ b → (TJx3cf43 a).2.1 ≠ (TJx3cf43 b).2.1 := by decide +kernel
theorem tyJx3cf43_ok : ∀ k, k < 0 → parseFieldDescriptor (TJx3cf43 k).2.2.1 = some (tyJx3cf43 k) := by decide +kernel
def RJ7 : String := "java/util/Arrays"
def TJ7 : u_T := fun k => match k with
  | _ => ("", "", "", false)
def tyJ7 : Nat → FieldType := fun k => match k with
  | _ => .int
abbrev wsJ70 : List Cond := u_ws RJ7 TJ7 0
theorem nmJ7 : ∀ a, a < 0 → ∀ b, b < 0 → a ≠ b → (TJ7 a).2.1 ≠ (TJ7 b).2.1 := by decide +kernel
theorem tyJ7_ok : ∀ k, k < 0 → parseFieldDescriptor (TJ7 k).2.2.1 = some (tyJ7 k) := by decide +kernel
abbrev cJ7_fill_53178 : ByteArray := prog_18_method_103_code
def yJ7_fill_53178 : MethodName := ⟨RJ7, "fill", "([II)V"⟩
abbrev cJ7_copyOf_59c91 : ByteArray := prog_18_method_123_code
def yJ7_copyOf_59c91 : MethodName := ⟨RJ7, "copyOf", "([II)[I"⟩
def RJ3 : String := "jdk/internal/util/Preconditions"
def TJ3 : u_T := fun k => match k with
  | _ => ("", "", "", false)
def tyJ3 : Nat → FieldType := fun k => match k with
  | _ => .int
abbrev wsJ30 : List Cond := u_ws RJ3 TJ3 0
theorem nmJ3 : ∀ a, a < 0 → ∀ b, b < 0 → a ≠ b → (TJ3 a).2.1 ≠ (TJ3 b).2.1 := by decide +kernel
theorem tyJ3_ok : ∀ k, k < 0 → parseFieldDescriptor (TJ3 k).2.2.1 = some (tyJ3 k) := by decide +kernel
abbrev cJ3_checkIndex_8e157 : ByteArray := prog_19_method_11_code
def yJ3_checkIndex_8e157 : MethodName := ⟨RJ3, "checkIndex", "(IILjava/util/function/BiFunction;)I"⟩
def RL : String := "StalemateDinnerLaw"
abbrev cL_law : ByteArray := code
def yL_law : MethodName := ⟨RL, "law", "([I)Z"⟩
abbrev vwCl : List vw_C := [(RX0, TX0, 7), (RX1, TX1, 2), (RX2, TX2, 4), (RX3, TX3, 3), (RX4, TX4, 4), (RX5, TX5, 6), (RX6, TX6, 4), (RX7, TX7, 10), (RX8, TX8, 31)]
/-- the good words of the tables: every contract's words -/
abbrev TBL : List Cond := lw_tbl.filter goodWord
theorem tb_0 {w : Cond} (k : Nat) (h : (k2_sels lw_privs)[k]? = some w) (g : goodWord w = true) : w ∈ TBL := List.mem_filter.mpr ⟨List.mem_append_left _ (List.mem_of_getElem? h), g⟩
theorem tb_t {w : Cond} (h : w ∈ tables_1) (g : goodWord w = true) : w ∈ TBL := List.mem_filter.mpr ⟨List.mem_append_right _ h, g⟩
theorem tb_1 {w : Cond} (k : Nat) (h : tables_1_1[k]? = some w) (g : goodWord w = true) : w ∈ TBL := tb_t (List.mem_append_left _ (List.mem_of_getElem? h)) g
theorem tb_2 {w : Cond} (k : Nat) (h : tables_1_2[k]? = some w) (g : goodWord w = true) : w ∈ TBL := tb_t (List.mem_append_right _ (List.mem_append_left _ (List.mem_of_getElem? h))) g
theorem tb_3 {w : Cond} (k : Nat) (h : tables_1_3[k]? = some w) (g : goodWord w = true) : w ∈ TBL := tb_t (List.mem_append_right _ (List.mem_append_right _ (List.mem_append_left _ (List.mem_of_getElem? h)))) g
theorem tb_4 {w : Cond} (k : Nat) (h : tables_1_4[k]? = some w) (g : goodWord w = true) : w ∈ TBL := tb_t (List.mem_append_right _ (List.mem_append_right _ (List.mem_append_right _ (List.mem_append_left _ (List.mem_of_getElem? h))))) g
theorem tb_5 {w : Cond} (k : Nat) (h : tables_1_5[k]? = some w) (g : goodWord w = true) : w ∈ TBL := tb_t (List.mem_append_right _ (List.mem_append_right _ (List.mem_append_right _ (List.mem_append_right _ (List.mem_of_getElem? h))))) g
theorem TBL_sub : ∀ w ∈ TBL, w ∈ lw_tbl := fun _ h => (List.mem_filter.mp h).1
theorem TBL_good : ∀ w ∈ TBL, goodWord w = true := fun _ h => (List.mem_filter.mp h).2
/-- a method's words: its own code, then all of TBL -/
abbrev WSm (y : MethodName) (cc : ByteArray) (n : Nat) (r : Option FieldType) : List Cond := Cond.code y cc n r :: TBL
theorem good_TBL {ws : List Cond} (h : ∀ w ∈ ws, w ∈ TBL) : GoodIn TBL ws := fun w hw => ⟨h w hw, good_of_word (TBL_good w (h w hw))⟩
theorem good_WSm {y : MethodName} {cc : ByteArray} {n : Nat} {r : Option FieldType} (h : Cond.code y cc n r ∈ TBL) : GoodIn TBL (WSm y cc n r) := good_TBL (fun w hw => (List.mem_cons.mp hw).elim (fun e => e ▸ h) (fun q => q))
