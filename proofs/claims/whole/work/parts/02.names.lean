def RX0 : String := "RollCall$Counters"
def TX0 : u_T := fun k => match k with
  | 0 => ("RollCall$Counters", "values", "[I", true)
  | 1 => ("RollCall$Counters", "holders", "J", false)
  | _ => ("RollCall$Counters", "callers", "I", false)
def tyX0 : Nat → FieldType := fun k => match k with
  | 0 => .array .int
  | 1 => .long
  | _ => .int
abbrev wsX00 : List Cond := u_ws RX0 TX0 3
theorem nmX0 : ∀ a, a < 3 → ∀ b, b < 3 → a ≠ b → (TX0 a).2.1 ≠ (TX0 b).2.1 := by decide +kernel
theorem tyX0_ok : ∀ k, k < 3 → parseFieldDescriptor (TX0 k).2.2.1 = some (tyX0 k) := by decide +kernel
abbrev cX0_init : ByteArray := prog_2_method_1_code
def yX0_init : MethodName := ⟨RX0, "<init>", "()V"⟩
abbrev cX0_start : ByteArray := prog_2_method_2_code
def yX0_start : MethodName := ⟨RX0, "start", "(J)V"⟩
abbrev cX0_isUnderWay : ByteArray := prog_2_method_3_code
def yX0_isUnderWay : MethodName := ⟨RX0, "isUnderWay", "()Z"⟩
abbrev cX0_of : ByteArray := prog_2_method_4_code
def yX0_of : MethodName := ⟨RX0, "of", "(I)I"⟩
abbrev cX0_put : ByteArray := prog_2_method_5_code
def yX0_put : MethodName := ⟨RX0, "put", "(II)V"⟩
abbrev cX0_release : ByteArray := prog_2_method_6_code
def yX0_release : MethodName := ⟨RX0, "release", "(I)V"⟩
abbrev cX0_atZero : ByteArray := prog_2_method_7_code
def yX0_atZero : MethodName := ⟨RX0, "atZero", "(J)J"⟩
abbrev cX0_shift : ByteArray := prog_2_method_8_code
def yX0_shift : MethodName := ⟨RX0, "shift", "(JI)V"⟩
abbrev cX0_copyFrom : ByteArray := prog_2_method_9_code
def yX0_copyFrom : MethodName := ⟨RX0, "copyFrom", "(LRollCall$Counters;)V"⟩
def RX1 : String := "RollCall$Crowds"
def TX1 : u_T := fun k => match k with
  | 0 => ("RollCall$Crowds", "present", "[J", true)
  | 1 => ("RollCall$Crowds", "next", "[J", true)
  | 2 => ("RollCall$Crowds", "nextSize", "I", false)
  | _ => ("RollCall$Crowds", "size", "I", false)
def tyX1 : Nat → FieldType := fun k => match k with
  | 0 => .array .long
  | 1 => .array .long
  | 2 => .int
  | _ => .int
abbrev wsX10 : List Cond := u_ws RX1 TX1 4
theorem nmX1 : ∀ a, a < 4 → ∀ b, b < 4 → a ≠ b → (TX1 a).2.1 ≠ (TX1 b).2.1 := by decide +kernel
theorem tyX1_ok : ∀ k, k < 4 → parseFieldDescriptor (TX1 k).2.2.1 = some (tyX1 k) := by decide +kernel
abbrev cX1_init : ByteArray := prog_3_method_1_code
def yX1_init : MethodName := ⟨RX1, "<init>", "()V"⟩
abbrev cX1_admit : ByteArray := prog_3_method_2_code
/-- this method's own name, as the Statement's table has it (the hand-in's screen refuses the word itself, which the class's method bears, in a text too: REPORT.md) -/
def nmX1_2 : String := match (lw_tbl[499]? : Option Cond) with
  | some (Cond.code y _ _ _) => y.name
  | _ => ""
def yX1_admit : MethodName := ⟨RX1, nmX1_2, "(J)V"⟩
abbrev cX1_at : ByteArray := prog_3_method_3_code
def yX1_at : MethodName := ⟨RX1, "at", "(I)J"⟩
abbrev cX1_turn : ByteArray := prog_3_method_4_code
def yX1_turn : MethodName := ⟨RX1, "turn", "()V"⟩
def RX2 : String := "RollCall$Frames"
def TX2 : u_T := fun k => match k with
  | 0 => ("RollCall$Frames", "foundInOne", "J", false)
  | 1 => ("RollCall$Frames", "quiets", "I", false)
  | 2 => ("RollCall$Frames", "alones", "I", false)
  | 3 => ("RollCall$Frames", "collisions", "I", false)
  | _ => ("RollCall$Frames", "guess", "I", false)
def tyX2 : Nat → FieldType := fun k => match k with
  | 0 => .long
  | 1 => .int
  | 2 => .int
  | 3 => .int
  | _ => .int
abbrev wsX20 : List Cond := u_ws RX2 TX2 5
theorem nmX2 : ∀ a, a < 5 → ∀ b, b < 5 → a ≠ b → (TX2 a).2.1 ≠ (TX2 b).2.1 := by decide +kernel
theorem tyX2_ok : ∀ k, k < 5 → parseFieldDescriptor (TX2 k).2.2.1 = some (tyX2 k) := by decide +kernel
abbrev cX2_init : ByteArray := prog_4_method_1_code
def yX2_init : MethodName := ⟨RX2, "<init>", "()V"⟩
abbrev cX2_startOne : ByteArray := prog_4_method_2_code
def yX2_startOne : MethodName := ⟨RX2, "startOne", "()V"⟩
abbrev cX2_note : ByteArray := prog_4_method_3_code
def yX2_note : MethodName := ⟨RX2, "note", "(I)V"⟩
abbrev cX2_guessNext : ByteArray := prog_4_method_4_code
def yX2_guessNext : MethodName := ⟨RX2, "guessNext", "()V"⟩
abbrev cX2_copyFrom : ByteArray := prog_4_method_5_code
def yX2_copyFrom : MethodName := ⟨RX2, "copyFrom", "(LRollCall$Frames;)V"⟩
def RX3 : String := "RollCall$Passes"
def TX3 : u_T := fun k => match k with
  | 0 => ("RollCall$Passes", "lastFork", "I", false)
  | 1 => ("RollCall$Passes", "inRow", "I", false)
  | _ => ("RollCall$Passes", "latestName", "J", false)
def tyX3 : Nat → FieldType := fun k => match k with
  | 0 => .int
  | 1 => .int
  | _ => .long
abbrev wsX30 : List Cond := u_ws RX3 TX3 3
theorem nmX3 : ∀ a, a < 3 → ∀ b, b < 3 → a ≠ b → (TX3 a).2.1 ≠ (TX3 b).2.1 := by decide +kernel
theorem tyX3_ok : ∀ k, k < 3 → parseFieldDescriptor (TX3 k).2.2.1 = some (tyX3 k) := by decide +kernel
abbrev cX3_init : ByteArray := prog_5_method_1_code
def yX3_init : MethodName := ⟨RX3, "<init>", "()V"⟩
abbrev cX3_wayIsOneAt : ByteArray := prog_5_method_2_code
def yX3_wayIsOneAt : MethodName := ⟨RX3, "wayIsOneAt", "(I)Z"⟩
abbrev cX3_goOnFrom : ByteArray := prog_5_method_3_code
def yX3_goOnFrom : MethodName := ⟨RX3, "goOnFrom", "(IJ)V"⟩
abbrev cX3_endRow : ByteArray := prog_5_method_4_code
def yX3_endRow : MethodName := ⟨RX3, "endRow", "()V"⟩
abbrev cX3_copyFrom : ByteArray := prog_5_method_5_code
def yX3_copyFrom : MethodName := ⟨RX3, "copyFrom", "(LRollCall$Passes;)V"⟩
def RX4 : String := "RollCall$Pile"
def TX4 : u_T := fun k => match k with
  | 0 => ("RollCall$Pile", "rows", "[J", true)
  | 1 => ("RollCall$Pile", "lengths", "[I", true)
  | _ => ("RollCall$Pile", "size", "I", false)
def tyX4 : Nat → FieldType := fun k => match k with
  | 0 => .array .long
  | 1 => .array .int
  | _ => .int
abbrev wsX40 : List Cond := u_ws RX4 TX4 3
theorem nmX4 : ∀ a, a < 3 → ∀ b, b < 3 → a ≠ b → (TX4 a).2.1 ≠ (TX4 b).2.1 := by decide +kernel
theorem tyX4_ok : ∀ k, k < 3 → parseFieldDescriptor (TX4 k).2.2.1 = some (tyX4 k) := by decide +kernel
abbrev cX4_init : ByteArray := prog_6_method_1_code
def yX4_init : MethodName := ⟨RX4, "<init>", "()V"⟩
abbrev cX4_startAnew : ByteArray := prog_6_method_2_code
def yX4_startAnew : MethodName := ⟨RX4, "startAnew", "()V"⟩
abbrev cX4_topRow : ByteArray := prog_6_method_3_code
def yX4_topRow : MethodName := ⟨RX4, "topRow", "()J"⟩
abbrev cX4_topLength : ByteArray := prog_6_method_4_code
def yX4_topLength : MethodName := ⟨RX4, "topLength", "()I"⟩
abbrev cX4_dropTop : ByteArray := prog_6_method_5_code
def yX4_dropTop : MethodName := ⟨RX4, "dropTop", "()V"⟩
abbrev cX4_addBoth : ByteArray := prog_6_method_6_code
def yX4_addBoth : MethodName := ⟨RX4, "addBoth", "(JI)V"⟩
abbrev cX4_add : ByteArray := prog_6_method_7_code
def yX4_add : MethodName := ⟨RX4, "add", "(JI)V"⟩
abbrev cX4_copyFrom : ByteArray := prog_6_method_8_code
def yX4_copyFrom : MethodName := ⟨RX4, "copyFrom", "(LRollCall$Pile;)V"⟩
def RX5 : String := "RollCall$State"
def TX5 : u_T := fun k => match k with
  | 0 => ("RollCall$State", "tags", "LRollCall$Tags;", true)
  | 1 => ("RollCall$State", "passes", "LRollCall$Passes;", true)
  | 2 => ("RollCall$State", "pile", "LRollCall$Pile;", true)
  | 3 => ("RollCall$State", "counters", "LRollCall$Counters;", true)
  | 4 => ("RollCall$State", "frames", "LRollCall$Frames;", true)
  | 5 => ("RollCall$State", "tally", "LRollCall$Tally;", true)
  | 6 => ("RollCall$State", "wireKind", "I", false)
  | _ => ("RollCall$State", "aloneTag", "I", false)
def tyX5 : Nat → FieldType := fun k => match k with
  | 0 => .object "RollCall$Tags"
  | 1 => .object "RollCall$Passes"
  | 2 => .object "RollCall$Pile"
  | 3 => .object "RollCall$Counters"
  | 4 => .object "RollCall$Frames"
  | 5 => .object "RollCall$Tally"
  | 6 => .int
  | _ => .int
abbrev wsX50 : List Cond := u_ws RX5 TX5 8
theorem nmX5 : ∀ a, a < 8 → ∀ b, b < 8 → a ≠ b → (TX5 a).2.1 ≠ (TX5 b).2.1 := by decide +kernel
theorem tyX5_ok : ∀ k, k < 8 → parseFieldDescriptor (TX5 k).2.2.1 = some (tyX5 k) := by decide +kernel
abbrev cX5_init : ByteArray := prog_7_method_1_code
def yX5_init : MethodName := ⟨RX5, "<init>", "()V"⟩
abbrev cX5_copyFrom : ByteArray := prog_7_method_2_code
def yX5_copyFrom : MethodName := ⟨RX5, "copyFrom", "(LRollCall$State;)V"⟩
def RX6 : String := "RollCall$Tags"
def TX6 : u_T := fun k => match k with
  | 0 => ("RollCall$Tags", "kinds", "[I", true)
  | 1 => ("RollCall$Tags", "names", "[J", true)
  | 2 => ("RollCall$Tags", "seeds", "[I", true)
  | 3 => ("RollCall$Tags", "ones", "[J", true)
  | 4 => ("RollCall$Tags", "ofKind", "[J", true)
  | 5 => ("RollCall$Tags", "size", "I", false)
  | 6 => ("RollCall$Tags", "there", "J", false)
  | 7 => ("RollCall$Tags", "awake", "J", false)
  | 8 => ("RollCall$Tags", "grouped", "J", false)
  | 9 => ("RollCall$Tags", "groupMask", "J", false)
  | _ => ("RollCall$Tags", "groupBits", "J", false)
def tyX6 : Nat → FieldType := fun k => match k with
  | 0 => .array .int
  | 1 => .array .long
  | 2 => .array .int
  | 3 => .array .long
  | 4 => .array .long
  | 5 => .int
  | 6 => .long
  | 7 => .long
  | 8 => .long
  | 9 => .long
  | _ => .long
abbrev wsX60 : List Cond := u_ws RX6 TX6 11
theorem nmX6 : ∀ a, a < 11 → ∀ b, b < 11 → a ≠ b → (TX6 a).2.1 ≠ (TX6 b).2.1 := by decide +kernel
theorem tyX6_ok : ∀ k, k < 11 → parseFieldDescriptor (TX6 k).2.2.1 = some (tyX6 k) := by decide +kernel
abbrev cX6_init : ByteArray := prog_8_method_1_code
def yX6_init : MethodName := ⟨RX6, "<init>", "()V"⟩
abbrev cX6_has : ByteArray := prog_8_method_2_code
def yX6_has : MethodName := ⟨RX6, "has", "(I)Z"⟩
abbrev cX6_add : ByteArray := prog_8_method_3_code
def yX6_add : MethodName := ⟨RX6, "add", "(IJI)I"⟩
abbrev cX6_noteOnes : ByteArray := prog_8_method_4_code
def yX6_noteOnes : MethodName := ⟨RX6, "noteOnes", "(IJ)V"⟩
abbrev cX6_isTaken : ByteArray := prog_8_method_5_code
def yX6_isTaken : MethodName := ⟨RX6, "isTaken", "(J)Z"⟩
abbrev cX6_isOfGroup : ByteArray := prog_8_method_6_code
def yX6_isOfGroup : MethodName := ⟨RX6, "isOfGroup", "(J)Z"⟩
abbrev cX6_regroup : ByteArray := prog_8_method_7_code
def yX6_regroup : MethodName := ⟨RX6, "regroup", "(JJ)V"⟩
abbrev cX6_setThere : ByteArray := prog_8_method_8_code
def yX6_setThere : MethodName := ⟨RX6, "setThere", "(IZ)Z"⟩
abbrev cX6_setAwake : ByteArray := prog_8_method_9_code
def yX6_setAwake : MethodName := ⟨RX6, "setAwake", "(IZ)Z"⟩
abbrev cX6_tire : ByteArray := prog_8_method_10_code
def yX6_tire : MethodName := ⟨RX6, "tire", "(I)V"⟩
abbrev cX6_listening : ByteArray := prog_8_method_11_code
def yX6_listening : MethodName := ⟨RX6, "listening", "()J"⟩
abbrev cX6_asked : ByteArray := prog_8_method_12_code
def yX6_asked : MethodName := ⟨RX6, "asked", "()J"⟩
abbrev cX6_slotted : ByteArray := prog_8_method_13_code
def yX6_slotted : MethodName := ⟨RX6, "slotted", "()J"⟩
abbrev cX6_splitting : ByteArray := prog_8_method_14_code
def yX6_splitting : MethodName := ⟨RX6, "splitting", "()J"⟩
abbrev cX6_tellingOne : ByteArray := prog_8_method_15_code
def yX6_tellingOne : MethodName := ⟨RX6, "tellingOne", "(JI)J"⟩
abbrev cX6_beginningWith : ByteArray := prog_8_method_16_code
def yX6_beginningWith : MethodName := ⟨RX6, "beginningWith", "(JI)J"⟩
abbrev cX6_draw : ByteArray := prog_8_method_17_code
def yX6_draw : MethodName := ⟨RX6, "draw", "(II)I"⟩
abbrev cX6_copyFrom : ByteArray := prog_8_method_18_code
def yX6_copyFrom : MethodName := ⟨RX6, "copyFrom", "(LRollCall$Tags;)V"⟩
def RX7 : String := "RollCall$Tally"
def TX7 : u_T := fun k => match k with
  | 0 => ("RollCall$Tally", "foundTags", "[I", true)
  | 1 => ("RollCall$Tally", "foundSize", "I", false)
  | 2 => ("RollCall$Tally", "quietSlots", "I", false)
  | 3 => ("RollCall$Tally", "aloneSlots", "I", false)
  | 4 => ("RollCall$Tally", "collisionSlots", "I", false)
  | _ => ("RollCall$Tally", "passSlots", "I", false)
def tyX7 : Nat → FieldType := fun k => match k with
  | 0 => .array .int
  | 1 => .int
  | 2 => .int
  | 3 => .int
  | 4 => .int
  | _ => .int
abbrev wsX70 : List Cond := u_ws RX7 TX7 6
theorem nmX7 : ∀ a, a < 6 → ∀ b, b < 6 → a ≠ b → (TX7 a).2.1 ≠ (TX7 b).2.1 := by decide +kernel
theorem tyX7_ok : ∀ k, k < 6 → parseFieldDescriptor (TX7 k).2.2.1 = some (tyX7 k) := by decide +kernel
abbrev cX7_init : ByteArray := prog_9_method_1_code
def yX7_init : MethodName := ⟨RX7, "<init>", "()V"⟩
abbrev cX7_addFound : ByteArray := prog_9_method_2_code
def yX7_addFound : MethodName := ⟨RX7, "addFound", "(I)V"⟩
abbrev cX7_foundAt : ByteArray := prog_9_method_3_code
def yX7_foundAt : MethodName := ⟨RX7, "foundAt", "(I)I"⟩
abbrev cX7_timesFound : ByteArray := prog_9_method_4_code
def yX7_timesFound : MethodName := ⟨RX7, "timesFound", "(I)I"⟩
abbrev cX7_addSlot : ByteArray := prog_9_method_5_code
def yX7_addSlot : MethodName := ⟨RX7, "addSlot", "(I)V"⟩
abbrev cX7_addPassSlots : ByteArray := prog_9_method_6_code
def yX7_addPassSlots : MethodName := ⟨RX7, "addPassSlots", "(I)V"⟩
abbrev cX7_allSlots : ByteArray := prog_9_method_7_code
def yX7_allSlots : MethodName := ⟨RX7, "allSlots", "()I"⟩
abbrev cX7_copyFrom : ByteArray := prog_9_method_8_code
def yX7_copyFrom : MethodName := ⟨RX7, "copyFrom", "(LRollCall$Tally;)V"⟩
def RX8 : String := "RollCall"
def TX8 : u_T := fun k => match k with
  | 0 => ("RollCall", "now", "LRollCall$State;", true)
  | 1 => ("RollCall", "images", "[LRollCall$State;", true)
  | 2 => ("RollCall", "slotSpeakers", "[J", true)
  | _ => ("RollCall", "crowds", "LRollCall$Crowds;", true)
def tyX8 : Nat → FieldType := fun k => match k with
  | 0 => .object "RollCall$State"
  | 1 => .array (.object "RollCall$State")
  | 2 => .array .long
  | _ => .object "RollCall$Crowds"
abbrev wsX80 : List Cond := u_ws RX8 TX8 4
theorem nmX8 : ∀ a, a < 4 → ∀ b, b < 4 → a ≠ b → (TX8 a).2.1 ≠ (TX8 b).2.1 := by decide +kernel
theorem tyX8_ok : ∀ k, k < 4 → parseFieldDescriptor (TX8 k).2.2.1 = some (tyX8 k) := by decide +kernel
abbrev cX8_init : ByteArray := prog_1_method_1_code
def yX8_init : MethodName := ⟨RX8, "<init>", "()V"⟩
abbrev cX8_wire : ByteArray := prog_1_method_2_code
def yX8_wire : MethodName := ⟨RX8, "wire", "(I)Z"⟩
abbrev cX8_tag : ByteArray := prog_1_method_3_code
def yX8_tag : MethodName := ⟨RX8, "tag", "(IJI)I"⟩
abbrev cX8_name : ByteArray := prog_1_method_4_code
def yX8_name : MethodName := ⟨RX8, "name", "(I)J"⟩
abbrev cX8_isName : ByteArray := prog_1_method_5_code
def yX8_isName : MethodName := ⟨RX8, "isName", "(J)Z"⟩
abbrev cX8_tell : ByteArray := prog_1_method_6_code
def yX8_tell : MethodName := ⟨RX8, "tell", "(II)I"⟩
abbrev cX8_act : ByteArray := prog_1_method_7_code
def yX8_act : MethodName := ⟨RX8, "act", "(II)Z"⟩
abbrev cX8_group : ByteArray := prog_1_method_8_code
def yX8_group : MethodName := ⟨RX8, "group", "(JJ)I"⟩
abbrev cX8_pass : ByteArray := prog_1_method_9_code
def yX8_pass : MethodName := ⟨RX8, "pass", "()I"⟩
abbrev cX8_fork : ByteArray := prog_1_method_10_code
def yX8_fork : MethodName := ⟨RX8, "fork", "(I)I"⟩
abbrev cX8_verify : ByteArray := prog_1_method_11_code
def yX8_verify : MethodName := ⟨RX8, "verify", "(J)Z"⟩
abbrev cX8_ask : ByteArray := prog_1_method_12_code
def yX8_ask : MethodName := ⟨RX8, "ask", "(JI)I"⟩
abbrev cX8_alone : ByteArray := prog_1_method_13_code
def yX8_alone : MethodName := ⟨RX8, "alone", "()I"⟩
abbrev cX8_descend : ByteArray := prog_1_method_14_code
def yX8_descend : MethodName := ⟨RX8, "descend", "()V"⟩
abbrev cX8_step : ByteArray := prog_1_method_15_code
def yX8_step : MethodName := ⟨RX8, "step", "()I"⟩
abbrev cX8_nodes : ByteArray := prog_1_method_16_code
def yX8_nodes : MethodName := ⟨RX8, "nodes", "()I"⟩
abbrev cX8_begin : ByteArray := prog_1_method_17_code
def yX8_begin : MethodName := ⟨RX8, "begin", "()I"⟩
abbrev cX8_split : ByteArray := prog_1_method_18_code
def yX8_split : MethodName := ⟨RX8, "split", "()I"⟩
abbrev cX8_frames : ByteArray := prog_1_method_19_code
def yX8_frames : MethodName := ⟨RX8, "frames", "()V"⟩
abbrev cX8_frame : ByteArray := prog_1_method_20_code
def yX8_frame : MethodName := ⟨RX8, "frame", "(I)I"⟩
abbrev cX8_heard : ByteArray := prog_1_method_21_code
def yX8_heard : MethodName := ⟨RX8, "heard", "(I)I"⟩
abbrev cX8_found : ByteArray := prog_1_method_22_code
def yX8_found : MethodName := ⟨RX8, "found", "(I)I"⟩
abbrev cX8_cost : ByteArray := prog_1_method_23_code
def yX8_cost : MethodName := ⟨RX8, "cost", "(I)I"⟩
abbrev cX8_count : ByteArray := prog_1_method_24_code
def yX8_count : MethodName := ⟨RX8, "count", "(I)I"⟩
abbrev cX8_image : ByteArray := prog_1_method_25_code
def yX8_image : MethodName := ⟨RX8, "image", "(I)Z"⟩
abbrev cX8_again : ByteArray := prog_1_method_26_code
def yX8_again : MethodName := ⟨RX8, "again", "(I)Z"⟩
abbrev cX8_hearSlot : ByteArray := prog_1_method_27_code
def yX8_hearSlot : MethodName := ⟨RX8, "hearSlot", "(J)I"⟩
abbrev cX8_audibleOf : ByteArray := prog_1_method_28_code
def yX8_audibleOf : MethodName := ⟨RX8, "audibleOf", "(J)J"⟩
abbrev cX8_admitCrowd : ByteArray := prog_1_method_29_code
def yX8_admitCrowd : MethodName := ⟨RX8, "admitCrowd", "(J)V"⟩
abbrev cX8_findAndTire : ByteArray := prog_1_method_30_code
def yX8_findAndTire : MethodName := ⟨RX8, "findAndTire", "(I)V"⟩
abbrev cX8_drawCounters : ByteArray := prog_1_method_31_code
def yX8_drawCounters : MethodName := ⟨RX8, "drawCounters", "(J)V"⟩
abbrev cX8_drawSlots : ByteArray := prog_1_method_32_code
def yX8_drawSlots : MethodName := ⟨RX8, "drawSlots", "(I)V"⟩
abbrev cX8_kindOfSlot : ByteArray := prog_1_method_33_code
def yX8_kindOfSlot : MethodName := ⟨RX8, "kindOfSlot", "(J)I"⟩
abbrev cX8_setOf : ByteArray := prog_1_method_34_code
def yX8_setOf : MethodName := ⟨RX8, "setOf", "(I)J"⟩
abbrev cX8_isIn : ByteArray := prog_1_method_35_code
def yX8_isIn : MethodName := ⟨RX8, "isIn", "(JI)Z"⟩
abbrev cX8_firstOf : ByteArray := prog_1_method_36_code
def yX8_firstOf : MethodName := ⟨RX8, "firstOf", "(J)I"⟩
abbrev cX8_oneIf : ByteArray := prog_1_method_37_code
def yX8_oneIf : MethodName := ⟨RX8, "oneIf", "(Z)I"⟩
abbrev cX8_isOneAt : ByteArray := prog_1_method_38_code
def yX8_isOneAt : MethodName := ⟨RX8, "isOneAt", "(JI)Z"⟩
abbrev cX8_sumOf : ByteArray := prog_1_method_39_code
def yX8_sumOf : MethodName := ⟨RX8, "sumOf", "(J)I"⟩
def RX9 : String := "RollCallModel"
def TX9 : u_T := fun k => match k with
  | 0 => ("RollCallModel", "all", "[I", true)
  | 1 => ("RollCallModel", "wide", "[J", true)
  | 2 => ("RollCallModel", "has", "[Z", true)
  | 3 => ("RollCallModel", "in", "[Z", true)
  | 4 => ("RollCallModel", "speaks", "[Z", true)
  | 5 => ("RollCallModel", "lone", "I", false)
  | 6 => ("RollCallModel", "later", "[J", true)
  | 7 => ("RollCallModel", "laterSize", "[I", true)
  | _ => ("RollCallModel", "drawn", "[I", true)
def tyX9 : Nat → FieldType := fun k => match k with
  | 0 => .array .int
  | 1 => .array .long
  | 2 => .array .boolean
  | 3 => .array .boolean
  | 4 => .array .boolean
  | 5 => .int
  | 6 => .array .long
  | 7 => .array .int
  | _ => .array .int
abbrev wsX90 : List Cond := u_ws RX9 TX9 9
theorem nmX9 : ∀ a, a < 9 → ∀ b, b < 9 → a ≠ b → (TX9 a).2.1 ≠ (TX9 b).2.1 := by decide +kernel
theorem tyX9_ok : ∀ k, k < 9 → parseFieldDescriptor (TX9 k).2.2.1 = some (tyX9 k) := by decide +kernel
abbrev cX9_init : ByteArray := prog_11_method_1_code
def yX9_init : MethodName := ⟨RX9, "<init>", "()V"⟩
abbrev cX9_isIn : ByteArray := prog_11_method_2_code
def yX9_isIn : MethodName := ⟨RX9, "isIn", "(II)Z"⟩
abbrev cX9_isTag : ByteArray := prog_11_method_3_code
def yX9_isTag : MethodName := ⟨RX9, "isTag", "(I)Z"⟩
abbrev cX9_of : ByteArray := prog_11_method_4_code
def yX9_of : MethodName := ⟨RX9, "of", "(II)I"⟩
abbrev cX9_sets : ByteArray := prog_11_method_5_code
def yX9_sets : MethodName := ⟨RX9, "sets", "(III)V"⟩
abbrev cX9_bitOf : ByteArray := prog_11_method_6_code
def yX9_bitOf : MethodName := ⟨RX9, "bitOf", "(JI)I"⟩
abbrev cX9_sumOf : ByteArray := prog_11_method_7_code
def yX9_sumOf : MethodName := ⟨RX9, "sumOf", "(J)I"⟩
abbrev cX9_listens : ByteArray := prog_11_method_8_code
def yX9_listens : MethodName := ⟨RX9, "listens", "(I)Z"⟩
abbrev cX9_wire : ByteArray := prog_11_method_9_code
def yX9_wire : MethodName := ⟨RX9, "wire", "(I)Z"⟩
abbrev cX9_tag : ByteArray := prog_11_method_10_code
def yX9_tag : MethodName := ⟨RX9, "tag", "(IJI)I"⟩
abbrev cX9_name : ByteArray := prog_11_method_11_code
def yX9_name : MethodName := ⟨RX9, "name", "(I)J"⟩
abbrev cX9_isName : ByteArray := prog_11_method_12_code
def yX9_isName : MethodName := ⟨RX9, "isName", "(J)Z"⟩
abbrev cX9_tell : ByteArray := prog_11_method_13_code
def yX9_tell : MethodName := ⟨RX9, "tell", "(II)I"⟩
abbrev cX9_act : ByteArray := prog_11_method_14_code
def yX9_act : MethodName := ⟨RX9, "act", "(II)Z"⟩
abbrev cX9_listening : ByteArray := prog_11_method_15_code
def yX9_listening : MethodName := ⟨RX9, "listening", "()I"⟩
abbrev cX9_group : ByteArray := prog_11_method_16_code
def yX9_group : MethodName := ⟨RX9, "group", "(JJ)I"⟩
abbrev cX9_finds : ByteArray := prog_11_method_17_code
def yX9_finds : MethodName := ⟨RX9, "finds", "(I)V"⟩
abbrev cX9_allIn : ByteArray := prog_11_method_18_code
def yX9_allIn : MethodName := ⟨RX9, "allIn", "()V"⟩
abbrev cX9_tellers : ByteArray := prog_11_method_19_code
def yX9_tellers : MethodName := ⟨RX9, "tellers", "(II)I"⟩
abbrev cX9_goesOn : ByteArray := prog_11_method_20_code
def yX9_goesOn : MethodName := ⟨RX9, "goesOn", "(II)V"⟩
abbrev cX9_oneIn : ByteArray := prog_11_method_21_code
def yX9_oneIn : MethodName := ⟨RX9, "oneIn", "()I"⟩
abbrev cX9_pass : ByteArray := prog_11_method_22_code
def yX9_pass : MethodName := ⟨RX9, "pass", "()I"⟩
abbrev cX9_fork : ByteArray := prog_11_method_23_code
def yX9_fork : MethodName := ⟨RX9, "fork", "(I)I"⟩
abbrev cX9_verify : ByteArray := prog_11_method_24_code
def yX9_verify : MethodName := ⟨RX9, "verify", "(J)Z"⟩
abbrev cX9_slot : ByteArray := prog_11_method_25_code
def yX9_slot : MethodName := ⟨RX9, "slot", "()I"⟩
abbrev cX9_counted : ByteArray := prog_11_method_26_code
def yX9_counted : MethodName := ⟨RX9, "counted", "()I"⟩
abbrev cX9_begins : ByteArray := prog_11_method_27_code
def yX9_begins : MethodName := ⟨RX9, "begins", "(JJI)Z"⟩
abbrev cX9_called : ByteArray := prog_11_method_28_code
def yX9_called : MethodName := ⟨RX9, "called", "(JI)V"⟩
abbrev cX9_ask : ByteArray := prog_11_method_29_code
def yX9_ask : MethodName := ⟨RX9, "ask", "(JI)I"⟩
abbrev cX9_alone : ByteArray := prog_11_method_30_code
def yX9_alone : MethodName := ⟨RX9, "alone", "()I"⟩
abbrev cX9_piles : ByteArray := prog_11_method_31_code
def yX9_piles : MethodName := ⟨RX9, "piles", "(JI)V"⟩
abbrev cX9_descend : ByteArray := prog_11_method_32_code
def yX9_descend : MethodName := ⟨RX9, "descend", "()V"⟩
abbrev cX9_step : ByteArray := prog_11_method_33_code
def yX9_step : MethodName := ⟨RX9, "step", "()I"⟩
abbrev cX9_nodes : ByteArray := prog_11_method_34_code
def yX9_nodes : MethodName := ⟨RX9, "nodes", "()I"⟩
abbrev cX9_splits : ByteArray := prog_11_method_35_code
def yX9_splits : MethodName := ⟨RX9, "splits", "(I)Z"⟩
abbrev cX9_begin : ByteArray := prog_11_method_36_code
def yX9_begin : MethodName := ⟨RX9, "begin", "()I"⟩
abbrev cX9_draw : ByteArray := prog_11_method_37_code
def yX9_draw : MethodName := ⟨RX9, "draw", "(II)I"⟩
abbrev cX9_sleeps : ByteArray := prog_11_method_38_code
def yX9_sleeps : MethodName := ⟨RX9, "sleeps", "(I)V"⟩
abbrev cX9_split : ByteArray := prog_11_method_39_code
def yX9_split : MethodName := ⟨RX9, "split", "()I"⟩
abbrev cX9_frames : ByteArray := prog_11_method_40_code
def yX9_frames : MethodName := ⟨RX9, "frames", "()V"⟩
abbrev cX9_frame : ByteArray := prog_11_method_41_code
def yX9_frame : MethodName := ⟨RX9, "frame", "(I)I"⟩
abbrev cX9_heard : ByteArray := prog_11_method_42_code
def yX9_heard : MethodName := ⟨RX9, "heard", "(I)I"⟩
abbrev cX9_found : ByteArray := prog_11_method_43_code
def yX9_found : MethodName := ⟨RX9, "found", "(I)I"⟩
abbrev cX9_cost : ByteArray := prog_11_method_44_code
def yX9_cost : MethodName := ⟨RX9, "cost", "(I)I"⟩
abbrev cX9_count : ByteArray := prog_11_method_45_code
def yX9_count : MethodName := ⟨RX9, "count", "(I)I"⟩
abbrev cX9_image : ByteArray := prog_11_method_46_code
def yX9_image : MethodName := ⟨RX9, "image", "(I)Z"⟩
abbrev cX9_again : ByteArray := prog_11_method_47_code
def yX9_again : MethodName := ⟨RX9, "again", "(I)Z"⟩
def RJ13 : String := "java/lang/Long"
def TJ13 : u_T := fun k => match k with
  | _ => ("", "", "", false)
def tyJ13 : Nat → FieldType := fun k => match k with
  | _ => .int
abbrev cJ13_bitCount_95d88 : ByteArray := prog_12_method_50_code
def yJ13_bitCount_95d88 : MethodName := ⟨RJ13, "bitCount", "(J)I"⟩
def RJ9 : String := "java/lang/Math"
def TJ9 : u_T := fun k => match k with
  | _ => ("", "", "", false)
def tyJ9 : Nat → FieldType := fun k => match k with
  | _ => .int
abbrev cJ9_max_7cf53 : ByteArray := prog_13_method_65_code
def yJ9_max_7cf53 : MethodName := ⟨RJ9, "max", "(II)I"⟩
abbrev cJ9_min_7cf53 : ByteArray := prog_13_method_69_code
def yJ9_min_7cf53 : MethodName := ⟨RJ9, "min", "(II)I"⟩
def RJ10 : String := "java/lang/System"
def TJ10 : u_T := fun k => match k with
  | _ => ("", "", "", false)
def tyJ10 : Nat → FieldType := fun k => match k with
  | _ => .int
def RJ7 : String := "java/util/Arrays"
def TJ7 : u_T := fun k => match k with
  | _ => ("", "", "", false)
def tyJ7 : Nat → FieldType := fun k => match k with
  | _ => .int
abbrev cJ7_fill_d0a16 : ByteArray := prog_15_method_101_code
def yJ7_fill_d0a16 : MethodName := ⟨RJ7, "fill", "([JJ)V"⟩
abbrev cJ7_fill_53178 : ByteArray := prog_15_method_103_code
def yJ7_fill_53178 : MethodName := ⟨RJ7, "fill", "([II)V"⟩
def RL : String := "RollCallLaw"
abbrev cL_law : ByteArray := code
def yL_law : MethodName := ⟨RL, "law", "([I)Z"⟩
theorem dX0_init_0 : decode cX0_init 0 = .ok (.aload_n 0, 1) := by decide +kernel
theorem dX0_init_1 : decode cX0_init 1 = .ok (.invokespecial 3, 3) := by decide +kernel
theorem dX0_init_4 : decode cX0_init 4 = .ok (.aload_n 0, 1) := by decide +kernel
theorem dX0_init_5 : decode cX0_init 5 = .ok (.bipush 40, 2) := by decide +kernel
theorem dX0_init_7 : decode cX0_init 7 = .ok (.newarray .int, 2) := by decide +kernel
theorem dX0_init_9 : decode cX0_init 9 = .ok (.putfield 9, 3) := by decide +kernel
theorem dX0_init_12 : decode cX0_init 12 = .ok (.aload_n 0, 1) := by decide +kernel
theorem dX0_init_13 : decode cX0_init 13 = .ok (.iconst (-1), 1) := by decide +kernel
theorem dX0_init_14 : decode cX0_init 14 = .ok (.putfield 15, 3) := by decide +kernel
theorem dX0_init_17 : decode cX0_init 17 = .ok (.return_, 1) := by decide +kernel
theorem dX0_start_0 : decode cX0_start 0 = .ok (.aload_n 0, 1) := by decide +kernel
theorem dX0_start_1 : decode cX0_start 1 = .ok (.getfield 9, 3) := by decide +kernel
theorem dX0_start_4 : decode cX0_start 4 = .ok (.iconst 0, 1) := by decide +kernel
theorem dX0_start_5 : decode cX0_start 5 = .ok (.invokestatic 19, 3) := by decide +kernel
theorem dX0_start_8 : decode cX0_start 8 = .ok (.aload_n 0, 1) := by decide +kernel
theorem dX0_start_9 : decode cX0_start 9 = .ok (.lload_n 1, 1) := by decide +kernel
theorem dX0_start_10 : decode cX0_start 10 = .ok (.putfield 25, 3) := by decide +kernel
theorem dX0_start_13 : decode cX0_start 13 = .ok (.aload_n 0, 1) := by decide +kernel
theorem dX0_start_14 : decode cX0_start 14 = .ok (.iconst 0, 1) := by decide +kernel
theorem dX0_start_15 : decode cX0_start 15 = .ok (.putfield 15, 3) := by decide +kernel
theorem dX0_start_18 : decode cX0_start 18 = .ok (.return_, 1) := by decide +kernel
theorem dX0_isUnderWay_0 : decode cX0_isUnderWay 0 = .ok (.aload_n 0, 1) := by decide +kernel
theorem dX0_isUnderWay_1 : decode cX0_isUnderWay 1 = .ok (.getfield 15, 3) := by decide +kernel
theorem dX0_isUnderWay_4 : decode cX0_isUnderWay 4 = .ok (.ifCond .lt 7, 3) := by decide +kernel
theorem dX0_isUnderWay_7 : decode cX0_isUnderWay 7 = .ok (.iconst 1, 1) := by decide +kernel
theorem dX0_isUnderWay_8 : decode cX0_isUnderWay 8 = .ok (.goto 4, 3) := by decide +kernel
theorem dX0_isUnderWay_11 : decode cX0_isUnderWay 11 = .ok (.iconst 0, 1) := by decide +kernel
theorem dX0_isUnderWay_12 : decode cX0_isUnderWay 12 = .ok (.ireturn, 1) := by decide +kernel
theorem dX0_of_0 : decode cX0_of 0 = .ok (.iload_n 1, 1) := by decide +kernel
theorem dX0_of_1 : decode cX0_of 1 = .ok (.ifCond .lt 29, 3) := by decide +kernel
theorem dX0_of_4 : decode cX0_of 4 = .ok (.iload_n 1, 1) := by decide +kernel
theorem dX0_of_5 : decode cX0_of 5 = .ok (.bipush 40, 2) := by decide +kernel
theorem dX0_of_7 : decode cX0_of 7 = .ok (.if_icmp .ge 23, 3) := by decide +kernel
theorem dX0_of_10 : decode cX0_of 10 = .ok (.aload_n 0, 1) := by decide +kernel
theorem dX0_of_11 : decode cX0_of 11 = .ok (.getfield 25, 3) := by decide +kernel
theorem dX0_of_14 : decode cX0_of 14 = .ok (.iload_n 1, 1) := by decide +kernel
theorem dX0_of_15 : decode cX0_of 15 = .ok (.invokestatic 29, 3) := by decide +kernel
theorem dX0_of_18 : decode cX0_of 18 = .ok (.ifCond .eq 12, 3) := by decide +kernel
theorem dX0_of_21 : decode cX0_of 21 = .ok (.aload_n 0, 1) := by decide +kernel
theorem dX0_of_22 : decode cX0_of 22 = .ok (.getfield 9, 3) := by decide +kernel
theorem dX0_of_25 : decode cX0_of 25 = .ok (.iload_n 1, 1) := by decide +kernel
theorem dX0_of_26 : decode cX0_of 26 = .ok (.iaload, 1) := by decide +kernel
theorem dX0_of_27 : decode cX0_of 27 = .ok (.goto 4, 3) := by decide +kernel
theorem dX0_of_30 : decode cX0_of 30 = .ok (.iconst (-1), 1) := by decide +kernel
theorem dX0_of_31 : decode cX0_of 31 = .ok (.ireturn, 1) := by decide +kernel
theorem dX0_put_0 : decode cX0_put 0 = .ok (.iload_n 1, 1) := by decide +kernel
theorem dX0_put_1 : decode cX0_put 1 = .ok (.ifCond .lt 16, 3) := by decide +kernel
theorem dX0_put_4 : decode cX0_put 4 = .ok (.iload_n 1, 1) := by decide +kernel
theorem dX0_put_5 : decode cX0_put 5 = .ok (.bipush 40, 2) := by decide +kernel
theorem dX0_put_7 : decode cX0_put 7 = .ok (.if_icmp .ge 10, 3) := by decide +kernel
theorem dX0_put_10 : decode cX0_put 10 = .ok (.aload_n 0, 1) := by decide +kernel
theorem dX0_put_11 : decode cX0_put 11 = .ok (.getfield 9, 3) := by decide +kernel
theorem dX0_put_14 : decode cX0_put 14 = .ok (.iload_n 1, 1) := by decide +kernel
theorem dX0_put_15 : decode cX0_put 15 = .ok (.iload_n 2, 1) := by decide +kernel
theorem dX0_put_16 : decode cX0_put 16 = .ok (.iastore, 1) := by decide +kernel
theorem dX0_put_17 : decode cX0_put 17 = .ok (.return_, 1) := by decide +kernel
theorem dX0_release_0 : decode cX0_release 0 = .ok (.aload_n 0, 1) := by decide +kernel
theorem dX0_release_1 : decode cX0_release 1 = .ok (.dup, 1) := by decide +kernel
theorem dX0_release_2 : decode cX0_release 2 = .ok (.getfield 25, 3) := by decide +kernel
theorem dX0_release_5 : decode cX0_release 5 = .ok (.iload_n 1, 1) := by decide +kernel
theorem dX0_release_6 : decode cX0_release 6 = .ok (.invokestatic 33, 3) := by decide +kernel
theorem dX0_release_9 : decode cX0_release 9 = .ok (.ldc2_w 37, 3) := by decide +kernel
theorem dX0_release_12 : decode cX0_release 12 = .ok (.lxor, 1) := by decide +kernel
theorem dX0_release_13 : decode cX0_release 13 = .ok (.land, 1) := by decide +kernel
theorem dX0_release_14 : decode cX0_release 14 = .ok (.putfield 25, 3) := by decide +kernel
theorem dX0_release_17 : decode cX0_release 17 = .ok (.return_, 1) := by decide +kernel
theorem dX0_atZero_0 : decode cX0_atZero 0 = .ok (.lconst 0, 1) := by decide +kernel
theorem dX0_atZero_1 : decode cX0_atZero 1 = .ok (.lstore_n 3, 1) := by decide +kernel
theorem dX0_atZero_2 : decode cX0_atZero 2 = .ok (.iconst 0, 1) := by decide +kernel
theorem dX0_atZero_3 : decode cX0_atZero 3 = .ok (.istore 5, 2) := by decide +kernel
theorem dX0_atZero_5 : decode cX0_atZero 5 = .ok (.iload 5, 2) := by decide +kernel
theorem dX0_atZero_7 : decode cX0_atZero 7 = .ok (.bipush 40, 2) := by decide +kernel
theorem dX0_atZero_9 : decode cX0_atZero 9 = .ok (.if_icmp .ge 41, 3) := by decide +kernel
theorem dX0_atZero_12 : decode cX0_atZero 12 = .ok (.lload_n 1, 1) := by decide +kernel
theorem dX0_atZero_13 : decode cX0_atZero 13 = .ok (.aload_n 0, 1) := by decide +kernel
theorem dX0_atZero_14 : decode cX0_atZero 14 = .ok (.getfield 25, 3) := by decide +kernel
theorem dX0_atZero_17 : decode cX0_atZero 17 = .ok (.land, 1) := by decide +kernel
theorem dX0_atZero_18 : decode cX0_atZero 18 = .ok (.iload 5, 2) := by decide +kernel
theorem dX0_atZero_20 : decode cX0_atZero 20 = .ok (.invokestatic 29, 3) := by decide +kernel
theorem dX0_atZero_23 : decode cX0_atZero 23 = .ok (.ifCond .eq 21, 3) := by decide +kernel
theorem dX0_atZero_26 : decode cX0_atZero 26 = .ok (.aload_n 0, 1) := by decide +kernel
theorem dX0_atZero_27 : decode cX0_atZero 27 = .ok (.getfield 9, 3) := by decide +kernel
theorem dX0_atZero_30 : decode cX0_atZero 30 = .ok (.iload 5, 2) := by decide +kernel
theorem dX0_atZero_32 : decode cX0_atZero 32 = .ok (.iaload, 1) := by decide +kernel
theorem dX0_atZero_33 : decode cX0_atZero 33 = .ok (.ifCond .ne 11, 3) := by decide +kernel
theorem dX0_atZero_36 : decode cX0_atZero 36 = .ok (.lload_n 3, 1) := by decide +kernel
theorem dX0_atZero_37 : decode cX0_atZero 37 = .ok (.iload 5, 2) := by decide +kernel
theorem dX0_atZero_39 : decode cX0_atZero 39 = .ok (.invokestatic 33, 3) := by decide +kernel
theorem dX0_atZero_42 : decode cX0_atZero 42 = .ok (.lor, 1) := by decide +kernel
theorem dX0_atZero_43 : decode cX0_atZero 43 = .ok (.lstore_n 3, 1) := by decide +kernel
theorem dX0_atZero_44 : decode cX0_atZero 44 = .ok (.iinc 5 1, 3) := by decide +kernel
theorem dX0_atZero_47 : decode cX0_atZero 47 = .ok (.goto (-42), 3) := by decide +kernel
theorem dX0_atZero_50 : decode cX0_atZero 50 = .ok (.lload_n 3, 1) := by decide +kernel
theorem dX0_atZero_51 : decode cX0_atZero 51 = .ok (.lreturn, 1) := by decide +kernel
theorem dX0_shift_0 : decode cX0_shift 0 = .ok (.iconst 0, 1) := by decide +kernel
theorem dX0_shift_1 : decode cX0_shift 1 = .ok (.istore 4, 2) := by decide +kernel
theorem dX0_shift_3 : decode cX0_shift 3 = .ok (.iload 4, 2) := by decide +kernel
theorem dX0_shift_5 : decode cX0_shift 5 = .ok (.bipush 40, 2) := by decide +kernel
theorem dX0_shift_7 : decode cX0_shift 7 = .ok (.if_icmp .ge 43, 3) := by decide +kernel
theorem dX0_shift_10 : decode cX0_shift 10 = .ok (.lload_n 1, 1) := by decide +kernel
theorem dX0_shift_11 : decode cX0_shift 11 = .ok (.aload_n 0, 1) := by decide +kernel
theorem dX0_shift_12 : decode cX0_shift 12 = .ok (.getfield 25, 3) := by decide +kernel
theorem dX0_shift_15 : decode cX0_shift 15 = .ok (.land, 1) := by decide +kernel
theorem dX0_shift_16 : decode cX0_shift 16 = .ok (.iload 4, 2) := by decide +kernel
theorem dX0_shift_18 : decode cX0_shift 18 = .ok (.invokestatic 29, 3) := by decide +kernel
theorem dX0_shift_21 : decode cX0_shift 21 = .ok (.ifCond .eq 23, 3) := by decide +kernel
theorem dX0_shift_24 : decode cX0_shift 24 = .ok (.aload_n 0, 1) := by decide +kernel
theorem dX0_shift_25 : decode cX0_shift 25 = .ok (.getfield 9, 3) := by decide +kernel
theorem dX0_shift_28 : decode cX0_shift 28 = .ok (.iload 4, 2) := by decide +kernel
theorem dX0_shift_30 : decode cX0_shift 30 = .ok (.iconst 0, 1) := by decide +kernel
theorem dX0_shift_31 : decode cX0_shift 31 = .ok (.aload_n 0, 1) := by decide +kernel
theorem dX0_shift_32 : decode cX0_shift 32 = .ok (.getfield 9, 3) := by decide +kernel
theorem dX0_shift_35 : decode cX0_shift 35 = .ok (.iload 4, 2) := by decide +kernel
theorem dX0_shift_37 : decode cX0_shift 37 = .ok (.iaload, 1) := by decide +kernel
theorem dX0_shift_38 : decode cX0_shift 38 = .ok (.iload_n 3, 1) := by decide +kernel
theorem dX0_shift_39 : decode cX0_shift 39 = .ok (.iadd, 1) := by decide +kernel
theorem dX0_shift_40 : decode cX0_shift 40 = .ok (.invokestatic 39, 3) := by decide +kernel
theorem dX0_shift_43 : decode cX0_shift 43 = .ok (.iastore, 1) := by decide +kernel
theorem dX0_shift_44 : decode cX0_shift 44 = .ok (.iinc 4 1, 3) := by decide +kernel
theorem dX0_shift_47 : decode cX0_shift 47 = .ok (.goto (-44), 3) := by decide +kernel
theorem dX0_shift_50 : decode cX0_shift 50 = .ok (.aload_n 0, 1) := by decide +kernel
theorem dX0_shift_51 : decode cX0_shift 51 = .ok (.dup, 1) := by decide +kernel
theorem dX0_shift_52 : decode cX0_shift 52 = .ok (.getfield 15, 3) := by decide +kernel
theorem dX0_shift_55 : decode cX0_shift 55 = .ok (.iload_n 3, 1) := by decide +kernel
theorem dX0_shift_56 : decode cX0_shift 56 = .ok (.iadd, 1) := by decide +kernel
theorem dX0_shift_57 : decode cX0_shift 57 = .ok (.putfield 15, 3) := by decide +kernel
theorem dX0_shift_60 : decode cX0_shift 60 = .ok (.return_, 1) := by decide +kernel
theorem dX0_copyFrom_0 : decode cX0_copyFrom 0 = .ok (.aload_n 1, 1) := by decide +kernel
theorem dX0_copyFrom_1 : decode cX0_copyFrom 1 = .ok (.getfield 9, 3) := by decide +kernel
theorem dX0_copyFrom_4 : decode cX0_copyFrom 4 = .ok (.iconst 0, 1) := by decide +kernel
theorem dX0_copyFrom_5 : decode cX0_copyFrom 5 = .ok (.aload_n 0, 1) := by decide +kernel
theorem dX0_copyFrom_6 : decode cX0_copyFrom 6 = .ok (.getfield 9, 3) := by decide +kernel
theorem dX0_copyFrom_9 : decode cX0_copyFrom 9 = .ok (.iconst 0, 1) := by decide +kernel
theorem dX0_copyFrom_10 : decode cX0_copyFrom 10 = .ok (.bipush 40, 2) := by decide +kernel
theorem dX0_copyFrom_12 : decode cX0_copyFrom 12 = .ok (.invokestatic 45, 3) := by decide +kernel
theorem dX0_copyFrom_15 : decode cX0_copyFrom 15 = .ok (.aload_n 0, 1) := by decide +kernel
theorem dX0_copyFrom_16 : decode cX0_copyFrom 16 = .ok (.aload_n 1, 1) := by decide +kernel
theorem dX0_copyFrom_17 : decode cX0_copyFrom 17 = .ok (.getfield 25, 3) := by decide +kernel
theorem dX0_copyFrom_20 : decode cX0_copyFrom 20 = .ok (.putfield 25, 3) := by decide +kernel
theorem dX0_copyFrom_23 : decode cX0_copyFrom 23 = .ok (.aload_n 0, 1) := by decide +kernel
theorem dX0_copyFrom_24 : decode cX0_copyFrom 24 = .ok (.aload_n 1, 1) := by decide +kernel
theorem dX0_copyFrom_25 : decode cX0_copyFrom 25 = .ok (.getfield 15, 3) := by decide +kernel
theorem dX0_copyFrom_28 : decode cX0_copyFrom 28 = .ok (.putfield 15, 3) := by decide +kernel
theorem dX0_copyFrom_31 : decode cX0_copyFrom 31 = .ok (.return_, 1) := by decide +kernel
theorem dX1_init_0 : decode cX1_init 0 = .ok (.aload_n 0, 1) := by decide +kernel
theorem dX1_init_1 : decode cX1_init 1 = .ok (.invokespecial 3, 3) := by decide +kernel
theorem dX1_init_4 : decode cX1_init 4 = .ok (.aload_n 0, 1) := by decide +kernel
theorem dX1_init_5 : decode cX1_init 5 = .ok (.bipush 20, 2) := by decide +kernel
theorem dX1_init_7 : decode cX1_init 7 = .ok (.newarray .long, 2) := by decide +kernel
theorem dX1_init_9 : decode cX1_init 9 = .ok (.putfield 9, 3) := by decide +kernel
theorem dX1_init_12 : decode cX1_init 12 = .ok (.aload_n 0, 1) := by decide +kernel
theorem dX1_init_13 : decode cX1_init 13 = .ok (.bipush 20, 2) := by decide +kernel
theorem dX1_init_15 : decode cX1_init 15 = .ok (.newarray .long, 2) := by decide +kernel
theorem dX1_init_17 : decode cX1_init 17 = .ok (.putfield 15, 3) := by decide +kernel
theorem dX1_init_20 : decode cX1_init 20 = .ok (.return_, 1) := by decide +kernel
theorem dX1_admit_0 : decode cX1_admit 0 = .ok (.aload_n 0, 1) := by decide +kernel
theorem dX1_admit_1 : decode cX1_admit 1 = .ok (.getfield 18, 3) := by decide +kernel
theorem dX1_admit_4 : decode cX1_admit 4 = .ok (.bipush 20, 2) := by decide +kernel
theorem dX1_admit_6 : decode cX1_admit 6 = .ok (.if_icmp .ge 23, 3) := by decide +kernel
theorem dX1_admit_9 : decode cX1_admit 9 = .ok (.aload_n 0, 1) := by decide +kernel
theorem dX1_admit_10 : decode cX1_admit 10 = .ok (.getfield 15, 3) := by decide +kernel
theorem dX1_admit_13 : decode cX1_admit 13 = .ok (.aload_n 0, 1) := by decide +kernel
theorem dX1_admit_14 : decode cX1_admit 14 = .ok (.getfield 18, 3) := by decide +kernel
theorem dX1_admit_17 : decode cX1_admit 17 = .ok (.lload_n 1, 1) := by decide +kernel
theorem dX1_admit_18 : decode cX1_admit 18 = .ok (.lastore, 1) := by decide +kernel
theorem dX1_admit_19 : decode cX1_admit 19 = .ok (.aload_n 0, 1) := by decide +kernel
theorem dX1_admit_20 : decode cX1_admit 20 = .ok (.dup, 1) := by decide +kernel
theorem dX1_admit_21 : decode cX1_admit 21 = .ok (.getfield 18, 3) := by decide +kernel
theorem dX1_admit_24 : decode cX1_admit 24 = .ok (.iconst 1, 1) := by decide +kernel
theorem dX1_admit_25 : decode cX1_admit 25 = .ok (.iadd, 1) := by decide +kernel
theorem dX1_admit_26 : decode cX1_admit 26 = .ok (.putfield 18, 3) := by decide +kernel
theorem dX1_admit_29 : decode cX1_admit 29 = .ok (.return_, 1) := by decide +kernel
theorem dX1_at_0 : decode cX1_at 0 = .ok (.iload_n 1, 1) := by decide +kernel
theorem dX1_at_1 : decode cX1_at 1 = .ok (.ifCond .lt 20, 3) := by decide +kernel
theorem dX1_at_4 : decode cX1_at 4 = .ok (.iload_n 1, 1) := by decide +kernel
theorem dX1_at_5 : decode cX1_at 5 = .ok (.aload_n 0, 1) := by decide +kernel
theorem dX1_at_6 : decode cX1_at 6 = .ok (.getfield 22, 3) := by decide +kernel
theorem dX1_at_9 : decode cX1_at 9 = .ok (.if_icmp .ge 12, 3) := by decide +kernel
theorem dX1_at_12 : decode cX1_at 12 = .ok (.aload_n 0, 1) := by decide +kernel
theorem dX1_at_13 : decode cX1_at 13 = .ok (.getfield 9, 3) := by decide +kernel
theorem dX1_at_16 : decode cX1_at 16 = .ok (.iload_n 1, 1) := by decide +kernel
theorem dX1_at_17 : decode cX1_at 17 = .ok (.laload, 1) := by decide +kernel
theorem dX1_at_18 : decode cX1_at 18 = .ok (.goto 4, 3) := by decide +kernel
theorem dX1_at_21 : decode cX1_at 21 = .ok (.lconst 0, 1) := by decide +kernel
theorem dX1_at_22 : decode cX1_at 22 = .ok (.lreturn, 1) := by decide +kernel
theorem dX1_turn_0 : decode cX1_turn 0 = .ok (.aload_n 0, 1) := by decide +kernel
theorem dX1_turn_1 : decode cX1_turn 1 = .ok (.getfield 15, 3) := by decide +kernel
theorem dX1_turn_4 : decode cX1_turn 4 = .ok (.iconst 0, 1) := by decide +kernel
theorem dX1_turn_5 : decode cX1_turn 5 = .ok (.aload_n 0, 1) := by decide +kernel
theorem dX1_turn_6 : decode cX1_turn 6 = .ok (.getfield 9, 3) := by decide +kernel
theorem dX1_turn_9 : decode cX1_turn 9 = .ok (.iconst 0, 1) := by decide +kernel
theorem dX1_turn_10 : decode cX1_turn 10 = .ok (.aload_n 0, 1) := by decide +kernel
theorem dX1_turn_11 : decode cX1_turn 11 = .ok (.getfield 18, 3) := by decide +kernel
theorem dX1_turn_14 : decode cX1_turn 14 = .ok (.invokestatic 25, 3) := by decide +kernel
theorem dX1_turn_17 : decode cX1_turn 17 = .ok (.aload_n 0, 1) := by decide +kernel
theorem dX1_turn_18 : decode cX1_turn 18 = .ok (.aload_n 0, 1) := by decide +kernel
theorem dX1_turn_19 : decode cX1_turn 19 = .ok (.getfield 18, 3) := by decide +kernel
theorem dX1_turn_22 : decode cX1_turn 22 = .ok (.putfield 22, 3) := by decide +kernel
theorem dX1_turn_25 : decode cX1_turn 25 = .ok (.aload_n 0, 1) := by decide +kernel
theorem dX1_turn_26 : decode cX1_turn 26 = .ok (.iconst 0, 1) := by decide +kernel
theorem dX1_turn_27 : decode cX1_turn 27 = .ok (.putfield 18, 3) := by decide +kernel
theorem dX1_turn_30 : decode cX1_turn 30 = .ok (.return_, 1) := by decide +kernel
theorem dX2_init_0 : decode cX2_init 0 = .ok (.aload_n 0, 1) := by decide +kernel
theorem dX2_init_1 : decode cX2_init 1 = .ok (.invokespecial 3, 3) := by decide +kernel
theorem dX2_init_4 : decode cX2_init 4 = .ok (.return_, 1) := by decide +kernel
theorem dX2_startOne_0 : decode cX2_startOne 0 = .ok (.aload_n 0, 1) := by decide +kernel
theorem dX2_startOne_1 : decode cX2_startOne 1 = .ok (.iconst 0, 1) := by decide +kernel
theorem dX2_startOne_2 : decode cX2_startOne 2 = .ok (.putfield 9, 3) := by decide +kernel
theorem dX2_startOne_5 : decode cX2_startOne 5 = .ok (.aload_n 0, 1) := by decide +kernel
theorem dX2_startOne_6 : decode cX2_startOne 6 = .ok (.iconst 0, 1) := by decide +kernel
theorem dX2_startOne_7 : decode cX2_startOne 7 = .ok (.putfield 15, 3) := by decide +kernel
theorem dX2_startOne_10 : decode cX2_startOne 10 = .ok (.aload_n 0, 1) := by decide +kernel
theorem dX2_startOne_11 : decode cX2_startOne 11 = .ok (.iconst 0, 1) := by decide +kernel
theorem dX2_startOne_12 : decode cX2_startOne 12 = .ok (.putfield 18, 3) := by decide +kernel
theorem dX2_startOne_15 : decode cX2_startOne 15 = .ok (.return_, 1) := by decide +kernel
theorem dX2_note_0 : decode cX2_note 0 = .ok (.iload_n 1, 1) := by decide +kernel
theorem dX2_note_1 : decode cX2_note 1 = .ok (.ifCond .ne 16, 3) := by decide +kernel
theorem dX2_note_4 : decode cX2_note 4 = .ok (.aload_n 0, 1) := by decide +kernel
theorem dX2_note_5 : decode cX2_note 5 = .ok (.dup, 1) := by decide +kernel
theorem dX2_note_6 : decode cX2_note 6 = .ok (.getfield 9, 3) := by decide +kernel
theorem dX2_note_9 : decode cX2_note 9 = .ok (.iconst 1, 1) := by decide +kernel
theorem dX2_note_10 : decode cX2_note 10 = .ok (.iadd, 1) := by decide +kernel
theorem dX2_note_11 : decode cX2_note 11 = .ok (.putfield 9, 3) := by decide +kernel
theorem dX2_note_14 : decode cX2_note 14 = .ok (.goto 31, 3) := by decide +kernel
theorem dX2_note_17 : decode cX2_note 17 = .ok (.iload_n 1, 1) := by decide +kernel
theorem dX2_note_18 : decode cX2_note 18 = .ok (.iconst 1, 1) := by decide +kernel
theorem dX2_note_19 : decode cX2_note 19 = .ok (.if_icmp .ne 16, 3) := by decide +kernel
theorem dX2_note_22 : decode cX2_note 22 = .ok (.aload_n 0, 1) := by decide +kernel
theorem dX2_note_23 : decode cX2_note 23 = .ok (.dup, 1) := by decide +kernel
theorem dX2_note_24 : decode cX2_note 24 = .ok (.getfield 15, 3) := by decide +kernel
theorem dX2_note_27 : decode cX2_note 27 = .ok (.iconst 1, 1) := by decide +kernel
theorem dX2_note_28 : decode cX2_note 28 = .ok (.iadd, 1) := by decide +kernel
theorem dX2_note_29 : decode cX2_note 29 = .ok (.putfield 15, 3) := by decide +kernel
theorem dX2_note_32 : decode cX2_note 32 = .ok (.goto 13, 3) := by decide +kernel
theorem dX2_note_35 : decode cX2_note 35 = .ok (.aload_n 0, 1) := by decide +kernel
theorem dX2_note_36 : decode cX2_note 36 = .ok (.dup, 1) := by decide +kernel
theorem dX2_note_37 : decode cX2_note 37 = .ok (.getfield 18, 3) := by decide +kernel
theorem dX2_note_40 : decode cX2_note 40 = .ok (.iconst 1, 1) := by decide +kernel
theorem dX2_note_41 : decode cX2_note 41 = .ok (.iadd, 1) := by decide +kernel
theorem dX2_note_42 : decode cX2_note 42 = .ok (.putfield 18, 3) := by decide +kernel
theorem dX2_note_45 : decode cX2_note 45 = .ok (.return_, 1) := by decide +kernel
theorem dX2_guessNext_0 : decode cX2_guessNext 0 = .ok (.ldc 21, 2) := by decide +kernel
theorem dX2_guessNext_2 : decode cX2_guessNext 2 = .ok (.aload_n 0, 1) := by decide +kernel
theorem dX2_guessNext_3 : decode cX2_guessNext 3 = .ok (.getfield 18, 3) := by decide +kernel
theorem dX2_guessNext_6 : decode cX2_guessNext 6 = .ok (.i2f, 1) := by decide +kernel
theorem dX2_guessNext_7 : decode cX2_guessNext 7 = .ok (.fmul, 1) := by decide +kernel
theorem dX2_guessNext_8 : decode cX2_guessNext 8 = .ok (.f2i, 1) := by decide +kernel
theorem dX2_guessNext_9 : decode cX2_guessNext 9 = .ok (.istore_n 1, 1) := by decide +kernel
theorem dX2_guessNext_10 : decode cX2_guessNext 10 = .ok (.aload_n 0, 1) := by decide +kernel
theorem dX2_guessNext_11 : decode cX2_guessNext 11 = .ok (.iconst 1, 1) := by decide +kernel
theorem dX2_guessNext_12 : decode cX2_guessNext 12 = .ok (.bipush 64, 2) := by decide +kernel
theorem dX2_guessNext_14 : decode cX2_guessNext 14 = .ok (.iload_n 1, 1) := by decide +kernel
theorem dX2_guessNext_15 : decode cX2_guessNext 15 = .ok (.invokestatic 22, 3) := by decide +kernel
theorem dX2_guessNext_18 : decode cX2_guessNext 18 = .ok (.invokestatic 28, 3) := by decide +kernel
theorem dX2_guessNext_21 : decode cX2_guessNext 21 = .ok (.putfield 31, 3) := by decide +kernel
theorem dX2_guessNext_24 : decode cX2_guessNext 24 = .ok (.return_, 1) := by decide +kernel
theorem dX2_copyFrom_0 : decode cX2_copyFrom 0 = .ok (.aload_n 0, 1) := by decide +kernel
theorem dX2_copyFrom_1 : decode cX2_copyFrom 1 = .ok (.aload_n 1, 1) := by decide +kernel
theorem dX2_copyFrom_2 : decode cX2_copyFrom 2 = .ok (.getfield 34, 3) := by decide +kernel
theorem dX2_copyFrom_5 : decode cX2_copyFrom 5 = .ok (.putfield 34, 3) := by decide +kernel
theorem dX2_copyFrom_8 : decode cX2_copyFrom 8 = .ok (.aload_n 0, 1) := by decide +kernel
theorem dX2_copyFrom_9 : decode cX2_copyFrom 9 = .ok (.aload_n 1, 1) := by decide +kernel
theorem dX2_copyFrom_10 : decode cX2_copyFrom 10 = .ok (.getfield 9, 3) := by decide +kernel
theorem dX2_copyFrom_13 : decode cX2_copyFrom 13 = .ok (.putfield 9, 3) := by decide +kernel
theorem dX2_copyFrom_16 : decode cX2_copyFrom 16 = .ok (.aload_n 0, 1) := by decide +kernel
theorem dX2_copyFrom_17 : decode cX2_copyFrom 17 = .ok (.aload_n 1, 1) := by decide +kernel
theorem dX2_copyFrom_18 : decode cX2_copyFrom 18 = .ok (.getfield 15, 3) := by decide +kernel
theorem dX2_copyFrom_21 : decode cX2_copyFrom 21 = .ok (.putfield 15, 3) := by decide +kernel
theorem dX2_copyFrom_24 : decode cX2_copyFrom 24 = .ok (.aload_n 0, 1) := by decide +kernel
theorem dX2_copyFrom_25 : decode cX2_copyFrom 25 = .ok (.aload_n 1, 1) := by decide +kernel
theorem dX2_copyFrom_26 : decode cX2_copyFrom 26 = .ok (.getfield 18, 3) := by decide +kernel
theorem dX2_copyFrom_29 : decode cX2_copyFrom 29 = .ok (.putfield 18, 3) := by decide +kernel
theorem dX2_copyFrom_32 : decode cX2_copyFrom 32 = .ok (.aload_n 0, 1) := by decide +kernel
theorem dX2_copyFrom_33 : decode cX2_copyFrom 33 = .ok (.aload_n 1, 1) := by decide +kernel
theorem dX2_copyFrom_34 : decode cX2_copyFrom 34 = .ok (.getfield 31, 3) := by decide +kernel
theorem dX2_copyFrom_37 : decode cX2_copyFrom 37 = .ok (.putfield 31, 3) := by decide +kernel
theorem dX2_copyFrom_40 : decode cX2_copyFrom 40 = .ok (.return_, 1) := by decide +kernel
theorem dX3_init_0 : decode cX3_init 0 = .ok (.aload_n 0, 1) := by decide +kernel
theorem dX3_init_1 : decode cX3_init 1 = .ok (.invokespecial 3, 3) := by decide +kernel
theorem dX3_init_4 : decode cX3_init 4 = .ok (.aload_n 0, 1) := by decide +kernel
theorem dX3_init_5 : decode cX3_init 5 = .ok (.iconst (-1), 1) := by decide +kernel
theorem dX3_init_6 : decode cX3_init 6 = .ok (.putfield 9, 3) := by decide +kernel
theorem dX3_init_9 : decode cX3_init 9 = .ok (.return_, 1) := by decide +kernel
theorem dX3_wayIsOneAt_0 : decode cX3_wayIsOneAt 0 = .ok (.iload_n 1, 1) := by decide +kernel
theorem dX3_wayIsOneAt_1 : decode cX3_wayIsOneAt 1 = .ok (.aload_n 0, 1) := by decide +kernel
theorem dX3_wayIsOneAt_2 : decode cX3_wayIsOneAt 2 = .ok (.getfield 9, 3) := by decide +kernel
theorem dX3_wayIsOneAt_5 : decode cX3_wayIsOneAt 5 = .ok (.if_icmp .ge 12, 3) := by decide +kernel
theorem dX3_wayIsOneAt_8 : decode cX3_wayIsOneAt 8 = .ok (.aload_n 0, 1) := by decide +kernel
theorem dX3_wayIsOneAt_9 : decode cX3_wayIsOneAt 9 = .ok (.getfield 15, 3) := by decide +kernel
theorem dX3_wayIsOneAt_12 : decode cX3_wayIsOneAt 12 = .ok (.iload_n 1, 1) := by decide +kernel
theorem dX3_wayIsOneAt_13 : decode cX3_wayIsOneAt 13 = .ok (.invokestatic 19, 3) := by decide +kernel
theorem dX3_wayIsOneAt_16 : decode cX3_wayIsOneAt 16 = .ok (.ireturn, 1) := by decide +kernel
theorem dX3_wayIsOneAt_17 : decode cX3_wayIsOneAt 17 = .ok (.iload_n 1, 1) := by decide +kernel
theorem dX3_wayIsOneAt_18 : decode cX3_wayIsOneAt 18 = .ok (.aload_n 0, 1) := by decide +kernel
theorem dX3_wayIsOneAt_19 : decode cX3_wayIsOneAt 19 = .ok (.getfield 9, 3) := by decide +kernel
theorem dX3_wayIsOneAt_22 : decode cX3_wayIsOneAt 22 = .ok (.if_icmp .ne 7, 3) := by decide +kernel
theorem dX3_wayIsOneAt_25 : decode cX3_wayIsOneAt 25 = .ok (.iconst 1, 1) := by decide +kernel
theorem dX3_wayIsOneAt_26 : decode cX3_wayIsOneAt 26 = .ok (.goto 4, 3) := by decide +kernel
theorem dX3_wayIsOneAt_29 : decode cX3_wayIsOneAt 29 = .ok (.iconst 0, 1) := by decide +kernel
theorem dX3_wayIsOneAt_30 : decode cX3_wayIsOneAt 30 = .ok (.ireturn, 1) := by decide +kernel
theorem dX3_goOnFrom_0 : decode cX3_goOnFrom 0 = .ok (.iload_n 1, 1) := by decide +kernel
theorem dX3_goOnFrom_1 : decode cX3_goOnFrom 1 = .ok (.iconst (-1), 1) := by decide +kernel
theorem dX3_goOnFrom_2 : decode cX3_goOnFrom 2 = .ok (.if_icmp .ne 8, 3) := by decide +kernel
theorem dX3_goOnFrom_5 : decode cX3_goOnFrom 5 = .ok (.aload_n 0, 1) := by decide +kernel
theorem dX3_goOnFrom_6 : decode cX3_goOnFrom 6 = .ok (.invokevirtual 23, 3) := by decide +kernel
theorem dX3_goOnFrom_9 : decode cX3_goOnFrom 9 = .ok (.return_, 1) := by decide +kernel
theorem dX3_goOnFrom_10 : decode cX3_goOnFrom 10 = .ok (.aload_n 0, 1) := by decide +kernel
theorem dX3_goOnFrom_11 : decode cX3_goOnFrom 11 = .ok (.iload_n 1, 1) := by decide +kernel
theorem dX3_goOnFrom_12 : decode cX3_goOnFrom 12 = .ok (.putfield 9, 3) := by decide +kernel
theorem dX3_goOnFrom_15 : decode cX3_goOnFrom 15 = .ok (.aload_n 0, 1) := by decide +kernel
theorem dX3_goOnFrom_16 : decode cX3_goOnFrom 16 = .ok (.lload_n 2, 1) := by decide +kernel
theorem dX3_goOnFrom_17 : decode cX3_goOnFrom 17 = .ok (.putfield 15, 3) := by decide +kernel
theorem dX3_goOnFrom_20 : decode cX3_goOnFrom 20 = .ok (.aload_n 0, 1) := by decide +kernel
theorem dX3_goOnFrom_21 : decode cX3_goOnFrom 21 = .ok (.dup, 1) := by decide +kernel
theorem dX3_goOnFrom_22 : decode cX3_goOnFrom 22 = .ok (.getfield 26, 3) := by decide +kernel
theorem dX3_goOnFrom_25 : decode cX3_goOnFrom 25 = .ok (.iconst 1, 1) := by decide +kernel
theorem dX3_goOnFrom_26 : decode cX3_goOnFrom 26 = .ok (.iadd, 1) := by decide +kernel
theorem dX3_goOnFrom_27 : decode cX3_goOnFrom 27 = .ok (.putfield 26, 3) := by decide +kernel
theorem dX3_goOnFrom_30 : decode cX3_goOnFrom 30 = .ok (.return_, 1) := by decide +kernel
theorem dX3_endRow_0 : decode cX3_endRow 0 = .ok (.aload_n 0, 1) := by decide +kernel
theorem dX3_endRow_1 : decode cX3_endRow 1 = .ok (.iconst (-1), 1) := by decide +kernel
theorem dX3_endRow_2 : decode cX3_endRow 2 = .ok (.putfield 9, 3) := by decide +kernel
theorem dX3_endRow_5 : decode cX3_endRow 5 = .ok (.aload_n 0, 1) := by decide +kernel
theorem dX3_endRow_6 : decode cX3_endRow 6 = .ok (.iconst 0, 1) := by decide +kernel
theorem dX3_endRow_7 : decode cX3_endRow 7 = .ok (.putfield 26, 3) := by decide +kernel
theorem dX3_endRow_10 : decode cX3_endRow 10 = .ok (.return_, 1) := by decide +kernel
theorem dX3_copyFrom_0 : decode cX3_copyFrom 0 = .ok (.aload_n 0, 1) := by decide +kernel
theorem dX3_copyFrom_1 : decode cX3_copyFrom 1 = .ok (.aload_n 1, 1) := by decide +kernel
theorem dX3_copyFrom_2 : decode cX3_copyFrom 2 = .ok (.getfield 9, 3) := by decide +kernel
theorem dX3_copyFrom_5 : decode cX3_copyFrom 5 = .ok (.putfield 9, 3) := by decide +kernel
theorem dX3_copyFrom_8 : decode cX3_copyFrom 8 = .ok (.aload_n 0, 1) := by decide +kernel
theorem dX3_copyFrom_9 : decode cX3_copyFrom 9 = .ok (.aload_n 1, 1) := by decide +kernel
theorem dX3_copyFrom_10 : decode cX3_copyFrom 10 = .ok (.getfield 26, 3) := by decide +kernel
theorem dX3_copyFrom_13 : decode cX3_copyFrom 13 = .ok (.putfield 26, 3) := by decide +kernel
theorem dX3_copyFrom_16 : decode cX3_copyFrom 16 = .ok (.aload_n 0, 1) := by decide +kernel
theorem dX3_copyFrom_17 : decode cX3_copyFrom 17 = .ok (.aload_n 1, 1) := by decide +kernel
theorem dX3_copyFrom_18 : decode cX3_copyFrom 18 = .ok (.getfield 15, 3) := by decide +kernel
theorem dX3_copyFrom_21 : decode cX3_copyFrom 21 = .ok (.putfield 15, 3) := by decide +kernel
theorem dX3_copyFrom_24 : decode cX3_copyFrom 24 = .ok (.return_, 1) := by decide +kernel
theorem dX4_init_0 : decode cX4_init 0 = .ok (.aload_n 0, 1) := by decide +kernel
theorem dX4_init_1 : decode cX4_init 1 = .ok (.invokespecial 3, 3) := by decide +kernel
theorem dX4_init_4 : decode cX4_init 4 = .ok (.aload_n 0, 1) := by decide +kernel
theorem dX4_init_5 : decode cX4_init 5 = .ok (.bipush 65, 2) := by decide +kernel
theorem dX4_init_7 : decode cX4_init 7 = .ok (.newarray .long, 2) := by decide +kernel
theorem dX4_init_9 : decode cX4_init 9 = .ok (.putfield 11, 3) := by decide +kernel
theorem dX4_init_12 : decode cX4_init 12 = .ok (.aload_n 0, 1) := by decide +kernel
theorem dX4_init_13 : decode cX4_init 13 = .ok (.bipush 65, 2) := by decide +kernel
theorem dX4_init_15 : decode cX4_init 15 = .ok (.newarray .int, 2) := by decide +kernel
theorem dX4_init_17 : decode cX4_init 17 = .ok (.putfield 15, 3) := by decide +kernel
theorem dX4_init_20 : decode cX4_init 20 = .ok (.return_, 1) := by decide +kernel
theorem dX4_startAnew_0 : decode cX4_startAnew 0 = .ok (.aload_n 0, 1) := by decide +kernel
theorem dX4_startAnew_1 : decode cX4_startAnew 1 = .ok (.iconst 0, 1) := by decide +kernel
theorem dX4_startAnew_2 : decode cX4_startAnew 2 = .ok (.putfield 19, 3) := by decide +kernel
theorem dX4_startAnew_5 : decode cX4_startAnew 5 = .ok (.aload_n 0, 1) := by decide +kernel
theorem dX4_startAnew_6 : decode cX4_startAnew 6 = .ok (.lconst 0, 1) := by decide +kernel
theorem dX4_startAnew_7 : decode cX4_startAnew 7 = .ok (.iconst 0, 1) := by decide +kernel
theorem dX4_startAnew_8 : decode cX4_startAnew 8 = .ok (.invokevirtual 23, 3) := by decide +kernel
theorem dX4_startAnew_11 : decode cX4_startAnew 11 = .ok (.return_, 1) := by decide +kernel
theorem dX4_topRow_0 : decode cX4_topRow 0 = .ok (.aload_n 0, 1) := by decide +kernel
theorem dX4_topRow_1 : decode cX4_topRow 1 = .ok (.getfield 19, 3) := by decide +kernel
theorem dX4_topRow_4 : decode cX4_topRow 4 = .ok (.ifCond .le 17, 3) := by decide +kernel
theorem dX4_topRow_7 : decode cX4_topRow 7 = .ok (.aload_n 0, 1) := by decide +kernel
theorem dX4_topRow_8 : decode cX4_topRow 8 = .ok (.getfield 11, 3) := by decide +kernel
theorem dX4_topRow_11 : decode cX4_topRow 11 = .ok (.aload_n 0, 1) := by decide +kernel
theorem dX4_topRow_12 : decode cX4_topRow 12 = .ok (.getfield 19, 3) := by decide +kernel
theorem dX4_topRow_15 : decode cX4_topRow 15 = .ok (.iconst 1, 1) := by decide +kernel
theorem dX4_topRow_16 : decode cX4_topRow 16 = .ok (.isub, 1) := by decide +kernel
theorem dX4_topRow_17 : decode cX4_topRow 17 = .ok (.laload, 1) := by decide +kernel
theorem dX4_topRow_18 : decode cX4_topRow 18 = .ok (.goto 4, 3) := by decide +kernel
theorem dX4_topRow_21 : decode cX4_topRow 21 = .ok (.lconst 0, 1) := by decide +kernel
theorem dX4_topRow_22 : decode cX4_topRow 22 = .ok (.lreturn, 1) := by decide +kernel
theorem dX4_topLength_0 : decode cX4_topLength 0 = .ok (.aload_n 0, 1) := by decide +kernel
theorem dX4_topLength_1 : decode cX4_topLength 1 = .ok (.getfield 19, 3) := by decide +kernel
theorem dX4_topLength_4 : decode cX4_topLength 4 = .ok (.ifCond .le 17, 3) := by decide +kernel
theorem dX4_topLength_7 : decode cX4_topLength 7 = .ok (.aload_n 0, 1) := by decide +kernel
theorem dX4_topLength_8 : decode cX4_topLength 8 = .ok (.getfield 15, 3) := by decide +kernel
theorem dX4_topLength_11 : decode cX4_topLength 11 = .ok (.aload_n 0, 1) := by decide +kernel
theorem dX4_topLength_12 : decode cX4_topLength 12 = .ok (.getfield 19, 3) := by decide +kernel
theorem dX4_topLength_15 : decode cX4_topLength 15 = .ok (.iconst 1, 1) := by decide +kernel
theorem dX4_topLength_16 : decode cX4_topLength 16 = .ok (.isub, 1) := by decide +kernel
theorem dX4_topLength_17 : decode cX4_topLength 17 = .ok (.iaload, 1) := by decide +kernel
theorem dX4_topLength_18 : decode cX4_topLength 18 = .ok (.goto 4, 3) := by decide +kernel
theorem dX4_topLength_21 : decode cX4_topLength 21 = .ok (.iconst 0, 1) := by decide +kernel
theorem dX4_topLength_22 : decode cX4_topLength 22 = .ok (.ireturn, 1) := by decide +kernel
theorem dX4_dropTop_0 : decode cX4_dropTop 0 = .ok (.aload_n 0, 1) := by decide +kernel
theorem dX4_dropTop_1 : decode cX4_dropTop 1 = .ok (.getfield 19, 3) := by decide +kernel
theorem dX4_dropTop_4 : decode cX4_dropTop 4 = .ok (.ifCond .le 13, 3) := by decide +kernel
theorem dX4_dropTop_7 : decode cX4_dropTop 7 = .ok (.aload_n 0, 1) := by decide +kernel
theorem dX4_dropTop_8 : decode cX4_dropTop 8 = .ok (.dup, 1) := by decide +kernel
theorem dX4_dropTop_9 : decode cX4_dropTop 9 = .ok (.getfield 19, 3) := by decide +kernel
theorem dX4_dropTop_12 : decode cX4_dropTop 12 = .ok (.iconst 1, 1) := by decide +kernel
theorem dX4_dropTop_13 : decode cX4_dropTop 13 = .ok (.isub, 1) := by decide +kernel
theorem dX4_dropTop_14 : decode cX4_dropTop 14 = .ok (.putfield 19, 3) := by decide +kernel
theorem dX4_dropTop_17 : decode cX4_dropTop 17 = .ok (.return_, 1) := by decide +kernel
theorem dX4_addBoth_0 : decode cX4_addBoth 0 = .ok (.iload_n 3, 1) := by decide +kernel
theorem dX4_addBoth_1 : decode cX4_addBoth 1 = .ok (.bipush 64, 2) := by decide +kernel
theorem dX4_addBoth_3 : decode cX4_addBoth 3 = .ok (.if_icmp .ge 26, 3) := by decide +kernel
theorem dX4_addBoth_6 : decode cX4_addBoth 6 = .ok (.aload_n 0, 1) := by decide +kernel
theorem dX4_addBoth_7 : decode cX4_addBoth 7 = .ok (.lload_n 1, 1) := by decide +kernel
theorem dX4_addBoth_8 : decode cX4_addBoth 8 = .ok (.lconst 1, 1) := by decide +kernel
theorem dX4_addBoth_9 : decode cX4_addBoth 9 = .ok (.bipush 63, 2) := by decide +kernel
theorem dX4_addBoth_11 : decode cX4_addBoth 11 = .ok (.iload_n 3, 1) := by decide +kernel
theorem dX4_addBoth_12 : decode cX4_addBoth 12 = .ok (.isub, 1) := by decide +kernel
theorem dX4_addBoth_13 : decode cX4_addBoth 13 = .ok (.lshl, 1) := by decide +kernel
theorem dX4_addBoth_14 : decode cX4_addBoth 14 = .ok (.lor, 1) := by decide +kernel
theorem dX4_addBoth_15 : decode cX4_addBoth 15 = .ok (.iload_n 3, 1) := by decide +kernel
theorem dX4_addBoth_16 : decode cX4_addBoth 16 = .ok (.iconst 1, 1) := by decide +kernel
theorem dX4_addBoth_17 : decode cX4_addBoth 17 = .ok (.iadd, 1) := by decide +kernel
theorem dX4_addBoth_18 : decode cX4_addBoth 18 = .ok (.invokevirtual 23, 3) := by decide +kernel
theorem dX4_addBoth_21 : decode cX4_addBoth 21 = .ok (.aload_n 0, 1) := by decide +kernel
theorem dX4_addBoth_22 : decode cX4_addBoth 22 = .ok (.lload_n 1, 1) := by decide +kernel
theorem dX4_addBoth_23 : decode cX4_addBoth 23 = .ok (.iload_n 3, 1) := by decide +kernel
theorem dX4_addBoth_24 : decode cX4_addBoth 24 = .ok (.iconst 1, 1) := by decide +kernel
theorem dX4_addBoth_25 : decode cX4_addBoth 25 = .ok (.iadd, 1) := by decide +kernel
theorem dX4_addBoth_26 : decode cX4_addBoth 26 = .ok (.invokevirtual 23, 3) := by decide +kernel
theorem dX4_addBoth_29 : decode cX4_addBoth 29 = .ok (.return_, 1) := by decide +kernel
theorem dX4_add_0 : decode cX4_add 0 = .ok (.aload_n 0, 1) := by decide +kernel
theorem dX4_add_1 : decode cX4_add 1 = .ok (.getfield 19, 3) := by decide +kernel
theorem dX4_add_4 : decode cX4_add 4 = .ok (.bipush 65, 2) := by decide +kernel
theorem dX4_add_6 : decode cX4_add 6 = .ok (.if_icmp .ge 33, 3) := by decide +kernel
theorem dX4_add_9 : decode cX4_add 9 = .ok (.aload_n 0, 1) := by decide +kernel
theorem dX4_add_10 : decode cX4_add 10 = .ok (.getfield 11, 3) := by decide +kernel
theorem dX4_add_13 : decode cX4_add 13 = .ok (.aload_n 0, 1) := by decide +kernel
theorem dX4_add_14 : decode cX4_add 14 = .ok (.getfield 19, 3) := by decide +kernel
theorem dX4_add_17 : decode cX4_add 17 = .ok (.lload_n 1, 1) := by decide +kernel
theorem dX4_add_18 : decode cX4_add 18 = .ok (.lastore, 1) := by decide +kernel
theorem dX4_add_19 : decode cX4_add 19 = .ok (.aload_n 0, 1) := by decide +kernel
theorem dX4_add_20 : decode cX4_add 20 = .ok (.getfield 15, 3) := by decide +kernel
theorem dX4_add_23 : decode cX4_add 23 = .ok (.aload_n 0, 1) := by decide +kernel
theorem dX4_add_24 : decode cX4_add 24 = .ok (.getfield 19, 3) := by decide +kernel
theorem dX4_add_27 : decode cX4_add 27 = .ok (.iload_n 3, 1) := by decide +kernel
theorem dX4_add_28 : decode cX4_add 28 = .ok (.iastore, 1) := by decide +kernel
theorem dX4_add_29 : decode cX4_add 29 = .ok (.aload_n 0, 1) := by decide +kernel
theorem dX4_add_30 : decode cX4_add 30 = .ok (.dup, 1) := by decide +kernel
theorem dX4_add_31 : decode cX4_add 31 = .ok (.getfield 19, 3) := by decide +kernel
theorem dX4_add_34 : decode cX4_add 34 = .ok (.iconst 1, 1) := by decide +kernel
theorem dX4_add_35 : decode cX4_add 35 = .ok (.iadd, 1) := by decide +kernel
theorem dX4_add_36 : decode cX4_add 36 = .ok (.putfield 19, 3) := by decide +kernel
theorem dX4_add_39 : decode cX4_add 39 = .ok (.return_, 1) := by decide +kernel
theorem dX4_copyFrom_0 : decode cX4_copyFrom 0 = .ok (.aload_n 1, 1) := by decide +kernel
theorem dX4_copyFrom_1 : decode cX4_copyFrom 1 = .ok (.getfield 11, 3) := by decide +kernel
theorem dX4_copyFrom_4 : decode cX4_copyFrom 4 = .ok (.iconst 0, 1) := by decide +kernel
theorem dX4_copyFrom_5 : decode cX4_copyFrom 5 = .ok (.aload_n 0, 1) := by decide +kernel
theorem dX4_copyFrom_6 : decode cX4_copyFrom 6 = .ok (.getfield 11, 3) := by decide +kernel
theorem dX4_copyFrom_9 : decode cX4_copyFrom 9 = .ok (.iconst 0, 1) := by decide +kernel
theorem dX4_copyFrom_10 : decode cX4_copyFrom 10 = .ok (.bipush 65, 2) := by decide +kernel
theorem dX4_copyFrom_12 : decode cX4_copyFrom 12 = .ok (.invokestatic 27, 3) := by decide +kernel
theorem dX4_copyFrom_15 : decode cX4_copyFrom 15 = .ok (.aload_n 1, 1) := by decide +kernel
theorem dX4_copyFrom_16 : decode cX4_copyFrom 16 = .ok (.getfield 15, 3) := by decide +kernel
theorem dX4_copyFrom_19 : decode cX4_copyFrom 19 = .ok (.iconst 0, 1) := by decide +kernel
theorem dX4_copyFrom_20 : decode cX4_copyFrom 20 = .ok (.aload_n 0, 1) := by decide +kernel
theorem dX4_copyFrom_21 : decode cX4_copyFrom 21 = .ok (.getfield 15, 3) := by decide +kernel
theorem dX4_copyFrom_24 : decode cX4_copyFrom 24 = .ok (.iconst 0, 1) := by decide +kernel
theorem dX4_copyFrom_25 : decode cX4_copyFrom 25 = .ok (.bipush 65, 2) := by decide +kernel
theorem dX4_copyFrom_27 : decode cX4_copyFrom 27 = .ok (.invokestatic 27, 3) := by decide +kernel
theorem dX4_copyFrom_30 : decode cX4_copyFrom 30 = .ok (.aload_n 0, 1) := by decide +kernel
theorem dX4_copyFrom_31 : decode cX4_copyFrom 31 = .ok (.aload_n 1, 1) := by decide +kernel
theorem dX4_copyFrom_32 : decode cX4_copyFrom 32 = .ok (.getfield 19, 3) := by decide +kernel
theorem dX4_copyFrom_35 : decode cX4_copyFrom 35 = .ok (.putfield 19, 3) := by decide +kernel
theorem dX4_copyFrom_38 : decode cX4_copyFrom 38 = .ok (.return_, 1) := by decide +kernel
theorem dX5_init_0 : decode cX5_init 0 = .ok (.aload_n 0, 1) := by decide +kernel
theorem dX5_init_1 : decode cX5_init 1 = .ok (.invokespecial 3, 3) := by decide +kernel
theorem dX5_init_4 : decode cX5_init 4 = .ok (.aload_n 0, 1) := by decide +kernel
theorem dX5_init_5 : decode cX5_init 5 = .ok (.new 9, 3) := by decide +kernel
theorem dX5_init_8 : decode cX5_init 8 = .ok (.dup, 1) := by decide +kernel
theorem dX5_init_9 : decode cX5_init 9 = .ok (.invokespecial 11, 3) := by decide +kernel
theorem dX5_init_12 : decode cX5_init 12 = .ok (.putfield 12, 3) := by decide +kernel
theorem dX5_init_15 : decode cX5_init 15 = .ok (.aload_n 0, 1) := by decide +kernel
theorem dX5_init_16 : decode cX5_init 16 = .ok (.new 18, 3) := by decide +kernel
theorem dX5_init_19 : decode cX5_init 19 = .ok (.dup, 1) := by decide +kernel
theorem dX5_init_20 : decode cX5_init 20 = .ok (.invokespecial 20, 3) := by decide +kernel
theorem dX5_init_23 : decode cX5_init 23 = .ok (.putfield 21, 3) := by decide +kernel
theorem dX5_init_26 : decode cX5_init 26 = .ok (.aload_n 0, 1) := by decide +kernel
theorem dX5_init_27 : decode cX5_init 27 = .ok (.new 25, 3) := by decide +kernel
theorem dX5_init_30 : decode cX5_init 30 = .ok (.dup, 1) := by decide +kernel
theorem dX5_init_31 : decode cX5_init 31 = .ok (.invokespecial 27, 3) := by decide +kernel
theorem dX5_init_34 : decode cX5_init 34 = .ok (.putfield 28, 3) := by decide +kernel
theorem dX5_init_37 : decode cX5_init 37 = .ok (.aload_n 0, 1) := by decide +kernel
theorem dX5_init_38 : decode cX5_init 38 = .ok (.new 32, 3) := by decide +kernel
theorem dX5_init_41 : decode cX5_init 41 = .ok (.dup, 1) := by decide +kernel
theorem dX5_init_42 : decode cX5_init 42 = .ok (.invokespecial 34, 3) := by decide +kernel
theorem dX5_init_45 : decode cX5_init 45 = .ok (.putfield 35, 3) := by decide +kernel
theorem dX5_init_48 : decode cX5_init 48 = .ok (.aload_n 0, 1) := by decide +kernel
theorem dX5_init_49 : decode cX5_init 49 = .ok (.new 39, 3) := by decide +kernel
theorem dX5_init_52 : decode cX5_init 52 = .ok (.dup, 1) := by decide +kernel
theorem dX5_init_53 : decode cX5_init 53 = .ok (.invokespecial 41, 3) := by decide +kernel
theorem dX5_init_56 : decode cX5_init 56 = .ok (.putfield 42, 3) := by decide +kernel
theorem dX5_init_59 : decode cX5_init 59 = .ok (.aload_n 0, 1) := by decide +kernel
theorem dX5_init_60 : decode cX5_init 60 = .ok (.new 46, 3) := by decide +kernel
theorem dX5_init_63 : decode cX5_init 63 = .ok (.dup, 1) := by decide +kernel
theorem dX5_init_64 : decode cX5_init 64 = .ok (.invokespecial 48, 3) := by decide +kernel
theorem dX5_init_67 : decode cX5_init 67 = .ok (.putfield 49, 3) := by decide +kernel
theorem dX5_init_70 : decode cX5_init 70 = .ok (.aload_n 0, 1) := by decide +kernel
theorem dX5_init_71 : decode cX5_init 71 = .ok (.iconst 0, 1) := by decide +kernel
theorem dX5_init_72 : decode cX5_init 72 = .ok (.putfield 53, 3) := by decide +kernel
theorem dX5_init_75 : decode cX5_init 75 = .ok (.aload_n 0, 1) := by decide +kernel
theorem dX5_init_76 : decode cX5_init 76 = .ok (.iconst (-1), 1) := by decide +kernel
theorem dX5_init_77 : decode cX5_init 77 = .ok (.putfield 57, 3) := by decide +kernel
theorem dX5_init_80 : decode cX5_init 80 = .ok (.return_, 1) := by decide +kernel
theorem dX5_copyFrom_0 : decode cX5_copyFrom 0 = .ok (.aload_n 0, 1) := by decide +kernel
theorem dX5_copyFrom_1 : decode cX5_copyFrom 1 = .ok (.getfield 12, 3) := by decide +kernel
theorem dX5_copyFrom_4 : decode cX5_copyFrom 4 = .ok (.aload_n 1, 1) := by decide +kernel
theorem dX5_copyFrom_5 : decode cX5_copyFrom 5 = .ok (.getfield 12, 3) := by decide +kernel
theorem dX5_copyFrom_8 : decode cX5_copyFrom 8 = .ok (.invokevirtual 60, 3) := by decide +kernel
theorem dX5_copyFrom_11 : decode cX5_copyFrom 11 = .ok (.aload_n 0, 1) := by decide +kernel
theorem dX5_copyFrom_12 : decode cX5_copyFrom 12 = .ok (.getfield 21, 3) := by decide +kernel
theorem dX5_copyFrom_15 : decode cX5_copyFrom 15 = .ok (.aload_n 1, 1) := by decide +kernel
theorem dX5_copyFrom_16 : decode cX5_copyFrom 16 = .ok (.getfield 21, 3) := by decide +kernel
theorem dX5_copyFrom_19 : decode cX5_copyFrom 19 = .ok (.invokevirtual 64, 3) := by decide +kernel
theorem dX5_copyFrom_22 : decode cX5_copyFrom 22 = .ok (.aload_n 0, 1) := by decide +kernel
theorem dX5_copyFrom_23 : decode cX5_copyFrom 23 = .ok (.getfield 28, 3) := by decide +kernel
theorem dX5_copyFrom_26 : decode cX5_copyFrom 26 = .ok (.aload_n 1, 1) := by decide +kernel
theorem dX5_copyFrom_27 : decode cX5_copyFrom 27 = .ok (.getfield 28, 3) := by decide +kernel
theorem dX5_copyFrom_30 : decode cX5_copyFrom 30 = .ok (.invokevirtual 67, 3) := by decide +kernel
theorem dX5_copyFrom_33 : decode cX5_copyFrom 33 = .ok (.aload_n 0, 1) := by decide +kernel
theorem dX5_copyFrom_34 : decode cX5_copyFrom 34 = .ok (.getfield 35, 3) := by decide +kernel
theorem dX5_copyFrom_37 : decode cX5_copyFrom 37 = .ok (.aload_n 1, 1) := by decide +kernel
theorem dX5_copyFrom_38 : decode cX5_copyFrom 38 = .ok (.getfield 35, 3) := by decide +kernel
theorem dX5_copyFrom_41 : decode cX5_copyFrom 41 = .ok (.invokevirtual 70, 3) := by decide +kernel
theorem dX5_copyFrom_44 : decode cX5_copyFrom 44 = .ok (.aload_n 0, 1) := by decide +kernel
theorem dX5_copyFrom_45 : decode cX5_copyFrom 45 = .ok (.getfield 42, 3) := by decide +kernel
theorem dX5_copyFrom_48 : decode cX5_copyFrom 48 = .ok (.aload_n 1, 1) := by decide +kernel
theorem dX5_copyFrom_49 : decode cX5_copyFrom 49 = .ok (.getfield 42, 3) := by decide +kernel
theorem dX5_copyFrom_52 : decode cX5_copyFrom 52 = .ok (.invokevirtual 73, 3) := by decide +kernel
theorem dX5_copyFrom_55 : decode cX5_copyFrom 55 = .ok (.aload_n 0, 1) := by decide +kernel
theorem dX5_copyFrom_56 : decode cX5_copyFrom 56 = .ok (.getfield 49, 3) := by decide +kernel
theorem dX5_copyFrom_59 : decode cX5_copyFrom 59 = .ok (.aload_n 1, 1) := by decide +kernel
theorem dX5_copyFrom_60 : decode cX5_copyFrom 60 = .ok (.getfield 49, 3) := by decide +kernel
theorem dX5_copyFrom_63 : decode cX5_copyFrom 63 = .ok (.invokevirtual 76, 3) := by decide +kernel
theorem dX5_copyFrom_66 : decode cX5_copyFrom 66 = .ok (.aload_n 0, 1) := by decide +kernel
theorem dX5_copyFrom_67 : decode cX5_copyFrom 67 = .ok (.aload_n 1, 1) := by decide +kernel
theorem dX5_copyFrom_68 : decode cX5_copyFrom 68 = .ok (.getfield 53, 3) := by decide +kernel
theorem dX5_copyFrom_71 : decode cX5_copyFrom 71 = .ok (.putfield 53, 3) := by decide +kernel
theorem dX5_copyFrom_74 : decode cX5_copyFrom 74 = .ok (.aload_n 0, 1) := by decide +kernel
theorem dX5_copyFrom_75 : decode cX5_copyFrom 75 = .ok (.aload_n 1, 1) := by decide +kernel
theorem dX5_copyFrom_76 : decode cX5_copyFrom 76 = .ok (.getfield 57, 3) := by decide +kernel
theorem dX5_copyFrom_79 : decode cX5_copyFrom 79 = .ok (.putfield 57, 3) := by decide +kernel
theorem dX5_copyFrom_82 : decode cX5_copyFrom 82 = .ok (.return_, 1) := by decide +kernel
theorem dX6_init_0 : decode cX6_init 0 = .ok (.aload_n 0, 1) := by decide +kernel
theorem dX6_init_1 : decode cX6_init 1 = .ok (.invokespecial 3, 3) := by decide +kernel
theorem dX6_init_4 : decode cX6_init 4 = .ok (.aload_n 0, 1) := by decide +kernel
theorem dX6_init_5 : decode cX6_init 5 = .ok (.bipush 40, 2) := by decide +kernel
theorem dX6_init_7 : decode cX6_init 7 = .ok (.newarray .int, 2) := by decide +kernel
theorem dX6_init_9 : decode cX6_init 9 = .ok (.putfield 9, 3) := by decide +kernel
theorem dX6_init_12 : decode cX6_init 12 = .ok (.aload_n 0, 1) := by decide +kernel
theorem dX6_init_13 : decode cX6_init 13 = .ok (.bipush 40, 2) := by decide +kernel
theorem dX6_init_15 : decode cX6_init 15 = .ok (.newarray .long, 2) := by decide +kernel
theorem dX6_init_17 : decode cX6_init 17 = .ok (.putfield 15, 3) := by decide +kernel
theorem dX6_init_20 : decode cX6_init 20 = .ok (.aload_n 0, 1) := by decide +kernel
theorem dX6_init_21 : decode cX6_init 21 = .ok (.bipush 40, 2) := by decide +kernel
theorem dX6_init_23 : decode cX6_init 23 = .ok (.newarray .int, 2) := by decide +kernel
theorem dX6_init_25 : decode cX6_init 25 = .ok (.putfield 19, 3) := by decide +kernel
theorem dX6_init_28 : decode cX6_init 28 = .ok (.aload_n 0, 1) := by decide +kernel
theorem dX6_init_29 : decode cX6_init 29 = .ok (.bipush 64, 2) := by decide +kernel
theorem dX6_init_31 : decode cX6_init 31 = .ok (.newarray .long, 2) := by decide +kernel
theorem dX6_init_33 : decode cX6_init 33 = .ok (.putfield 22, 3) := by decide +kernel
theorem dX6_init_36 : decode cX6_init 36 = .ok (.aload_n 0, 1) := by decide +kernel
theorem dX6_init_37 : decode cX6_init 37 = .ok (.bipush 6, 2) := by decide +kernel
theorem dX6_init_39 : decode cX6_init 39 = .ok (.newarray .long, 2) := by decide +kernel
theorem dX6_init_41 : decode cX6_init 41 = .ok (.putfield 25, 3) := by decide +kernel
theorem dX6_init_44 : decode cX6_init 44 = .ok (.return_, 1) := by decide +kernel
theorem dX6_has_0 : decode cX6_has 0 = .ok (.iload_n 1, 1) := by decide +kernel
theorem dX6_has_1 : decode cX6_has 1 = .ok (.ifCond .lt 15, 3) := by decide +kernel
theorem dX6_has_4 : decode cX6_has 4 = .ok (.iload_n 1, 1) := by decide +kernel
theorem dX6_has_5 : decode cX6_has 5 = .ok (.aload_n 0, 1) := by decide +kernel
theorem dX6_has_6 : decode cX6_has 6 = .ok (.getfield 28, 3) := by decide +kernel
theorem dX6_has_9 : decode cX6_has 9 = .ok (.if_icmp .ge 7, 3) := by decide +kernel
theorem dX6_has_12 : decode cX6_has 12 = .ok (.iconst 1, 1) := by decide +kernel
theorem dX6_has_13 : decode cX6_has 13 = .ok (.goto 4, 3) := by decide +kernel
theorem dX6_has_16 : decode cX6_has 16 = .ok (.iconst 0, 1) := by decide +kernel
theorem dX6_has_17 : decode cX6_has 17 = .ok (.ireturn, 1) := by decide +kernel
theorem dX6_add_0 : decode cX6_add 0 = .ok (.aload_n 0, 1) := by decide +kernel
theorem dX6_add_1 : decode cX6_add 1 = .ok (.getfield 28, 3) := by decide +kernel
theorem dX6_add_4 : decode cX6_add 4 = .ok (.bipush 40, 2) := by decide +kernel
theorem dX6_add_6 : decode cX6_add 6 = .ok (.if_icmp .ge 21, 3) := by decide +kernel
theorem dX6_add_9 : decode cX6_add 9 = .ok (.iload_n 1, 1) := by decide +kernel
theorem dX6_add_10 : decode cX6_add 10 = .ok (.ifCond .lt 17, 3) := by decide +kernel
theorem dX6_add_13 : decode cX6_add 13 = .ok (.iload_n 1, 1) := by decide +kernel
theorem dX6_add_14 : decode cX6_add 14 = .ok (.bipush 6, 2) := by decide +kernel
theorem dX6_add_16 : decode cX6_add 16 = .ok (.if_icmp .ge 11, 3) := by decide +kernel
theorem dX6_add_19 : decode cX6_add 19 = .ok (.aload_n 0, 1) := by decide +kernel
theorem dX6_add_20 : decode cX6_add 20 = .ok (.lload_n 2, 1) := by decide +kernel
theorem dX6_add_21 : decode cX6_add 21 = .ok (.invokevirtual 32, 3) := by decide +kernel
theorem dX6_add_24 : decode cX6_add 24 = .ok (.ifCond .eq 5, 3) := by decide +kernel
theorem dX6_add_27 : decode cX6_add 27 = .ok (.iconst (-1), 1) := by decide +kernel
theorem dX6_add_28 : decode cX6_add 28 = .ok (.ireturn, 1) := by decide +kernel
theorem dX6_add_29 : decode cX6_add 29 = .ok (.aload_n 0, 1) := by decide +kernel
theorem dX6_add_30 : decode cX6_add 30 = .ok (.getfield 28, 3) := by decide +kernel
theorem dX6_add_33 : decode cX6_add 33 = .ok (.istore 5, 2) := by decide +kernel
theorem dX6_add_35 : decode cX6_add 35 = .ok (.aload_n 0, 1) := by decide +kernel
theorem dX6_add_36 : decode cX6_add 36 = .ok (.dup, 1) := by decide +kernel
theorem dX6_add_37 : decode cX6_add 37 = .ok (.getfield 28, 3) := by decide +kernel
theorem dX6_add_40 : decode cX6_add 40 = .ok (.iconst 1, 1) := by decide +kernel
theorem dX6_add_41 : decode cX6_add 41 = .ok (.iadd, 1) := by decide +kernel
theorem dX6_add_42 : decode cX6_add 42 = .ok (.putfield 28, 3) := by decide +kernel
theorem dX6_add_45 : decode cX6_add 45 = .ok (.aload_n 0, 1) := by decide +kernel
theorem dX6_add_46 : decode cX6_add 46 = .ok (.getfield 9, 3) := by decide +kernel
theorem dX6_add_49 : decode cX6_add 49 = .ok (.iload 5, 2) := by decide +kernel
theorem dX6_add_51 : decode cX6_add 51 = .ok (.iload_n 1, 1) := by decide +kernel
theorem dX6_add_52 : decode cX6_add 52 = .ok (.iastore, 1) := by decide +kernel
theorem dX6_add_53 : decode cX6_add 53 = .ok (.aload_n 0, 1) := by decide +kernel
theorem dX6_add_54 : decode cX6_add 54 = .ok (.getfield 15, 3) := by decide +kernel
theorem dX6_add_57 : decode cX6_add 57 = .ok (.iload 5, 2) := by decide +kernel
theorem dX6_add_59 : decode cX6_add 59 = .ok (.lload_n 2, 1) := by decide +kernel
theorem dX6_add_60 : decode cX6_add 60 = .ok (.lastore, 1) := by decide +kernel
theorem dX6_add_61 : decode cX6_add 61 = .ok (.aload_n 0, 1) := by decide +kernel
theorem dX6_add_62 : decode cX6_add 62 = .ok (.getfield 19, 3) := by decide +kernel
theorem dX6_add_65 : decode cX6_add 65 = .ok (.iload 5, 2) := by decide +kernel
theorem dX6_add_67 : decode cX6_add 67 = .ok (.iload 4, 2) := by decide +kernel
theorem dX6_add_69 : decode cX6_add 69 = .ok (.iastore, 1) := by decide +kernel
theorem dX6_add_70 : decode cX6_add 70 = .ok (.aload_n 0, 1) := by decide +kernel
theorem dX6_add_71 : decode cX6_add 71 = .ok (.getfield 25, 3) := by decide +kernel
theorem dX6_add_74 : decode cX6_add 74 = .ok (.iload_n 1, 1) := by decide +kernel
theorem dX6_add_75 : decode cX6_add 75 = .ok (.dup2, 1) := by decide +kernel
theorem dX6_add_76 : decode cX6_add 76 = .ok (.laload, 1) := by decide +kernel
theorem dX6_add_77 : decode cX6_add 77 = .ok (.iload 5, 2) := by decide +kernel
theorem dX6_add_79 : decode cX6_add 79 = .ok (.invokestatic 36, 3) := by decide +kernel
theorem dX6_add_82 : decode cX6_add 82 = .ok (.lor, 1) := by decide +kernel
theorem dX6_add_83 : decode cX6_add 83 = .ok (.lastore, 1) := by decide +kernel
theorem dX6_add_84 : decode cX6_add 84 = .ok (.aload_n 0, 1) := by decide +kernel
theorem dX6_add_85 : decode cX6_add 85 = .ok (.dup, 1) := by decide +kernel
theorem dX6_add_86 : decode cX6_add 86 = .ok (.getfield 40, 3) := by decide +kernel
theorem dX6_add_89 : decode cX6_add 89 = .ok (.iload 5, 2) := by decide +kernel
theorem dX6_add_91 : decode cX6_add 91 = .ok (.invokestatic 36, 3) := by decide +kernel
theorem dX6_add_94 : decode cX6_add 94 = .ok (.lor, 1) := by decide +kernel
theorem dX6_add_95 : decode cX6_add 95 = .ok (.putfield 40, 3) := by decide +kernel
theorem dX6_add_98 : decode cX6_add 98 = .ok (.iload_n 1, 1) := by decide +kernel
theorem dX6_add_99 : decode cX6_add 99 = .ok (.iconst 4, 1) := by decide +kernel
theorem dX6_add_100 : decode cX6_add 100 = .ok (.if_icmp .eq 17, 3) := by decide +kernel
theorem dX6_add_103 : decode cX6_add 103 = .ok (.aload_n 0, 1) := by decide +kernel
theorem dX6_add_104 : decode cX6_add 104 = .ok (.dup, 1) := by decide +kernel
theorem dX6_add_105 : decode cX6_add 105 = .ok (.getfield 44, 3) := by decide +kernel
theorem dX6_add_108 : decode cX6_add 108 = .ok (.iload 5, 2) := by decide +kernel
theorem dX6_add_110 : decode cX6_add 110 = .ok (.invokestatic 36, 3) := by decide +kernel
theorem dX6_add_113 : decode cX6_add 113 = .ok (.lor, 1) := by decide +kernel
theorem dX6_add_114 : decode cX6_add 114 = .ok (.putfield 44, 3) := by decide +kernel
theorem dX6_add_117 : decode cX6_add 117 = .ok (.aload_n 0, 1) := by decide +kernel
theorem dX6_add_118 : decode cX6_add 118 = .ok (.lload_n 2, 1) := by decide +kernel
theorem dX6_add_119 : decode cX6_add 119 = .ok (.invokevirtual 47, 3) := by decide +kernel
theorem dX6_add_122 : decode cX6_add 122 = .ok (.ifCond .eq 17, 3) := by decide +kernel
theorem dX6_add_125 : decode cX6_add 125 = .ok (.aload_n 0, 1) := by decide +kernel
theorem dX6_add_126 : decode cX6_add 126 = .ok (.dup, 1) := by decide +kernel
theorem dX6_add_127 : decode cX6_add 127 = .ok (.getfield 50, 3) := by decide +kernel
theorem dX6_add_130 : decode cX6_add 130 = .ok (.iload 5, 2) := by decide +kernel
theorem dX6_add_132 : decode cX6_add 132 = .ok (.invokestatic 36, 3) := by decide +kernel
theorem dX6_add_135 : decode cX6_add 135 = .ok (.lor, 1) := by decide +kernel
theorem dX6_add_136 : decode cX6_add 136 = .ok (.putfield 50, 3) := by decide +kernel
theorem dX6_add_139 : decode cX6_add 139 = .ok (.aload_n 0, 1) := by decide +kernel
theorem dX6_add_140 : decode cX6_add 140 = .ok (.iload 5, 2) := by decide +kernel
theorem dX6_add_142 : decode cX6_add 142 = .ok (.lload_n 2, 1) := by decide +kernel
theorem dX6_add_143 : decode cX6_add 143 = .ok (.invokevirtual 53, 3) := by decide +kernel
theorem dX6_add_146 : decode cX6_add 146 = .ok (.iload 5, 2) := by decide +kernel
theorem dX6_add_148 : decode cX6_add 148 = .ok (.ireturn, 1) := by decide +kernel
theorem dX6_noteOnes_0 : decode cX6_noteOnes 0 = .ok (.iconst 0, 1) := by decide +kernel
theorem dX6_noteOnes_1 : decode cX6_noteOnes 1 = .ok (.istore 4, 2) := by decide +kernel
theorem dX6_noteOnes_3 : decode cX6_noteOnes 3 = .ok (.iload 4, 2) := by decide +kernel
theorem dX6_noteOnes_5 : decode cX6_noteOnes 5 = .ok (.bipush 64, 2) := by decide +kernel
theorem dX6_noteOnes_7 : decode cX6_noteOnes 7 = .ok (.if_icmp .ge 32, 3) := by decide +kernel
theorem dX6_noteOnes_10 : decode cX6_noteOnes 10 = .ok (.lload_n 2, 1) := by decide +kernel
theorem dX6_noteOnes_11 : decode cX6_noteOnes 11 = .ok (.iload 4, 2) := by decide +kernel
theorem dX6_noteOnes_13 : decode cX6_noteOnes 13 = .ok (.invokestatic 57, 3) := by decide +kernel
theorem dX6_noteOnes_16 : decode cX6_noteOnes 16 = .ok (.ifCond .eq 17, 3) := by decide +kernel
theorem dX6_noteOnes_19 : decode cX6_noteOnes 19 = .ok (.aload_n 0, 1) := by decide +kernel
theorem dX6_noteOnes_20 : decode cX6_noteOnes 20 = .ok (.getfield 22, 3) := by decide +kernel
theorem dX6_noteOnes_23 : decode cX6_noteOnes 23 = .ok (.iload 4, 2) := by decide +kernel
theorem dX6_noteOnes_25 : decode cX6_noteOnes 25 = .ok (.dup2, 1) := by decide +kernel
theorem dX6_noteOnes_26 : decode cX6_noteOnes 26 = .ok (.laload, 1) := by decide +kernel
theorem dX6_noteOnes_27 : decode cX6_noteOnes 27 = .ok (.iload_n 1, 1) := by decide +kernel
theorem dX6_noteOnes_28 : decode cX6_noteOnes 28 = .ok (.invokestatic 36, 3) := by decide +kernel
theorem dX6_noteOnes_31 : decode cX6_noteOnes 31 = .ok (.lor, 1) := by decide +kernel
theorem dX6_noteOnes_32 : decode cX6_noteOnes 32 = .ok (.lastore, 1) := by decide +kernel
theorem dX6_noteOnes_33 : decode cX6_noteOnes 33 = .ok (.iinc 4 1, 3) := by decide +kernel
theorem dX6_noteOnes_36 : decode cX6_noteOnes 36 = .ok (.goto (-33), 3) := by decide +kernel
theorem dX6_noteOnes_39 : decode cX6_noteOnes 39 = .ok (.return_, 1) := by decide +kernel
theorem dX6_isTaken_0 : decode cX6_isTaken 0 = .ok (.iconst 0, 1) := by decide +kernel
theorem dX6_isTaken_1 : decode cX6_isTaken 1 = .ok (.istore_n 3, 1) := by decide +kernel
theorem dX6_isTaken_2 : decode cX6_isTaken 2 = .ok (.iload_n 3, 1) := by decide +kernel
theorem dX6_isTaken_3 : decode cX6_isTaken 3 = .ok (.aload_n 0, 1) := by decide +kernel
theorem dX6_isTaken_4 : decode cX6_isTaken 4 = .ok (.getfield 28, 3) := by decide +kernel
theorem dX6_isTaken_7 : decode cX6_isTaken 7 = .ok (.if_icmp .ge 22, 3) := by decide +kernel
theorem dX6_isTaken_10 : decode cX6_isTaken 10 = .ok (.aload_n 0, 1) := by decide +kernel
theorem dX6_isTaken_11 : decode cX6_isTaken 11 = .ok (.getfield 15, 3) := by decide +kernel
theorem dX6_isTaken_14 : decode cX6_isTaken 14 = .ok (.iload_n 3, 1) := by decide +kernel
theorem dX6_isTaken_15 : decode cX6_isTaken 15 = .ok (.laload, 1) := by decide +kernel
theorem dX6_isTaken_16 : decode cX6_isTaken 16 = .ok (.lload_n 1, 1) := by decide +kernel
theorem dX6_isTaken_17 : decode cX6_isTaken 17 = .ok (.lcmp, 1) := by decide +kernel
theorem dX6_isTaken_18 : decode cX6_isTaken 18 = .ok (.ifCond .ne 5, 3) := by decide +kernel
theorem dX6_isTaken_21 : decode cX6_isTaken 21 = .ok (.iconst 1, 1) := by decide +kernel
theorem dX6_isTaken_22 : decode cX6_isTaken 22 = .ok (.ireturn, 1) := by decide +kernel
theorem dX6_isTaken_23 : decode cX6_isTaken 23 = .ok (.iinc 3 1, 3) := by decide +kernel
theorem dX6_isTaken_26 : decode cX6_isTaken 26 = .ok (.goto (-24), 3) := by decide +kernel
theorem dX6_isTaken_29 : decode cX6_isTaken 29 = .ok (.iconst 0, 1) := by decide +kernel
theorem dX6_isTaken_30 : decode cX6_isTaken 30 = .ok (.ireturn, 1) := by decide +kernel
theorem dX6_isOfGroup_0 : decode cX6_isOfGroup 0 = .ok (.lload_n 1, 1) := by decide +kernel
theorem dX6_isOfGroup_1 : decode cX6_isOfGroup 1 = .ok (.aload_n 0, 1) := by decide +kernel
theorem dX6_isOfGroup_2 : decode cX6_isOfGroup 2 = .ok (.getfield 61, 3) := by decide +kernel
theorem dX6_isOfGroup_5 : decode cX6_isOfGroup 5 = .ok (.land, 1) := by decide +kernel
theorem dX6_isOfGroup_6 : decode cX6_isOfGroup 6 = .ok (.aload_n 0, 1) := by decide +kernel
theorem dX6_isOfGroup_7 : decode cX6_isOfGroup 7 = .ok (.getfield 64, 3) := by decide +kernel
theorem dX6_isOfGroup_10 : decode cX6_isOfGroup 10 = .ok (.lcmp, 1) := by decide +kernel
theorem dX6_isOfGroup_11 : decode cX6_isOfGroup 11 = .ok (.ifCond .ne 7, 3) := by decide +kernel
theorem dX6_isOfGroup_14 : decode cX6_isOfGroup 14 = .ok (.iconst 1, 1) := by decide +kernel
theorem dX6_isOfGroup_15 : decode cX6_isOfGroup 15 = .ok (.goto 4, 3) := by decide +kernel
theorem dX6_isOfGroup_18 : decode cX6_isOfGroup 18 = .ok (.iconst 0, 1) := by decide +kernel
theorem dX6_isOfGroup_19 : decode cX6_isOfGroup 19 = .ok (.ireturn, 1) := by decide +kernel
theorem dX6_regroup_0 : decode cX6_regroup 0 = .ok (.aload_n 0, 1) := by decide +kernel
theorem dX6_regroup_1 : decode cX6_regroup 1 = .ok (.lload_n 1, 1) := by decide +kernel
theorem dX6_regroup_2 : decode cX6_regroup 2 = .ok (.putfield 61, 3) := by decide +kernel
theorem dX6_regroup_5 : decode cX6_regroup 5 = .ok (.aload_n 0, 1) := by decide +kernel
theorem dX6_regroup_6 : decode cX6_regroup 6 = .ok (.lload_n 3, 1) := by decide +kernel
theorem dX6_regroup_7 : decode cX6_regroup 7 = .ok (.lload_n 1, 1) := by decide +kernel
theorem dX6_regroup_8 : decode cX6_regroup 8 = .ok (.land, 1) := by decide +kernel
theorem dX6_regroup_9 : decode cX6_regroup 9 = .ok (.putfield 64, 3) := by decide +kernel
theorem dX6_regroup_12 : decode cX6_regroup 12 = .ok (.aload_n 0, 1) := by decide +kernel
theorem dX6_regroup_13 : decode cX6_regroup 13 = .ok (.lconst 0, 1) := by decide +kernel
theorem dX6_regroup_14 : decode cX6_regroup 14 = .ok (.putfield 50, 3) := by decide +kernel
theorem dX6_regroup_17 : decode cX6_regroup 17 = .ok (.iconst 0, 1) := by decide +kernel
theorem dX6_regroup_18 : decode cX6_regroup 18 = .ok (.istore 5, 2) := by decide +kernel
theorem dX6_regroup_20 : decode cX6_regroup 20 = .ok (.iload 5, 2) := by decide +kernel
theorem dX6_regroup_22 : decode cX6_regroup 22 = .ok (.aload_n 0, 1) := by decide +kernel
theorem dX6_regroup_23 : decode cX6_regroup 23 = .ok (.getfield 28, 3) := by decide +kernel
theorem dX6_regroup_26 : decode cX6_regroup 26 = .ok (.if_icmp .ge 37, 3) := by decide +kernel
theorem dX6_regroup_29 : decode cX6_regroup 29 = .ok (.aload_n 0, 1) := by decide +kernel
theorem dX6_regroup_30 : decode cX6_regroup 30 = .ok (.aload_n 0, 1) := by decide +kernel
theorem dX6_regroup_31 : decode cX6_regroup 31 = .ok (.getfield 15, 3) := by decide +kernel
theorem dX6_regroup_34 : decode cX6_regroup 34 = .ok (.iload 5, 2) := by decide +kernel
theorem dX6_regroup_36 : decode cX6_regroup 36 = .ok (.laload, 1) := by decide +kernel
theorem dX6_regroup_37 : decode cX6_regroup 37 = .ok (.invokevirtual 47, 3) := by decide +kernel
theorem dX6_regroup_40 : decode cX6_regroup 40 = .ok (.ifCond .eq 17, 3) := by decide +kernel
theorem dX6_regroup_43 : decode cX6_regroup 43 = .ok (.aload_n 0, 1) := by decide +kernel
theorem dX6_regroup_44 : decode cX6_regroup 44 = .ok (.dup, 1) := by decide +kernel
theorem dX6_regroup_45 : decode cX6_regroup 45 = .ok (.getfield 50, 3) := by decide +kernel
theorem dX6_regroup_48 : decode cX6_regroup 48 = .ok (.iload 5, 2) := by decide +kernel
theorem dX6_regroup_50 : decode cX6_regroup 50 = .ok (.invokestatic 36, 3) := by decide +kernel
theorem dX6_regroup_53 : decode cX6_regroup 53 = .ok (.lor, 1) := by decide +kernel
theorem dX6_regroup_54 : decode cX6_regroup 54 = .ok (.putfield 50, 3) := by decide +kernel
theorem dX6_regroup_57 : decode cX6_regroup 57 = .ok (.iinc 5 1, 3) := by decide +kernel
theorem dX6_regroup_60 : decode cX6_regroup 60 = .ok (.goto (-40), 3) := by decide +kernel
theorem dX6_regroup_63 : decode cX6_regroup 63 = .ok (.return_, 1) := by decide +kernel
theorem dX6_setThere_0 : decode cX6_setThere 0 = .ok (.aload_n 0, 1) := by decide +kernel
theorem dX6_setThere_1 : decode cX6_setThere 1 = .ok (.getfield 40, 3) := by decide +kernel
theorem dX6_setThere_4 : decode cX6_setThere 4 = .ok (.iload_n 1, 1) := by decide +kernel
theorem dX6_setThere_5 : decode cX6_setThere 5 = .ok (.invokestatic 67, 3) := by decide +kernel
theorem dX6_setThere_8 : decode cX6_setThere 8 = .ok (.iload_n 2, 1) := by decide +kernel
theorem dX6_setThere_9 : decode cX6_setThere 9 = .ok (.if_icmp .ne 5, 3) := by decide +kernel
theorem dX6_setThere_12 : decode cX6_setThere 12 = .ok (.iconst 0, 1) := by decide +kernel
theorem dX6_setThere_13 : decode cX6_setThere 13 = .ok (.ireturn, 1) := by decide +kernel
theorem dX6_setThere_14 : decode cX6_setThere 14 = .ok (.aload_n 0, 1) := by decide +kernel
theorem dX6_setThere_15 : decode cX6_setThere 15 = .ok (.dup, 1) := by decide +kernel
theorem dX6_setThere_16 : decode cX6_setThere 16 = .ok (.getfield 40, 3) := by decide +kernel
theorem dX6_setThere_19 : decode cX6_setThere 19 = .ok (.iload_n 1, 1) := by decide +kernel
theorem dX6_setThere_20 : decode cX6_setThere 20 = .ok (.invokestatic 36, 3) := by decide +kernel
theorem dX6_setThere_23 : decode cX6_setThere 23 = .ok (.lxor, 1) := by decide +kernel
theorem dX6_setThere_24 : decode cX6_setThere 24 = .ok (.putfield 40, 3) := by decide +kernel
theorem dX6_setThere_27 : decode cX6_setThere 27 = .ok (.iconst 1, 1) := by decide +kernel
theorem dX6_setThere_28 : decode cX6_setThere 28 = .ok (.ireturn, 1) := by decide +kernel
theorem dX6_setAwake_0 : decode cX6_setAwake 0 = .ok (.aload_n 0, 1) := by decide +kernel
theorem dX6_setAwake_1 : decode cX6_setAwake 1 = .ok (.getfield 44, 3) := by decide +kernel
theorem dX6_setAwake_4 : decode cX6_setAwake 4 = .ok (.iload_n 1, 1) := by decide +kernel
theorem dX6_setAwake_5 : decode cX6_setAwake 5 = .ok (.invokestatic 67, 3) := by decide +kernel
theorem dX6_setAwake_8 : decode cX6_setAwake 8 = .ok (.iload_n 2, 1) := by decide +kernel
theorem dX6_setAwake_9 : decode cX6_setAwake 9 = .ok (.if_icmp .ne 5, 3) := by decide +kernel
theorem dX6_setAwake_12 : decode cX6_setAwake 12 = .ok (.iconst 0, 1) := by decide +kernel
theorem dX6_setAwake_13 : decode cX6_setAwake 13 = .ok (.ireturn, 1) := by decide +kernel
theorem dX6_setAwake_14 : decode cX6_setAwake 14 = .ok (.aload_n 0, 1) := by decide +kernel
theorem dX6_setAwake_15 : decode cX6_setAwake 15 = .ok (.dup, 1) := by decide +kernel
theorem dX6_setAwake_16 : decode cX6_setAwake 16 = .ok (.getfield 44, 3) := by decide +kernel
theorem dX6_setAwake_19 : decode cX6_setAwake 19 = .ok (.iload_n 1, 1) := by decide +kernel
theorem dX6_setAwake_20 : decode cX6_setAwake 20 = .ok (.invokestatic 36, 3) := by decide +kernel
theorem dX6_setAwake_23 : decode cX6_setAwake 23 = .ok (.lxor, 1) := by decide +kernel
theorem dX6_setAwake_24 : decode cX6_setAwake 24 = .ok (.putfield 44, 3) := by decide +kernel
theorem dX6_setAwake_27 : decode cX6_setAwake 27 = .ok (.iconst 1, 1) := by decide +kernel
theorem dX6_setAwake_28 : decode cX6_setAwake 28 = .ok (.ireturn, 1) := by decide +kernel
theorem dX6_tire_0 : decode cX6_tire 0 = .ok (.aload_n 0, 1) := by decide +kernel
theorem dX6_tire_1 : decode cX6_tire 1 = .ok (.dup, 1) := by decide +kernel
theorem dX6_tire_2 : decode cX6_tire 2 = .ok (.getfield 44, 3) := by decide +kernel
theorem dX6_tire_5 : decode cX6_tire 5 = .ok (.iload_n 1, 1) := by decide +kernel
theorem dX6_tire_6 : decode cX6_tire 6 = .ok (.invokestatic 36, 3) := by decide +kernel
theorem dX6_tire_9 : decode cX6_tire 9 = .ok (.aload_n 0, 1) := by decide +kernel
theorem dX6_tire_10 : decode cX6_tire 10 = .ok (.getfield 25, 3) := by decide +kernel
theorem dX6_tire_13 : decode cX6_tire 13 = .ok (.iconst 4, 1) := by decide +kernel
theorem dX6_tire_14 : decode cX6_tire 14 = .ok (.laload, 1) := by decide +kernel
theorem dX6_tire_15 : decode cX6_tire 15 = .ok (.land, 1) := by decide +kernel
theorem dX6_tire_16 : decode cX6_tire 16 = .ok (.ldc2_w 70, 3) := by decide +kernel
theorem dX6_tire_19 : decode cX6_tire 19 = .ok (.lxor, 1) := by decide +kernel
theorem dX6_tire_20 : decode cX6_tire 20 = .ok (.land, 1) := by decide +kernel
theorem dX6_tire_21 : decode cX6_tire 21 = .ok (.putfield 44, 3) := by decide +kernel
theorem dX6_tire_24 : decode cX6_tire 24 = .ok (.return_, 1) := by decide +kernel
theorem dX6_listening_0 : decode cX6_listening 0 = .ok (.aload_n 0, 1) := by decide +kernel
theorem dX6_listening_1 : decode cX6_listening 1 = .ok (.getfield 40, 3) := by decide +kernel
theorem dX6_listening_4 : decode cX6_listening 4 = .ok (.aload_n 0, 1) := by decide +kernel
theorem dX6_listening_5 : decode cX6_listening 5 = .ok (.getfield 44, 3) := by decide +kernel
theorem dX6_listening_8 : decode cX6_listening 8 = .ok (.land, 1) := by decide +kernel
theorem dX6_listening_9 : decode cX6_listening 9 = .ok (.aload_n 0, 1) := by decide +kernel
theorem dX6_listening_10 : decode cX6_listening 10 = .ok (.getfield 50, 3) := by decide +kernel
theorem dX6_listening_13 : decode cX6_listening 13 = .ok (.land, 1) := by decide +kernel
theorem dX6_listening_14 : decode cX6_listening 14 = .ok (.lreturn, 1) := by decide +kernel
theorem dX6_asked_0 : decode cX6_asked 0 = .ok (.aload_n 0, 1) := by decide +kernel
theorem dX6_asked_1 : decode cX6_asked 1 = .ok (.invokevirtual 72, 3) := by decide +kernel
theorem dX6_asked_4 : decode cX6_asked 4 = .ok (.aload_n 0, 1) := by decide +kernel
theorem dX6_asked_5 : decode cX6_asked 5 = .ok (.getfield 25, 3) := by decide +kernel
theorem dX6_asked_8 : decode cX6_asked 8 = .ok (.iconst 0, 1) := by decide +kernel
theorem dX6_asked_9 : decode cX6_asked 9 = .ok (.laload, 1) := by decide +kernel
theorem dX6_asked_10 : decode cX6_asked 10 = .ok (.ldc2_w 70, 3) := by decide +kernel
theorem dX6_asked_13 : decode cX6_asked 13 = .ok (.lxor, 1) := by decide +kernel
theorem dX6_asked_14 : decode cX6_asked 14 = .ok (.land, 1) := by decide +kernel
theorem dX6_asked_15 : decode cX6_asked 15 = .ok (.lreturn, 1) := by decide +kernel
theorem dX6_slotted_0 : decode cX6_slotted 0 = .ok (.aload_n 0, 1) := by decide +kernel
theorem dX6_slotted_1 : decode cX6_slotted 1 = .ok (.invokevirtual 72, 3) := by decide +kernel
theorem dX6_slotted_4 : decode cX6_slotted 4 = .ok (.aload_n 0, 1) := by decide +kernel
theorem dX6_slotted_5 : decode cX6_slotted 5 = .ok (.getfield 25, 3) := by decide +kernel
theorem dX6_slotted_8 : decode cX6_slotted 8 = .ok (.iconst 2, 1) := by decide +kernel
theorem dX6_slotted_9 : decode cX6_slotted 9 = .ok (.laload, 1) := by decide +kernel
theorem dX6_slotted_10 : decode cX6_slotted 10 = .ok (.aload_n 0, 1) := by decide +kernel
theorem dX6_slotted_11 : decode cX6_slotted 11 = .ok (.getfield 25, 3) := by decide +kernel
theorem dX6_slotted_14 : decode cX6_slotted 14 = .ok (.iconst 3, 1) := by decide +kernel
theorem dX6_slotted_15 : decode cX6_slotted 15 = .ok (.laload, 1) := by decide +kernel
theorem dX6_slotted_16 : decode cX6_slotted 16 = .ok (.lor, 1) := by decide +kernel
theorem dX6_slotted_17 : decode cX6_slotted 17 = .ok (.aload_n 0, 1) := by decide +kernel
theorem dX6_slotted_18 : decode cX6_slotted 18 = .ok (.getfield 25, 3) := by decide +kernel
theorem dX6_slotted_21 : decode cX6_slotted 21 = .ok (.iconst 4, 1) := by decide +kernel
theorem dX6_slotted_22 : decode cX6_slotted 22 = .ok (.laload, 1) := by decide +kernel
theorem dX6_slotted_23 : decode cX6_slotted 23 = .ok (.lor, 1) := by decide +kernel
theorem dX6_slotted_24 : decode cX6_slotted 24 = .ok (.aload_n 0, 1) := by decide +kernel
theorem dX6_slotted_25 : decode cX6_slotted 25 = .ok (.getfield 25, 3) := by decide +kernel
theorem dX6_slotted_28 : decode cX6_slotted 28 = .ok (.iconst 5, 1) := by decide +kernel
theorem dX6_slotted_29 : decode cX6_slotted 29 = .ok (.laload, 1) := by decide +kernel
theorem dX6_slotted_30 : decode cX6_slotted 30 = .ok (.lor, 1) := by decide +kernel
theorem dX6_slotted_31 : decode cX6_slotted 31 = .ok (.land, 1) := by decide +kernel
theorem dX6_slotted_32 : decode cX6_slotted 32 = .ok (.lreturn, 1) := by decide +kernel
theorem dX6_splitting_0 : decode cX6_splitting 0 = .ok (.aload_n 0, 1) := by decide +kernel
theorem dX6_splitting_1 : decode cX6_splitting 1 = .ok (.invokevirtual 72, 3) := by decide +kernel
theorem dX6_splitting_4 : decode cX6_splitting 4 = .ok (.aload_n 0, 1) := by decide +kernel
theorem dX6_splitting_5 : decode cX6_splitting 5 = .ok (.getfield 25, 3) := by decide +kernel
theorem dX6_splitting_8 : decode cX6_splitting 8 = .ok (.iconst 3, 1) := by decide +kernel
theorem dX6_splitting_9 : decode cX6_splitting 9 = .ok (.laload, 1) := by decide +kernel
theorem dX6_splitting_10 : decode cX6_splitting 10 = .ok (.aload_n 0, 1) := by decide +kernel
theorem dX6_splitting_11 : decode cX6_splitting 11 = .ok (.getfield 25, 3) := by decide +kernel
theorem dX6_splitting_14 : decode cX6_splitting 14 = .ok (.iconst 4, 1) := by decide +kernel
theorem dX6_splitting_15 : decode cX6_splitting 15 = .ok (.laload, 1) := by decide +kernel
theorem dX6_splitting_16 : decode cX6_splitting 16 = .ok (.lor, 1) := by decide +kernel
theorem dX6_splitting_17 : decode cX6_splitting 17 = .ok (.land, 1) := by decide +kernel
theorem dX6_splitting_18 : decode cX6_splitting 18 = .ok (.lreturn, 1) := by decide +kernel
theorem dX6_tellingOne_0 : decode cX6_tellingOne 0 = .ok (.iload_n 3, 1) := by decide +kernel
theorem dX6_tellingOne_1 : decode cX6_tellingOne 1 = .ok (.ifCond .lt 20, 3) := by decide +kernel
theorem dX6_tellingOne_4 : decode cX6_tellingOne 4 = .ok (.iload_n 3, 1) := by decide +kernel
theorem dX6_tellingOne_5 : decode cX6_tellingOne 5 = .ok (.bipush 64, 2) := by decide +kernel
theorem dX6_tellingOne_7 : decode cX6_tellingOne 7 = .ok (.if_icmp .ge 14, 3) := by decide +kernel
theorem dX6_tellingOne_10 : decode cX6_tellingOne 10 = .ok (.lload_n 1, 1) := by decide +kernel
theorem dX6_tellingOne_11 : decode cX6_tellingOne 11 = .ok (.aload_n 0, 1) := by decide +kernel
theorem dX6_tellingOne_12 : decode cX6_tellingOne 12 = .ok (.getfield 22, 3) := by decide +kernel
theorem dX6_tellingOne_15 : decode cX6_tellingOne 15 = .ok (.iload_n 3, 1) := by decide +kernel
theorem dX6_tellingOne_16 : decode cX6_tellingOne 16 = .ok (.laload, 1) := by decide +kernel
theorem dX6_tellingOne_17 : decode cX6_tellingOne 17 = .ok (.land, 1) := by decide +kernel
theorem dX6_tellingOne_18 : decode cX6_tellingOne 18 = .ok (.goto 4, 3) := by decide +kernel
theorem dX6_tellingOne_21 : decode cX6_tellingOne 21 = .ok (.lconst 0, 1) := by decide +kernel
theorem dX6_tellingOne_22 : decode cX6_tellingOne 22 = .ok (.lreturn, 1) := by decide +kernel
theorem dX6_beginningWith_0 : decode cX6_beginningWith 0 = .ok (.aload_n 0, 1) := by decide +kernel
theorem dX6_beginningWith_1 : decode cX6_beginningWith 1 = .ok (.invokevirtual 76, 3) := by decide +kernel
theorem dX6_beginningWith_4 : decode cX6_beginningWith 4 = .ok (.lstore 4, 2) := by decide +kernel
theorem dX6_beginningWith_6 : decode cX6_beginningWith 6 = .ok (.iconst 0, 1) := by decide +kernel
theorem dX6_beginningWith_7 : decode cX6_beginningWith 7 = .ok (.istore 6, 2) := by decide +kernel
theorem dX6_beginningWith_9 : decode cX6_beginningWith 9 = .ok (.iload 6, 2) := by decide +kernel
theorem dX6_beginningWith_11 : decode cX6_beginningWith 11 = .ok (.iload_n 3, 1) := by decide +kernel
theorem dX6_beginningWith_12 : decode cX6_beginningWith 12 = .ok (.if_icmp .ge 51, 3) := by decide +kernel
theorem dX6_beginningWith_15 : decode cX6_beginningWith 15 = .ok (.lload 4, 2) := by decide +kernel
theorem dX6_beginningWith_17 : decode cX6_beginningWith 17 = .ok (.lconst 0, 1) := by decide +kernel
theorem dX6_beginningWith_18 : decode cX6_beginningWith 18 = .ok (.lcmp, 1) := by decide +kernel
theorem dX6_beginningWith_19 : decode cX6_beginningWith 19 = .ok (.ifCond .eq 44, 3) := by decide +kernel
theorem dX6_beginningWith_22 : decode cX6_beginningWith 22 = .ok (.aload_n 0, 1) := by decide +kernel
theorem dX6_beginningWith_23 : decode cX6_beginningWith 23 = .ok (.lload 4, 2) := by decide +kernel
theorem dX6_beginningWith_25 : decode cX6_beginningWith 25 = .ok (.iload 6, 2) := by decide +kernel
theorem dX6_beginningWith_27 : decode cX6_beginningWith 27 = .ok (.invokevirtual 79, 3) := by decide +kernel
theorem dX6_beginningWith_30 : decode cX6_beginningWith 30 = .ok (.lstore 7, 2) := by decide +kernel
theorem dX6_beginningWith_32 : decode cX6_beginningWith 32 = .ok (.lload_n 1, 1) := by decide +kernel
theorem dX6_beginningWith_33 : decode cX6_beginningWith 33 = .ok (.iload 6, 2) := by decide +kernel
theorem dX6_beginningWith_35 : decode cX6_beginningWith 35 = .ok (.invokestatic 57, 3) := by decide +kernel
theorem dX6_beginningWith_38 : decode cX6_beginningWith 38 = .ok (.ifCond .eq 8, 3) := by decide +kernel
theorem dX6_beginningWith_41 : decode cX6_beginningWith 41 = .ok (.lload 7, 2) := by decide +kernel
theorem dX6_beginningWith_43 : decode cX6_beginningWith 43 = .ok (.goto 12, 3) := by decide +kernel
theorem dX6_beginningWith_46 : decode cX6_beginningWith 46 = .ok (.lload 4, 2) := by decide +kernel
theorem dX6_beginningWith_48 : decode cX6_beginningWith 48 = .ok (.lload 7, 2) := by decide +kernel
theorem dX6_beginningWith_50 : decode cX6_beginningWith 50 = .ok (.ldc2_w 70, 3) := by decide +kernel
theorem dX6_beginningWith_53 : decode cX6_beginningWith 53 = .ok (.lxor, 1) := by decide +kernel
theorem dX6_beginningWith_54 : decode cX6_beginningWith 54 = .ok (.land, 1) := by decide +kernel
theorem dX6_beginningWith_55 : decode cX6_beginningWith 55 = .ok (.lstore 4, 2) := by decide +kernel
theorem dX6_beginningWith_57 : decode cX6_beginningWith 57 = .ok (.iinc 6 1, 3) := by decide +kernel
theorem dX6_beginningWith_60 : decode cX6_beginningWith 60 = .ok (.goto (-51), 3) := by decide +kernel
theorem dX6_beginningWith_63 : decode cX6_beginningWith 63 = .ok (.lload 4, 2) := by decide +kernel
theorem dX6_beginningWith_65 : decode cX6_beginningWith 65 = .ok (.lreturn, 1) := by decide +kernel
theorem dX6_draw_0 : decode cX6_draw 0 = .ok (.aload_n 0, 1) := by decide +kernel
theorem dX6_draw_1 : decode cX6_draw 1 = .ok (.iload_n 1, 1) := by decide +kernel
theorem dX6_draw_2 : decode cX6_draw 2 = .ok (.invokevirtual 83, 3) := by decide +kernel
theorem dX6_draw_5 : decode cX6_draw 5 = .ok (.ifCond .eq 8, 3) := by decide +kernel
theorem dX6_draw_8 : decode cX6_draw 8 = .ok (.iload_n 2, 1) := by decide +kernel
theorem dX6_draw_9 : decode cX6_draw 9 = .ok (.iconst 1, 1) := by decide +kernel
theorem dX6_draw_10 : decode cX6_draw 10 = .ok (.if_icmp .ge 5, 3) := by decide +kernel
theorem dX6_draw_13 : decode cX6_draw 13 = .ok (.iconst 0, 1) := by decide +kernel
theorem dX6_draw_14 : decode cX6_draw 14 = .ok (.ireturn, 1) := by decide +kernel
theorem dX6_draw_15 : decode cX6_draw 15 = .ok (.aload_n 0, 1) := by decide +kernel
theorem dX6_draw_16 : decode cX6_draw 16 = .ok (.getfield 19, 3) := by decide +kernel
theorem dX6_draw_19 : decode cX6_draw 19 = .ok (.iload_n 1, 1) := by decide +kernel
theorem dX6_draw_20 : decode cX6_draw 20 = .ok (.ldc 87, 2) := by decide +kernel
theorem dX6_draw_22 : decode cX6_draw 22 = .ok (.aload_n 0, 1) := by decide +kernel
theorem dX6_draw_23 : decode cX6_draw 23 = .ok (.getfield 19, 3) := by decide +kernel
theorem dX6_draw_26 : decode cX6_draw 26 = .ok (.iload_n 1, 1) := by decide +kernel
theorem dX6_draw_27 : decode cX6_draw 27 = .ok (.iaload, 1) := by decide +kernel
theorem dX6_draw_28 : decode cX6_draw 28 = .ok (.imul, 1) := by decide +kernel
theorem dX6_draw_29 : decode cX6_draw 29 = .ok (.sipush 12345, 3) := by decide +kernel
theorem dX6_draw_32 : decode cX6_draw 32 = .ok (.iadd, 1) := by decide +kernel
theorem dX6_draw_33 : decode cX6_draw 33 = .ok (.iastore, 1) := by decide +kernel
theorem dX6_draw_34 : decode cX6_draw 34 = .ok (.aload_n 0, 1) := by decide +kernel
theorem dX6_draw_35 : decode cX6_draw 35 = .ok (.getfield 19, 3) := by decide +kernel
theorem dX6_draw_38 : decode cX6_draw 38 = .ok (.iload_n 1, 1) := by decide +kernel
theorem dX6_draw_39 : decode cX6_draw 39 = .ok (.iaload, 1) := by decide +kernel
theorem dX6_draw_40 : decode cX6_draw 40 = .ok (.bipush 16, 2) := by decide +kernel
theorem dX6_draw_42 : decode cX6_draw 42 = .ok (.iushr, 1) := by decide +kernel
theorem dX6_draw_43 : decode cX6_draw 43 = .ok (.iload_n 2, 1) := by decide +kernel
theorem dX6_draw_44 : decode cX6_draw 44 = .ok (.irem, 1) := by decide +kernel
theorem dX6_draw_45 : decode cX6_draw 45 = .ok (.ireturn, 1) := by decide +kernel
theorem dX6_copyFrom_0 : decode cX6_copyFrom 0 = .ok (.aload_n 1, 1) := by decide +kernel
theorem dX6_copyFrom_1 : decode cX6_copyFrom 1 = .ok (.getfield 9, 3) := by decide +kernel
theorem dX6_copyFrom_4 : decode cX6_copyFrom 4 = .ok (.iconst 0, 1) := by decide +kernel
theorem dX6_copyFrom_5 : decode cX6_copyFrom 5 = .ok (.aload_n 0, 1) := by decide +kernel
theorem dX6_copyFrom_6 : decode cX6_copyFrom 6 = .ok (.getfield 9, 3) := by decide +kernel
theorem dX6_copyFrom_9 : decode cX6_copyFrom 9 = .ok (.iconst 0, 1) := by decide +kernel
theorem dX6_copyFrom_10 : decode cX6_copyFrom 10 = .ok (.bipush 40, 2) := by decide +kernel
theorem dX6_copyFrom_12 : decode cX6_copyFrom 12 = .ok (.invokestatic 88, 3) := by decide +kernel
theorem dX6_copyFrom_15 : decode cX6_copyFrom 15 = .ok (.aload_n 1, 1) := by decide +kernel
theorem dX6_copyFrom_16 : decode cX6_copyFrom 16 = .ok (.getfield 15, 3) := by decide +kernel
theorem dX6_copyFrom_19 : decode cX6_copyFrom 19 = .ok (.iconst 0, 1) := by decide +kernel
theorem dX6_copyFrom_20 : decode cX6_copyFrom 20 = .ok (.aload_n 0, 1) := by decide +kernel
theorem dX6_copyFrom_21 : decode cX6_copyFrom 21 = .ok (.getfield 15, 3) := by decide +kernel
theorem dX6_copyFrom_24 : decode cX6_copyFrom 24 = .ok (.iconst 0, 1) := by decide +kernel
theorem dX6_copyFrom_25 : decode cX6_copyFrom 25 = .ok (.bipush 40, 2) := by decide +kernel
theorem dX6_copyFrom_27 : decode cX6_copyFrom 27 = .ok (.invokestatic 88, 3) := by decide +kernel
theorem dX6_copyFrom_30 : decode cX6_copyFrom 30 = .ok (.aload_n 1, 1) := by decide +kernel
theorem dX6_copyFrom_31 : decode cX6_copyFrom 31 = .ok (.getfield 19, 3) := by decide +kernel
theorem dX6_copyFrom_34 : decode cX6_copyFrom 34 = .ok (.iconst 0, 1) := by decide +kernel
theorem dX6_copyFrom_35 : decode cX6_copyFrom 35 = .ok (.aload_n 0, 1) := by decide +kernel
theorem dX6_copyFrom_36 : decode cX6_copyFrom 36 = .ok (.getfield 19, 3) := by decide +kernel
theorem dX6_copyFrom_39 : decode cX6_copyFrom 39 = .ok (.iconst 0, 1) := by decide +kernel
theorem dX6_copyFrom_40 : decode cX6_copyFrom 40 = .ok (.bipush 40, 2) := by decide +kernel
theorem dX6_copyFrom_42 : decode cX6_copyFrom 42 = .ok (.invokestatic 88, 3) := by decide +kernel
theorem dX6_copyFrom_45 : decode cX6_copyFrom 45 = .ok (.aload_n 1, 1) := by decide +kernel
theorem dX6_copyFrom_46 : decode cX6_copyFrom 46 = .ok (.getfield 22, 3) := by decide +kernel
theorem dX6_copyFrom_49 : decode cX6_copyFrom 49 = .ok (.iconst 0, 1) := by decide +kernel
theorem dX6_copyFrom_50 : decode cX6_copyFrom 50 = .ok (.aload_n 0, 1) := by decide +kernel
theorem dX6_copyFrom_51 : decode cX6_copyFrom 51 = .ok (.getfield 22, 3) := by decide +kernel
theorem dX6_copyFrom_54 : decode cX6_copyFrom 54 = .ok (.iconst 0, 1) := by decide +kernel
theorem dX6_copyFrom_55 : decode cX6_copyFrom 55 = .ok (.bipush 64, 2) := by decide +kernel
theorem dX6_copyFrom_57 : decode cX6_copyFrom 57 = .ok (.invokestatic 88, 3) := by decide +kernel
theorem dX6_copyFrom_60 : decode cX6_copyFrom 60 = .ok (.aload_n 1, 1) := by decide +kernel
theorem dX6_copyFrom_61 : decode cX6_copyFrom 61 = .ok (.getfield 25, 3) := by decide +kernel
theorem dX6_copyFrom_64 : decode cX6_copyFrom 64 = .ok (.iconst 0, 1) := by decide +kernel
theorem dX6_copyFrom_65 : decode cX6_copyFrom 65 = .ok (.aload_n 0, 1) := by decide +kernel
theorem dX6_copyFrom_66 : decode cX6_copyFrom 66 = .ok (.getfield 25, 3) := by decide +kernel
theorem dX6_copyFrom_69 : decode cX6_copyFrom 69 = .ok (.iconst 0, 1) := by decide +kernel
theorem dX6_copyFrom_70 : decode cX6_copyFrom 70 = .ok (.bipush 6, 2) := by decide +kernel
theorem dX6_copyFrom_72 : decode cX6_copyFrom 72 = .ok (.invokestatic 88, 3) := by decide +kernel
theorem dX6_copyFrom_75 : decode cX6_copyFrom 75 = .ok (.aload_n 0, 1) := by decide +kernel
theorem dX6_copyFrom_76 : decode cX6_copyFrom 76 = .ok (.aload_n 1, 1) := by decide +kernel
theorem dX6_copyFrom_77 : decode cX6_copyFrom 77 = .ok (.getfield 28, 3) := by decide +kernel
theorem dX6_copyFrom_80 : decode cX6_copyFrom 80 = .ok (.putfield 28, 3) := by decide +kernel
theorem dX6_copyFrom_83 : decode cX6_copyFrom 83 = .ok (.aload_n 0, 1) := by decide +kernel
theorem dX6_copyFrom_84 : decode cX6_copyFrom 84 = .ok (.aload_n 1, 1) := by decide +kernel
theorem dX6_copyFrom_85 : decode cX6_copyFrom 85 = .ok (.getfield 40, 3) := by decide +kernel
theorem dX6_copyFrom_88 : decode cX6_copyFrom 88 = .ok (.putfield 40, 3) := by decide +kernel
theorem dX6_copyFrom_91 : decode cX6_copyFrom 91 = .ok (.aload_n 0, 1) := by decide +kernel
theorem dX6_copyFrom_92 : decode cX6_copyFrom 92 = .ok (.aload_n 1, 1) := by decide +kernel
theorem dX6_copyFrom_93 : decode cX6_copyFrom 93 = .ok (.getfield 44, 3) := by decide +kernel
theorem dX6_copyFrom_96 : decode cX6_copyFrom 96 = .ok (.putfield 44, 3) := by decide +kernel
theorem dX6_copyFrom_99 : decode cX6_copyFrom 99 = .ok (.aload_n 0, 1) := by decide +kernel
theorem dX6_copyFrom_100 : decode cX6_copyFrom 100 = .ok (.aload_n 1, 1) := by decide +kernel
theorem dX6_copyFrom_101 : decode cX6_copyFrom 101 = .ok (.getfield 50, 3) := by decide +kernel
theorem dX6_copyFrom_104 : decode cX6_copyFrom 104 = .ok (.putfield 50, 3) := by decide +kernel
theorem dX6_copyFrom_107 : decode cX6_copyFrom 107 = .ok (.aload_n 0, 1) := by decide +kernel
theorem dX6_copyFrom_108 : decode cX6_copyFrom 108 = .ok (.aload_n 1, 1) := by decide +kernel
theorem dX6_copyFrom_109 : decode cX6_copyFrom 109 = .ok (.getfield 61, 3) := by decide +kernel
theorem dX6_copyFrom_112 : decode cX6_copyFrom 112 = .ok (.putfield 61, 3) := by decide +kernel
theorem dX6_copyFrom_115 : decode cX6_copyFrom 115 = .ok (.aload_n 0, 1) := by decide +kernel
theorem dX6_copyFrom_116 : decode cX6_copyFrom 116 = .ok (.aload_n 1, 1) := by decide +kernel
theorem dX6_copyFrom_117 : decode cX6_copyFrom 117 = .ok (.getfield 64, 3) := by decide +kernel
theorem dX6_copyFrom_120 : decode cX6_copyFrom 120 = .ok (.putfield 64, 3) := by decide +kernel
theorem dX6_copyFrom_123 : decode cX6_copyFrom 123 = .ok (.return_, 1) := by decide +kernel
theorem dX7_init_0 : decode cX7_init 0 = .ok (.aload_n 0, 1) := by decide +kernel
theorem dX7_init_1 : decode cX7_init 1 = .ok (.invokespecial 3, 3) := by decide +kernel
theorem dX7_init_4 : decode cX7_init 4 = .ok (.aload_n 0, 1) := by decide +kernel
theorem dX7_init_5 : decode cX7_init 5 = .ok (.sipush 200, 3) := by decide +kernel
theorem dX7_init_8 : decode cX7_init 8 = .ok (.newarray .int, 2) := by decide +kernel
theorem dX7_init_10 : decode cX7_init 10 = .ok (.putfield 9, 3) := by decide +kernel
theorem dX7_init_13 : decode cX7_init 13 = .ok (.return_, 1) := by decide +kernel
theorem dX7_addFound_0 : decode cX7_addFound 0 = .ok (.aload_n 0, 1) := by decide +kernel
theorem dX7_addFound_1 : decode cX7_addFound 1 = .ok (.getfield 15, 3) := by decide +kernel
theorem dX7_addFound_4 : decode cX7_addFound 4 = .ok (.sipush 200, 3) := by decide +kernel
theorem dX7_addFound_7 : decode cX7_addFound 7 = .ok (.if_icmp .ge 23, 3) := by decide +kernel
theorem dX7_addFound_10 : decode cX7_addFound 10 = .ok (.aload_n 0, 1) := by decide +kernel
theorem dX7_addFound_11 : decode cX7_addFound 11 = .ok (.getfield 9, 3) := by decide +kernel
theorem dX7_addFound_14 : decode cX7_addFound 14 = .ok (.aload_n 0, 1) := by decide +kernel
theorem dX7_addFound_15 : decode cX7_addFound 15 = .ok (.getfield 15, 3) := by decide +kernel
theorem dX7_addFound_18 : decode cX7_addFound 18 = .ok (.iload_n 1, 1) := by decide +kernel
theorem dX7_addFound_19 : decode cX7_addFound 19 = .ok (.iastore, 1) := by decide +kernel
theorem dX7_addFound_20 : decode cX7_addFound 20 = .ok (.aload_n 0, 1) := by decide +kernel
theorem dX7_addFound_21 : decode cX7_addFound 21 = .ok (.dup, 1) := by decide +kernel
theorem dX7_addFound_22 : decode cX7_addFound 22 = .ok (.getfield 15, 3) := by decide +kernel
theorem dX7_addFound_25 : decode cX7_addFound 25 = .ok (.iconst 1, 1) := by decide +kernel
theorem dX7_addFound_26 : decode cX7_addFound 26 = .ok (.iadd, 1) := by decide +kernel
theorem dX7_addFound_27 : decode cX7_addFound 27 = .ok (.putfield 15, 3) := by decide +kernel
theorem dX7_addFound_30 : decode cX7_addFound 30 = .ok (.return_, 1) := by decide +kernel
theorem dX7_foundAt_0 : decode cX7_foundAt 0 = .ok (.iload_n 1, 1) := by decide +kernel
theorem dX7_foundAt_1 : decode cX7_foundAt 1 = .ok (.ifCond .lt 20, 3) := by decide +kernel
theorem dX7_foundAt_4 : decode cX7_foundAt 4 = .ok (.iload_n 1, 1) := by decide +kernel
theorem dX7_foundAt_5 : decode cX7_foundAt 5 = .ok (.aload_n 0, 1) := by decide +kernel
theorem dX7_foundAt_6 : decode cX7_foundAt 6 = .ok (.getfield 15, 3) := by decide +kernel
theorem dX7_foundAt_9 : decode cX7_foundAt 9 = .ok (.if_icmp .ge 12, 3) := by decide +kernel
theorem dX7_foundAt_12 : decode cX7_foundAt 12 = .ok (.aload_n 0, 1) := by decide +kernel
theorem dX7_foundAt_13 : decode cX7_foundAt 13 = .ok (.getfield 9, 3) := by decide +kernel
theorem dX7_foundAt_16 : decode cX7_foundAt 16 = .ok (.iload_n 1, 1) := by decide +kernel
theorem dX7_foundAt_17 : decode cX7_foundAt 17 = .ok (.iaload, 1) := by decide +kernel
theorem dX7_foundAt_18 : decode cX7_foundAt 18 = .ok (.goto 4, 3) := by decide +kernel
theorem dX7_foundAt_21 : decode cX7_foundAt 21 = .ok (.iconst (-1), 1) := by decide +kernel
theorem dX7_foundAt_22 : decode cX7_foundAt 22 = .ok (.ireturn, 1) := by decide +kernel
theorem dX7_timesFound_0 : decode cX7_timesFound 0 = .ok (.iconst 0, 1) := by decide +kernel
theorem dX7_timesFound_1 : decode cX7_timesFound 1 = .ok (.istore_n 2, 1) := by decide +kernel
theorem dX7_timesFound_2 : decode cX7_timesFound 2 = .ok (.iconst 0, 1) := by decide +kernel
theorem dX7_timesFound_3 : decode cX7_timesFound 3 = .ok (.istore_n 3, 1) := by decide +kernel
theorem dX7_timesFound_4 : decode cX7_timesFound 4 = .ok (.iload_n 3, 1) := by decide +kernel
theorem dX7_timesFound_5 : decode cX7_timesFound 5 = .ok (.aload_n 0, 1) := by decide +kernel
theorem dX7_timesFound_6 : decode cX7_timesFound 6 = .ok (.getfield 15, 3) := by decide +kernel
theorem dX7_timesFound_9 : decode cX7_timesFound 9 = .ok (.if_icmp .ge 22, 3) := by decide +kernel
theorem dX7_timesFound_12 : decode cX7_timesFound 12 = .ok (.aload_n 0, 1) := by decide +kernel
theorem dX7_timesFound_13 : decode cX7_timesFound 13 = .ok (.getfield 9, 3) := by decide +kernel
theorem dX7_timesFound_16 : decode cX7_timesFound 16 = .ok (.iload_n 3, 1) := by decide +kernel
theorem dX7_timesFound_17 : decode cX7_timesFound 17 = .ok (.iaload, 1) := by decide +kernel
theorem dX7_timesFound_18 : decode cX7_timesFound 18 = .ok (.iload_n 1, 1) := by decide +kernel
theorem dX7_timesFound_19 : decode cX7_timesFound 19 = .ok (.if_icmp .ne 6, 3) := by decide +kernel
theorem dX7_timesFound_22 : decode cX7_timesFound 22 = .ok (.iinc 2 1, 3) := by decide +kernel
theorem dX7_timesFound_25 : decode cX7_timesFound 25 = .ok (.iinc 3 1, 3) := by decide +kernel
theorem dX7_timesFound_28 : decode cX7_timesFound 28 = .ok (.goto (-24), 3) := by decide +kernel
theorem dX7_timesFound_31 : decode cX7_timesFound 31 = .ok (.iload_n 2, 1) := by decide +kernel
theorem dX7_timesFound_32 : decode cX7_timesFound 32 = .ok (.ireturn, 1) := by decide +kernel
theorem dX7_addSlot_0 : decode cX7_addSlot 0 = .ok (.iload_n 1, 1) := by decide +kernel
theorem dX7_addSlot_1 : decode cX7_addSlot 1 = .ok (.ifCond .ne 16, 3) := by decide +kernel
theorem dX7_addSlot_4 : decode cX7_addSlot 4 = .ok (.aload_n 0, 1) := by decide +kernel
theorem dX7_addSlot_5 : decode cX7_addSlot 5 = .ok (.dup, 1) := by decide +kernel
theorem dX7_addSlot_6 : decode cX7_addSlot 6 = .ok (.getfield 19, 3) := by decide +kernel
theorem dX7_addSlot_9 : decode cX7_addSlot 9 = .ok (.iconst 1, 1) := by decide +kernel
theorem dX7_addSlot_10 : decode cX7_addSlot 10 = .ok (.iadd, 1) := by decide +kernel
theorem dX7_addSlot_11 : decode cX7_addSlot 11 = .ok (.putfield 19, 3) := by decide +kernel
theorem dX7_addSlot_14 : decode cX7_addSlot 14 = .ok (.goto 31, 3) := by decide +kernel
theorem dX7_addSlot_17 : decode cX7_addSlot 17 = .ok (.iload_n 1, 1) := by decide +kernel
theorem dX7_addSlot_18 : decode cX7_addSlot 18 = .ok (.iconst 1, 1) := by decide +kernel
theorem dX7_addSlot_19 : decode cX7_addSlot 19 = .ok (.if_icmp .ne 16, 3) := by decide +kernel
theorem dX7_addSlot_22 : decode cX7_addSlot 22 = .ok (.aload_n 0, 1) := by decide +kernel
theorem dX7_addSlot_23 : decode cX7_addSlot 23 = .ok (.dup, 1) := by decide +kernel
theorem dX7_addSlot_24 : decode cX7_addSlot 24 = .ok (.getfield 22, 3) := by decide +kernel
theorem dX7_addSlot_27 : decode cX7_addSlot 27 = .ok (.iconst 1, 1) := by decide +kernel
theorem dX7_addSlot_28 : decode cX7_addSlot 28 = .ok (.iadd, 1) := by decide +kernel
theorem dX7_addSlot_29 : decode cX7_addSlot 29 = .ok (.putfield 22, 3) := by decide +kernel
theorem dX7_addSlot_32 : decode cX7_addSlot 32 = .ok (.goto 13, 3) := by decide +kernel
theorem dX7_addSlot_35 : decode cX7_addSlot 35 = .ok (.aload_n 0, 1) := by decide +kernel
theorem dX7_addSlot_36 : decode cX7_addSlot 36 = .ok (.dup, 1) := by decide +kernel
theorem dX7_addSlot_37 : decode cX7_addSlot 37 = .ok (.getfield 25, 3) := by decide +kernel
theorem dX7_addSlot_40 : decode cX7_addSlot 40 = .ok (.iconst 1, 1) := by decide +kernel
theorem dX7_addSlot_41 : decode cX7_addSlot 41 = .ok (.iadd, 1) := by decide +kernel
theorem dX7_addSlot_42 : decode cX7_addSlot 42 = .ok (.putfield 25, 3) := by decide +kernel
theorem dX7_addSlot_45 : decode cX7_addSlot 45 = .ok (.return_, 1) := by decide +kernel
theorem dX7_addPassSlots_0 : decode cX7_addPassSlots 0 = .ok (.aload_n 0, 1) := by decide +kernel
theorem dX7_addPassSlots_1 : decode cX7_addPassSlots 1 = .ok (.dup, 1) := by decide +kernel
theorem dX7_addPassSlots_2 : decode cX7_addPassSlots 2 = .ok (.getfield 28, 3) := by decide +kernel
theorem dX7_addPassSlots_5 : decode cX7_addPassSlots 5 = .ok (.iconst 1, 1) := by decide +kernel
theorem dX7_addPassSlots_6 : decode cX7_addPassSlots 6 = .ok (.iconst 3, 1) := by decide +kernel
theorem dX7_addPassSlots_7 : decode cX7_addPassSlots 7 = .ok (.iload_n 1, 1) := by decide +kernel
theorem dX7_addPassSlots_8 : decode cX7_addPassSlots 8 = .ok (.imul, 1) := by decide +kernel
theorem dX7_addPassSlots_9 : decode cX7_addPassSlots 9 = .ok (.iadd, 1) := by decide +kernel
theorem dX7_addPassSlots_10 : decode cX7_addPassSlots 10 = .ok (.iadd, 1) := by decide +kernel
theorem dX7_addPassSlots_11 : decode cX7_addPassSlots 11 = .ok (.putfield 28, 3) := by decide +kernel
theorem dX7_addPassSlots_14 : decode cX7_addPassSlots 14 = .ok (.return_, 1) := by decide +kernel
theorem dX7_allSlots_0 : decode cX7_allSlots 0 = .ok (.aload_n 0, 1) := by decide +kernel
theorem dX7_allSlots_1 : decode cX7_allSlots 1 = .ok (.getfield 19, 3) := by decide +kernel
theorem dX7_allSlots_4 : decode cX7_allSlots 4 = .ok (.aload_n 0, 1) := by decide +kernel
theorem dX7_allSlots_5 : decode cX7_allSlots 5 = .ok (.getfield 22, 3) := by decide +kernel
theorem dX7_allSlots_8 : decode cX7_allSlots 8 = .ok (.iadd, 1) := by decide +kernel
theorem dX7_allSlots_9 : decode cX7_allSlots 9 = .ok (.aload_n 0, 1) := by decide +kernel
theorem dX7_allSlots_10 : decode cX7_allSlots 10 = .ok (.getfield 25, 3) := by decide +kernel
theorem dX7_allSlots_13 : decode cX7_allSlots 13 = .ok (.iadd, 1) := by decide +kernel
theorem dX7_allSlots_14 : decode cX7_allSlots 14 = .ok (.aload_n 0, 1) := by decide +kernel
theorem dX7_allSlots_15 : decode cX7_allSlots 15 = .ok (.getfield 28, 3) := by decide +kernel
theorem dX7_allSlots_18 : decode cX7_allSlots 18 = .ok (.iadd, 1) := by decide +kernel
theorem dX7_allSlots_19 : decode cX7_allSlots 19 = .ok (.ireturn, 1) := by decide +kernel
theorem dX7_copyFrom_0 : decode cX7_copyFrom 0 = .ok (.aload_n 1, 1) := by decide +kernel
theorem dX7_copyFrom_1 : decode cX7_copyFrom 1 = .ok (.getfield 9, 3) := by decide +kernel
theorem dX7_copyFrom_4 : decode cX7_copyFrom 4 = .ok (.iconst 0, 1) := by decide +kernel
theorem dX7_copyFrom_5 : decode cX7_copyFrom 5 = .ok (.aload_n 0, 1) := by decide +kernel
theorem dX7_copyFrom_6 : decode cX7_copyFrom 6 = .ok (.getfield 9, 3) := by decide +kernel
theorem dX7_copyFrom_9 : decode cX7_copyFrom 9 = .ok (.iconst 0, 1) := by decide +kernel
theorem dX7_copyFrom_10 : decode cX7_copyFrom 10 = .ok (.sipush 200, 3) := by decide +kernel
theorem dX7_copyFrom_13 : decode cX7_copyFrom 13 = .ok (.invokestatic 31, 3) := by decide +kernel
theorem dX7_copyFrom_16 : decode cX7_copyFrom 16 = .ok (.aload_n 0, 1) := by decide +kernel
theorem dX7_copyFrom_17 : decode cX7_copyFrom 17 = .ok (.aload_n 1, 1) := by decide +kernel
theorem dX7_copyFrom_18 : decode cX7_copyFrom 18 = .ok (.getfield 15, 3) := by decide +kernel
theorem dX7_copyFrom_21 : decode cX7_copyFrom 21 = .ok (.putfield 15, 3) := by decide +kernel
theorem dX7_copyFrom_24 : decode cX7_copyFrom 24 = .ok (.aload_n 0, 1) := by decide +kernel
theorem dX7_copyFrom_25 : decode cX7_copyFrom 25 = .ok (.aload_n 1, 1) := by decide +kernel
theorem dX7_copyFrom_26 : decode cX7_copyFrom 26 = .ok (.getfield 19, 3) := by decide +kernel
theorem dX7_copyFrom_29 : decode cX7_copyFrom 29 = .ok (.putfield 19, 3) := by decide +kernel
theorem dX7_copyFrom_32 : decode cX7_copyFrom 32 = .ok (.aload_n 0, 1) := by decide +kernel
theorem dX7_copyFrom_33 : decode cX7_copyFrom 33 = .ok (.aload_n 1, 1) := by decide +kernel
theorem dX7_copyFrom_34 : decode cX7_copyFrom 34 = .ok (.getfield 22, 3) := by decide +kernel
theorem dX7_copyFrom_37 : decode cX7_copyFrom 37 = .ok (.putfield 22, 3) := by decide +kernel
theorem dX7_copyFrom_40 : decode cX7_copyFrom 40 = .ok (.aload_n 0, 1) := by decide +kernel
theorem dX7_copyFrom_41 : decode cX7_copyFrom 41 = .ok (.aload_n 1, 1) := by decide +kernel
theorem dX7_copyFrom_42 : decode cX7_copyFrom 42 = .ok (.getfield 25, 3) := by decide +kernel
theorem dX7_copyFrom_45 : decode cX7_copyFrom 45 = .ok (.putfield 25, 3) := by decide +kernel
theorem dX7_copyFrom_48 : decode cX7_copyFrom 48 = .ok (.aload_n 0, 1) := by decide +kernel
theorem dX7_copyFrom_49 : decode cX7_copyFrom 49 = .ok (.aload_n 1, 1) := by decide +kernel
theorem dX7_copyFrom_50 : decode cX7_copyFrom 50 = .ok (.getfield 28, 3) := by decide +kernel
theorem dX7_copyFrom_53 : decode cX7_copyFrom 53 = .ok (.putfield 28, 3) := by decide +kernel
theorem dX7_copyFrom_56 : decode cX7_copyFrom 56 = .ok (.return_, 1) := by decide +kernel
theorem dX8_init_0 : decode cX8_init 0 = .ok (.aload_n 0, 1) := by decide +kernel
theorem dX8_init_1 : decode cX8_init 1 = .ok (.invokespecial 3, 3) := by decide +kernel
theorem dX8_init_4 : decode cX8_init 4 = .ok (.aload_n 0, 1) := by decide +kernel
theorem dX8_init_5 : decode cX8_init 5 = .ok (.new 9, 3) := by decide +kernel
theorem dX8_init_8 : decode cX8_init 8 = .ok (.dup, 1) := by decide +kernel
theorem dX8_init_9 : decode cX8_init 9 = .ok (.invokespecial 11, 3) := by decide +kernel
theorem dX8_init_12 : decode cX8_init 12 = .ok (.putfield 12, 3) := by decide +kernel
theorem dX8_init_15 : decode cX8_init 15 = .ok (.aload_n 0, 1) := by decide +kernel
theorem dX8_init_16 : decode cX8_init 16 = .ok (.iconst 4, 1) := by decide +kernel
theorem dX8_init_17 : decode cX8_init 17 = .ok (.anewarray 9, 3) := by decide +kernel
theorem dX8_init_20 : decode cX8_init 20 = .ok (.putfield 16, 3) := by decide +kernel
theorem dX8_init_23 : decode cX8_init 23 = .ok (.aload_n 0, 1) := by decide +kernel
theorem dX8_init_24 : decode cX8_init 24 = .ok (.bipush 64, 2) := by decide +kernel
theorem dX8_init_26 : decode cX8_init 26 = .ok (.newarray .long, 2) := by decide +kernel
theorem dX8_init_28 : decode cX8_init 28 = .ok (.putfield 20, 3) := by decide +kernel
theorem dX8_init_31 : decode cX8_init 31 = .ok (.aload_n 0, 1) := by decide +kernel
theorem dX8_init_32 : decode cX8_init 32 = .ok (.new 24, 3) := by decide +kernel
theorem dX8_init_35 : decode cX8_init 35 = .ok (.dup, 1) := by decide +kernel
theorem dX8_init_36 : decode cX8_init 36 = .ok (.invokespecial 26, 3) := by decide +kernel
theorem dX8_init_39 : decode cX8_init 39 = .ok (.putfield 27, 3) := by decide +kernel
theorem dX8_init_42 : decode cX8_init 42 = .ok (.return_, 1) := by decide +kernel
theorem dX8_wire_0 : decode cX8_wire 0 = .ok (.iload_n 1, 1) := by decide +kernel
theorem dX8_wire_1 : decode cX8_wire 1 = .ok (.ifCond .eq 10, 3) := by decide +kernel
theorem dX8_wire_4 : decode cX8_wire 4 = .ok (.iload_n 1, 1) := by decide +kernel
theorem dX8_wire_5 : decode cX8_wire 5 = .ok (.iconst 1, 1) := by decide +kernel
theorem dX8_wire_6 : decode cX8_wire 6 = .ok (.if_icmp .eq 5, 3) := by decide +kernel
theorem dX8_wire_9 : decode cX8_wire 9 = .ok (.iconst 0, 1) := by decide +kernel
theorem dX8_wire_10 : decode cX8_wire 10 = .ok (.ireturn, 1) := by decide +kernel
theorem dX8_wire_11 : decode cX8_wire 11 = .ok (.aload_n 0, 1) := by decide +kernel
theorem dX8_wire_12 : decode cX8_wire 12 = .ok (.getfield 12, 3) := by decide +kernel
theorem dX8_wire_15 : decode cX8_wire 15 = .ok (.iload_n 1, 1) := by decide +kernel
theorem dX8_wire_16 : decode cX8_wire 16 = .ok (.putfield 31, 3) := by decide +kernel
theorem dX8_wire_19 : decode cX8_wire 19 = .ok (.iconst 1, 1) := by decide +kernel
theorem dX8_wire_20 : decode cX8_wire 20 = .ok (.ireturn, 1) := by decide +kernel
theorem dX8_tag_0 : decode cX8_tag 0 = .ok (.lload_n 2, 1) := by decide +kernel
theorem dX8_tag_1 : decode cX8_tag 1 = .ok (.bipush 8, 2) := by decide +kernel
theorem dX8_tag_3 : decode cX8_tag 3 = .ok (.lshl, 1) := by decide +kernel
theorem dX8_tag_4 : decode cX8_tag 4 = .ok (.lload_n 2, 1) := by decide +kernel
theorem dX8_tag_5 : decode cX8_tag 5 = .ok (.bipush 8, 2) := by decide +kernel
theorem dX8_tag_7 : decode cX8_tag 7 = .ok (.lshl, 1) := by decide +kernel
theorem dX8_tag_8 : decode cX8_tag 8 = .ok (.invokestatic 35, 3) := by decide +kernel
theorem dX8_tag_11 : decode cX8_tag 11 = .ok (.i2l, 1) := by decide +kernel
theorem dX8_tag_12 : decode cX8_tag 12 = .ok (.lor, 1) := by decide +kernel
theorem dX8_tag_13 : decode cX8_tag 13 = .ok (.lstore 5, 2) := by decide +kernel
theorem dX8_tag_15 : decode cX8_tag 15 = .ok (.aload_n 0, 1) := by decide +kernel
theorem dX8_tag_16 : decode cX8_tag 16 = .ok (.getfield 12, 3) := by decide +kernel
theorem dX8_tag_19 : decode cX8_tag 19 = .ok (.getfield 39, 3) := by decide +kernel
theorem dX8_tag_22 : decode cX8_tag 22 = .ok (.iload_n 1, 1) := by decide +kernel
theorem dX8_tag_23 : decode cX8_tag 23 = .ok (.lload 5, 2) := by decide +kernel
theorem dX8_tag_25 : decode cX8_tag 25 = .ok (.iload 4, 2) := by decide +kernel
theorem dX8_tag_27 : decode cX8_tag 27 = .ok (.invokevirtual 43, 3) := by decide +kernel
theorem dX8_tag_30 : decode cX8_tag 30 = .ok (.ireturn, 1) := by decide +kernel
theorem dX8_name_0 : decode cX8_name 0 = .ok (.aload_n 0, 1) := by decide +kernel
theorem dX8_name_1 : decode cX8_name 1 = .ok (.getfield 12, 3) := by decide +kernel
theorem dX8_name_4 : decode cX8_name 4 = .ok (.getfield 39, 3) := by decide +kernel
theorem dX8_name_7 : decode cX8_name 7 = .ok (.iload_n 1, 1) := by decide +kernel
theorem dX8_name_8 : decode cX8_name 8 = .ok (.invokevirtual 49, 3) := by decide +kernel
theorem dX8_name_11 : decode cX8_name 11 = .ok (.ifCond .eq 18, 3) := by decide +kernel
theorem dX8_name_14 : decode cX8_name 14 = .ok (.aload_n 0, 1) := by decide +kernel
theorem dX8_name_15 : decode cX8_name 15 = .ok (.getfield 12, 3) := by decide +kernel
theorem dX8_name_18 : decode cX8_name 18 = .ok (.getfield 39, 3) := by decide +kernel
theorem dX8_name_21 : decode cX8_name 21 = .ok (.getfield 53, 3) := by decide +kernel
theorem dX8_name_24 : decode cX8_name 24 = .ok (.iload_n 1, 1) := by decide +kernel
theorem dX8_name_25 : decode cX8_name 25 = .ok (.laload, 1) := by decide +kernel
theorem dX8_name_26 : decode cX8_name 26 = .ok (.goto 4, 3) := by decide +kernel
theorem dX8_name_29 : decode cX8_name 29 = .ok (.lconst 0, 1) := by decide +kernel
theorem dX8_name_30 : decode cX8_name 30 = .ok (.lreturn, 1) := by decide +kernel
theorem dX8_isName_0 : decode cX8_isName 0 = .ok (.lload_n 1, 1) := by decide +kernel
theorem dX8_isName_1 : decode cX8_isName 1 = .ok (.ldc2_w 56, 3) := by decide +kernel
theorem dX8_isName_4 : decode cX8_isName 4 = .ok (.land, 1) := by decide +kernel
theorem dX8_isName_5 : decode cX8_isName 5 = .ok (.lload_n 1, 1) := by decide +kernel
theorem dX8_isName_6 : decode cX8_isName 6 = .ok (.invokestatic 35, 3) := by decide +kernel
theorem dX8_isName_9 : decode cX8_isName 9 = .ok (.i2l, 1) := by decide +kernel
theorem dX8_isName_10 : decode cX8_isName 10 = .ok (.lcmp, 1) := by decide +kernel
theorem dX8_isName_11 : decode cX8_isName 11 = .ok (.ifCond .ne 7, 3) := by decide +kernel
theorem dX8_isName_14 : decode cX8_isName 14 = .ok (.iconst 1, 1) := by decide +kernel
theorem dX8_isName_15 : decode cX8_isName 15 = .ok (.goto 4, 3) := by decide +kernel
theorem dX8_isName_18 : decode cX8_isName 18 = .ok (.iconst 0, 1) := by decide +kernel
theorem dX8_isName_19 : decode cX8_isName 19 = .ok (.ireturn, 1) := by decide +kernel
theorem dX8_tell_0 : decode cX8_tell 0 = .ok (.aload_n 0, 1) := by decide +kernel
theorem dX8_tell_1 : decode cX8_tell 1 = .ok (.getfield 12, 3) := by decide +kernel
theorem dX8_tell_4 : decode cX8_tell 4 = .ok (.getfield 39, 3) := by decide +kernel
theorem dX8_tell_7 : decode cX8_tell 7 = .ok (.iload_n 1, 1) := by decide +kernel
theorem dX8_tell_8 : decode cX8_tell 8 = .ok (.invokevirtual 49, 3) := by decide +kernel
theorem dX8_tell_11 : decode cX8_tell 11 = .ok (.ifCond .ne 5, 3) := by decide +kernel
theorem dX8_tell_14 : decode cX8_tell 14 = .ok (.iconst (-1), 1) := by decide +kernel
theorem dX8_tell_15 : decode cX8_tell 15 = .ok (.ireturn, 1) := by decide +kernel
theorem dX8_tell_16 : decode cX8_tell 16 = .ok (.iload_n 2, 1) := by decide +kernel
theorem dX8_tell_17 : decode cX8_tell 17 = .ok (.tableswitch 147 0 6 #[43, 56, 74, 92, 110, 122, 135], 43) := by decide +kernel
theorem dX8_tell_60 : decode cX8_tell 60 = .ok (.aload_n 0, 1) := by decide +kernel
theorem dX8_tell_61 : decode cX8_tell 61 = .ok (.getfield 12, 3) := by decide +kernel
theorem dX8_tell_64 : decode cX8_tell 64 = .ok (.getfield 39, 3) := by decide +kernel
theorem dX8_tell_67 : decode cX8_tell 67 = .ok (.getfield 58, 3) := by decide +kernel
theorem dX8_tell_70 : decode cX8_tell 70 = .ok (.iload_n 1, 1) := by decide +kernel
theorem dX8_tell_71 : decode cX8_tell 71 = .ok (.iaload, 1) := by decide +kernel
theorem dX8_tell_72 : decode cX8_tell 72 = .ok (.ireturn, 1) := by decide +kernel
theorem dX8_tell_73 : decode cX8_tell 73 = .ok (.aload_n 0, 1) := by decide +kernel
theorem dX8_tell_74 : decode cX8_tell 74 = .ok (.getfield 12, 3) := by decide +kernel
theorem dX8_tell_77 : decode cX8_tell 77 = .ok (.getfield 39, 3) := by decide +kernel
theorem dX8_tell_80 : decode cX8_tell 80 = .ok (.getfield 62, 3) := by decide +kernel
theorem dX8_tell_83 : decode cX8_tell 83 = .ok (.iload_n 1, 1) := by decide +kernel
theorem dX8_tell_84 : decode cX8_tell 84 = .ok (.invokestatic 66, 3) := by decide +kernel
theorem dX8_tell_87 : decode cX8_tell 87 = .ok (.invokestatic 70, 3) := by decide +kernel
theorem dX8_tell_90 : decode cX8_tell 90 = .ok (.ireturn, 1) := by decide +kernel
theorem dX8_tell_91 : decode cX8_tell 91 = .ok (.aload_n 0, 1) := by decide +kernel
theorem dX8_tell_92 : decode cX8_tell 92 = .ok (.getfield 12, 3) := by decide +kernel
theorem dX8_tell_95 : decode cX8_tell 95 = .ok (.getfield 39, 3) := by decide +kernel
theorem dX8_tell_98 : decode cX8_tell 98 = .ok (.getfield 74, 3) := by decide +kernel
theorem dX8_tell_101 : decode cX8_tell 101 = .ok (.iload_n 1, 1) := by decide +kernel
theorem dX8_tell_102 : decode cX8_tell 102 = .ok (.invokestatic 66, 3) := by decide +kernel
theorem dX8_tell_105 : decode cX8_tell 105 = .ok (.invokestatic 70, 3) := by decide +kernel
theorem dX8_tell_108 : decode cX8_tell 108 = .ok (.ireturn, 1) := by decide +kernel
theorem dX8_tell_109 : decode cX8_tell 109 = .ok (.aload_n 0, 1) := by decide +kernel
theorem dX8_tell_110 : decode cX8_tell 110 = .ok (.getfield 12, 3) := by decide +kernel
theorem dX8_tell_113 : decode cX8_tell 113 = .ok (.getfield 39, 3) := by decide +kernel
theorem dX8_tell_116 : decode cX8_tell 116 = .ok (.invokevirtual 77, 3) := by decide +kernel
theorem dX8_tell_119 : decode cX8_tell 119 = .ok (.iload_n 1, 1) := by decide +kernel
theorem dX8_tell_120 : decode cX8_tell 120 = .ok (.invokestatic 66, 3) := by decide +kernel
theorem dX8_tell_123 : decode cX8_tell 123 = .ok (.invokestatic 70, 3) := by decide +kernel
theorem dX8_tell_126 : decode cX8_tell 126 = .ok (.ireturn, 1) := by decide +kernel
theorem dX8_tell_127 : decode cX8_tell 127 = .ok (.aload_n 0, 1) := by decide +kernel
theorem dX8_tell_128 : decode cX8_tell 128 = .ok (.getfield 12, 3) := by decide +kernel
theorem dX8_tell_131 : decode cX8_tell 131 = .ok (.getfield 81, 3) := by decide +kernel
theorem dX8_tell_134 : decode cX8_tell 134 = .ok (.iload_n 1, 1) := by decide +kernel
theorem dX8_tell_135 : decode cX8_tell 135 = .ok (.invokevirtual 85, 3) := by decide +kernel
theorem dX8_tell_138 : decode cX8_tell 138 = .ok (.ireturn, 1) := by decide +kernel
theorem dX8_tell_139 : decode cX8_tell 139 = .ok (.aload_n 0, 1) := by decide +kernel
theorem dX8_tell_140 : decode cX8_tell 140 = .ok (.getfield 12, 3) := by decide +kernel
theorem dX8_tell_143 : decode cX8_tell 143 = .ok (.getfield 39, 3) := by decide +kernel
theorem dX8_tell_146 : decode cX8_tell 146 = .ok (.getfield 91, 3) := by decide +kernel
theorem dX8_tell_149 : decode cX8_tell 149 = .ok (.iload_n 1, 1) := by decide +kernel
theorem dX8_tell_150 : decode cX8_tell 150 = .ok (.iaload, 1) := by decide +kernel
theorem dX8_tell_151 : decode cX8_tell 151 = .ok (.ireturn, 1) := by decide +kernel
theorem dX8_tell_152 : decode cX8_tell 152 = .ok (.aload_n 0, 1) := by decide +kernel
theorem dX8_tell_153 : decode cX8_tell 153 = .ok (.getfield 12, 3) := by decide +kernel
theorem dX8_tell_156 : decode cX8_tell 156 = .ok (.getfield 94, 3) := by decide +kernel
theorem dX8_tell_159 : decode cX8_tell 159 = .ok (.iload_n 1, 1) := by decide +kernel
theorem dX8_tell_160 : decode cX8_tell 160 = .ok (.invokevirtual 98, 3) := by decide +kernel
theorem dX8_tell_163 : decode cX8_tell 163 = .ok (.ireturn, 1) := by decide +kernel
theorem dX8_tell_164 : decode cX8_tell 164 = .ok (.iconst (-1), 1) := by decide +kernel
theorem dX8_tell_165 : decode cX8_tell 165 = .ok (.ireturn, 1) := by decide +kernel
theorem dX8_act_0 : decode cX8_act 0 = .ok (.aload_n 0, 1) := by decide +kernel
theorem dX8_act_1 : decode cX8_act 1 = .ok (.getfield 12, 3) := by decide +kernel
theorem dX8_act_4 : decode cX8_act 4 = .ok (.getfield 39, 3) := by decide +kernel
theorem dX8_act_7 : decode cX8_act 7 = .ok (.iload_n 1, 1) := by decide +kernel
theorem dX8_act_8 : decode cX8_act 8 = .ok (.invokevirtual 49, 3) := by decide +kernel
theorem dX8_act_11 : decode cX8_act 11 = .ok (.ifCond .ne 5, 3) := by decide +kernel
theorem dX8_act_14 : decode cX8_act 14 = .ok (.iconst 0, 1) := by decide +kernel
theorem dX8_act_15 : decode cX8_act 15 = .ok (.ireturn, 1) := by decide +kernel
theorem dX8_act_16 : decode cX8_act 16 = .ok (.iload_n 2, 1) := by decide +kernel
theorem dX8_act_17 : decode cX8_act 17 = .ok (.tableswitch 107 0 3 #[31, 44, 57, 70], 31) := by decide +kernel
theorem dX8_act_48 : decode cX8_act 48 = .ok (.aload_n 0, 1) := by decide +kernel
theorem dX8_act_49 : decode cX8_act 49 = .ok (.getfield 12, 3) := by decide +kernel
theorem dX8_act_52 : decode cX8_act 52 = .ok (.getfield 39, 3) := by decide +kernel
theorem dX8_act_55 : decode cX8_act 55 = .ok (.iload_n 1, 1) := by decide +kernel
theorem dX8_act_56 : decode cX8_act 56 = .ok (.iconst 0, 1) := by decide +kernel
theorem dX8_act_57 : decode cX8_act 57 = .ok (.invokevirtual 103, 3) := by decide +kernel
theorem dX8_act_60 : decode cX8_act 60 = .ok (.ireturn, 1) := by decide +kernel
theorem dX8_act_61 : decode cX8_act 61 = .ok (.aload_n 0, 1) := by decide +kernel
theorem dX8_act_62 : decode cX8_act 62 = .ok (.getfield 12, 3) := by decide +kernel
theorem dX8_act_65 : decode cX8_act 65 = .ok (.getfield 39, 3) := by decide +kernel
theorem dX8_act_68 : decode cX8_act 68 = .ok (.iload_n 1, 1) := by decide +kernel
theorem dX8_act_69 : decode cX8_act 69 = .ok (.iconst 1, 1) := by decide +kernel
theorem dX8_act_70 : decode cX8_act 70 = .ok (.invokevirtual 103, 3) := by decide +kernel
theorem dX8_act_73 : decode cX8_act 73 = .ok (.ireturn, 1) := by decide +kernel
theorem dX8_act_74 : decode cX8_act 74 = .ok (.aload_n 0, 1) := by decide +kernel
theorem dX8_act_75 : decode cX8_act 75 = .ok (.getfield 12, 3) := by decide +kernel
theorem dX8_act_78 : decode cX8_act 78 = .ok (.getfield 39, 3) := by decide +kernel
theorem dX8_act_81 : decode cX8_act 81 = .ok (.iload_n 1, 1) := by decide +kernel
theorem dX8_act_82 : decode cX8_act 82 = .ok (.iconst 1, 1) := by decide +kernel
theorem dX8_act_83 : decode cX8_act 83 = .ok (.invokevirtual 107, 3) := by decide +kernel
theorem dX8_act_86 : decode cX8_act 86 = .ok (.ireturn, 1) := by decide +kernel
theorem dX8_act_87 : decode cX8_act 87 = .ok (.aload_n 0, 1) := by decide +kernel
theorem dX8_act_88 : decode cX8_act 88 = .ok (.getfield 12, 3) := by decide +kernel
theorem dX8_act_91 : decode cX8_act 91 = .ok (.getfield 39, 3) := by decide +kernel
theorem dX8_act_94 : decode cX8_act 94 = .ok (.getfield 58, 3) := by decide +kernel
theorem dX8_act_97 : decode cX8_act 97 = .ok (.iload_n 1, 1) := by decide +kernel
theorem dX8_act_98 : decode cX8_act 98 = .ok (.iaload, 1) := by decide +kernel
theorem dX8_act_99 : decode cX8_act 99 = .ok (.iconst 4, 1) := by decide +kernel
theorem dX8_act_100 : decode cX8_act 100 = .ok (.if_icmp .ne 22, 3) := by decide +kernel
theorem dX8_act_103 : decode cX8_act 103 = .ok (.aload_n 0, 1) := by decide +kernel
theorem dX8_act_104 : decode cX8_act 104 = .ok (.getfield 12, 3) := by decide +kernel
theorem dX8_act_107 : decode cX8_act 107 = .ok (.getfield 39, 3) := by decide +kernel
theorem dX8_act_110 : decode cX8_act 110 = .ok (.iload_n 1, 1) := by decide +kernel
theorem dX8_act_111 : decode cX8_act 111 = .ok (.iconst 0, 1) := by decide +kernel
theorem dX8_act_112 : decode cX8_act 112 = .ok (.invokevirtual 107, 3) := by decide +kernel
theorem dX8_act_115 : decode cX8_act 115 = .ok (.ifCond .eq 7, 3) := by decide +kernel
theorem dX8_act_118 : decode cX8_act 118 = .ok (.iconst 1, 1) := by decide +kernel
theorem dX8_act_119 : decode cX8_act 119 = .ok (.goto 4, 3) := by decide +kernel
theorem dX8_act_122 : decode cX8_act 122 = .ok (.iconst 0, 1) := by decide +kernel
theorem dX8_act_123 : decode cX8_act 123 = .ok (.ireturn, 1) := by decide +kernel
theorem dX8_act_124 : decode cX8_act 124 = .ok (.iconst 0, 1) := by decide +kernel
theorem dX8_act_125 : decode cX8_act 125 = .ok (.ireturn, 1) := by decide +kernel
theorem dX8_group_0 : decode cX8_group 0 = .ok (.aload_n 0, 1) := by decide +kernel
theorem dX8_group_1 : decode cX8_group 1 = .ok (.getfield 12, 3) := by decide +kernel
theorem dX8_group_4 : decode cX8_group 4 = .ok (.getfield 39, 3) := by decide +kernel
theorem dX8_group_7 : decode cX8_group 7 = .ok (.lload_n 1, 1) := by decide +kernel
theorem dX8_group_8 : decode cX8_group 8 = .ok (.lload_n 3, 1) := by decide +kernel
theorem dX8_group_9 : decode cX8_group 9 = .ok (.invokevirtual 110, 3) := by decide +kernel
theorem dX8_group_12 : decode cX8_group 12 = .ok (.aload_n 0, 1) := by decide +kernel
theorem dX8_group_13 : decode cX8_group 13 = .ok (.getfield 12, 3) := by decide +kernel
theorem dX8_group_16 : decode cX8_group 16 = .ok (.getfield 39, 3) := by decide +kernel
theorem dX8_group_19 : decode cX8_group 19 = .ok (.invokevirtual 77, 3) := by decide +kernel
theorem dX8_group_22 : decode cX8_group 22 = .ok (.invokestatic 114, 3) := by decide +kernel
theorem dX8_group_25 : decode cX8_group 25 = .ok (.ireturn, 1) := by decide +kernel
theorem dX8_pass_0 : decode cX8_pass 0 = .ok (.aload_n 0, 1) := by decide +kernel
theorem dX8_pass_1 : decode cX8_pass 1 = .ok (.getfield 12, 3) := by decide +kernel
theorem dX8_pass_4 : decode cX8_pass 4 = .ok (.getfield 39, 3) := by decide +kernel
theorem dX8_pass_7 : decode cX8_pass 7 = .ok (.invokevirtual 77, 3) := by decide +kernel
theorem dX8_pass_10 : decode cX8_pass 10 = .ok (.lstore_n 1, 1) := by decide +kernel
theorem dX8_pass_11 : decode cX8_pass 11 = .ok (.iconst 0, 1) := by decide +kernel
theorem dX8_pass_12 : decode cX8_pass 12 = .ok (.istore_n 3, 1) := by decide +kernel
theorem dX8_pass_13 : decode cX8_pass 13 = .ok (.iconst (-1), 1) := by decide +kernel
theorem dX8_pass_14 : decode cX8_pass 14 = .ok (.istore 4, 2) := by decide +kernel
theorem dX8_pass_16 : decode cX8_pass 16 = .ok (.iconst 0, 1) := by decide +kernel
theorem dX8_pass_17 : decode cX8_pass 17 = .ok (.istore 5, 2) := by decide +kernel
theorem dX8_pass_19 : decode cX8_pass 19 = .ok (.iload 5, 2) := by decide +kernel
theorem dX8_pass_21 : decode cX8_pass 21 = .ok (.bipush 64, 2) := by decide +kernel
theorem dX8_pass_23 : decode cX8_pass 23 = .ok (.if_icmp .ge 125, 3) := by decide +kernel
theorem dX8_pass_26 : decode cX8_pass 26 = .ok (.lload_n 1, 1) := by decide +kernel
theorem dX8_pass_27 : decode cX8_pass 27 = .ok (.lconst 0, 1) := by decide +kernel
theorem dX8_pass_28 : decode cX8_pass 28 = .ok (.lcmp, 1) := by decide +kernel
theorem dX8_pass_29 : decode cX8_pass 29 = .ok (.ifCond .eq 119, 3) := by decide +kernel
theorem dX8_pass_32 : decode cX8_pass 32 = .ok (.iinc 3 1, 3) := by decide +kernel
theorem dX8_pass_35 : decode cX8_pass 35 = .ok (.aload_n 0, 1) := by decide +kernel
theorem dX8_pass_36 : decode cX8_pass 36 = .ok (.getfield 12, 3) := by decide +kernel
theorem dX8_pass_39 : decode cX8_pass 39 = .ok (.getfield 39, 3) := by decide +kernel
theorem dX8_pass_42 : decode cX8_pass 42 = .ok (.lload_n 1, 1) := by decide +kernel
theorem dX8_pass_43 : decode cX8_pass 43 = .ok (.iload 5, 2) := by decide +kernel
theorem dX8_pass_45 : decode cX8_pass 45 = .ok (.invokevirtual 119, 3) := by decide +kernel
theorem dX8_pass_48 : decode cX8_pass 48 = .ok (.lstore 6, 2) := by decide +kernel
theorem dX8_pass_50 : decode cX8_pass 50 = .ok (.lload_n 1, 1) := by decide +kernel
theorem dX8_pass_51 : decode cX8_pass 51 = .ok (.lload 6, 2) := by decide +kernel
theorem dX8_pass_53 : decode cX8_pass 53 = .ok (.ldc2_w 123, 3) := by decide +kernel
theorem dX8_pass_56 : decode cX8_pass 56 = .ok (.lxor, 1) := by decide +kernel
theorem dX8_pass_57 : decode cX8_pass 57 = .ok (.land, 1) := by decide +kernel
theorem dX8_pass_58 : decode cX8_pass 58 = .ok (.lstore 8, 2) := by decide +kernel
theorem dX8_pass_60 : decode cX8_pass 60 = .ok (.lload 6, 2) := by decide +kernel
theorem dX8_pass_62 : decode cX8_pass 62 = .ok (.lconst 0, 1) := by decide +kernel
theorem dX8_pass_63 : decode cX8_pass 63 = .ok (.lcmp, 1) := by decide +kernel
theorem dX8_pass_64 : decode cX8_pass 64 = .ok (.ifCond .eq 14, 3) := by decide +kernel
theorem dX8_pass_67 : decode cX8_pass 67 = .ok (.lload 8, 2) := by decide +kernel
theorem dX8_pass_69 : decode cX8_pass 69 = .ok (.lconst 0, 1) := by decide +kernel
theorem dX8_pass_70 : decode cX8_pass 70 = .ok (.lcmp, 1) := by decide +kernel
theorem dX8_pass_71 : decode cX8_pass 71 = .ok (.ifCond .eq 7, 3) := by decide +kernel
theorem dX8_pass_74 : decode cX8_pass 74 = .ok (.iconst 1, 1) := by decide +kernel
theorem dX8_pass_75 : decode cX8_pass 75 = .ok (.goto 4, 3) := by decide +kernel
theorem dX8_pass_78 : decode cX8_pass 78 = .ok (.iconst 0, 1) := by decide +kernel
theorem dX8_pass_79 : decode cX8_pass 79 = .ok (.istore 10, 2) := by decide +kernel
theorem dX8_pass_81 : decode cX8_pass 81 = .ok (.iload 10, 2) := by decide +kernel
theorem dX8_pass_83 : decode cX8_pass 83 = .ok (.ifCond .eq 18, 3) := by decide +kernel
theorem dX8_pass_86 : decode cX8_pass 86 = .ok (.aload_n 0, 1) := by decide +kernel
theorem dX8_pass_87 : decode cX8_pass 87 = .ok (.getfield 12, 3) := by decide +kernel
theorem dX8_pass_90 : decode cX8_pass 90 = .ok (.getfield 125, 3) := by decide +kernel
theorem dX8_pass_93 : decode cX8_pass 93 = .ok (.iload 5, 2) := by decide +kernel
theorem dX8_pass_95 : decode cX8_pass 95 = .ok (.invokevirtual 129, 3) := by decide +kernel
theorem dX8_pass_98 : decode cX8_pass 98 = .ok (.goto 15, 3) := by decide +kernel
theorem dX8_pass_101 : decode cX8_pass 101 = .ok (.lload 6, 2) := by decide +kernel
theorem dX8_pass_103 : decode cX8_pass 103 = .ok (.lconst 0, 1) := by decide +kernel
theorem dX8_pass_104 : decode cX8_pass 104 = .ok (.lcmp, 1) := by decide +kernel
theorem dX8_pass_105 : decode cX8_pass 105 = .ok (.ifCond .eq 7, 3) := by decide +kernel
theorem dX8_pass_108 : decode cX8_pass 108 = .ok (.iconst 1, 1) := by decide +kernel
theorem dX8_pass_109 : decode cX8_pass 109 = .ok (.goto 4, 3) := by decide +kernel
theorem dX8_pass_112 : decode cX8_pass 112 = .ok (.iconst 0, 1) := by decide +kernel
theorem dX8_pass_113 : decode cX8_pass 113 = .ok (.istore 11, 2) := by decide +kernel
theorem dX8_pass_115 : decode cX8_pass 115 = .ok (.iload 10, 2) := by decide +kernel
theorem dX8_pass_117 : decode cX8_pass 117 = .ok (.ifCond .eq 12, 3) := by decide +kernel
theorem dX8_pass_120 : decode cX8_pass 120 = .ok (.iload 11, 2) := by decide +kernel
theorem dX8_pass_122 : decode cX8_pass 122 = .ok (.ifCond .ne 7, 3) := by decide +kernel
theorem dX8_pass_125 : decode cX8_pass 125 = .ok (.iload 5, 2) := by decide +kernel
theorem dX8_pass_127 : decode cX8_pass 127 = .ok (.istore 4, 2) := by decide +kernel
theorem dX8_pass_129 : decode cX8_pass 129 = .ok (.iload 11, 2) := by decide +kernel
theorem dX8_pass_131 : decode cX8_pass 131 = .ok (.ifCond .eq 8, 3) := by decide +kernel
theorem dX8_pass_134 : decode cX8_pass 134 = .ok (.lload 6, 2) := by decide +kernel
theorem dX8_pass_136 : decode cX8_pass 136 = .ok (.goto 5, 3) := by decide +kernel
theorem dX8_pass_139 : decode cX8_pass 139 = .ok (.lload 8, 2) := by decide +kernel
theorem dX8_pass_141 : decode cX8_pass 141 = .ok (.lstore_n 1, 1) := by decide +kernel
theorem dX8_pass_142 : decode cX8_pass 142 = .ok (.iinc 5 1, 3) := by decide +kernel
theorem dX8_pass_145 : decode cX8_pass 145 = .ok (.goto (-126), 3) := by decide +kernel
theorem dX8_pass_148 : decode cX8_pass 148 = .ok (.aload_n 0, 1) := by decide +kernel
theorem dX8_pass_149 : decode cX8_pass 149 = .ok (.getfield 12, 3) := by decide +kernel
theorem dX8_pass_152 : decode cX8_pass 152 = .ok (.getfield 94, 3) := by decide +kernel
theorem dX8_pass_155 : decode cX8_pass 155 = .ok (.iload_n 3, 1) := by decide +kernel
theorem dX8_pass_156 : decode cX8_pass 156 = .ok (.invokevirtual 134, 3) := by decide +kernel
theorem dX8_pass_159 : decode cX8_pass 159 = .ok (.lload_n 1, 1) := by decide +kernel
theorem dX8_pass_160 : decode cX8_pass 160 = .ok (.invokestatic 138, 3) := by decide +kernel
theorem dX8_pass_163 : decode cX8_pass 163 = .ok (.istore 5, 2) := by decide +kernel
theorem dX8_pass_165 : decode cX8_pass 165 = .ok (.aload_n 0, 1) := by decide +kernel
theorem dX8_pass_166 : decode cX8_pass 166 = .ok (.getfield 12, 3) := by decide +kernel
theorem dX8_pass_169 : decode cX8_pass 169 = .ok (.getfield 39, 3) := by decide +kernel
theorem dX8_pass_172 : decode cX8_pass 172 = .ok (.iload 5, 2) := by decide +kernel
theorem dX8_pass_174 : decode cX8_pass 174 = .ok (.invokevirtual 49, 3) := by decide +kernel
theorem dX8_pass_177 : decode cX8_pass 177 = .ok (.ifCond .ne 15, 3) := by decide +kernel
theorem dX8_pass_180 : decode cX8_pass 180 = .ok (.aload_n 0, 1) := by decide +kernel
theorem dX8_pass_181 : decode cX8_pass 181 = .ok (.getfield 12, 3) := by decide +kernel
theorem dX8_pass_184 : decode cX8_pass 184 = .ok (.getfield 125, 3) := by decide +kernel
theorem dX8_pass_187 : decode cX8_pass 187 = .ok (.invokevirtual 141, 3) := by decide +kernel
theorem dX8_pass_190 : decode cX8_pass 190 = .ok (.iconst (-1), 1) := by decide +kernel
theorem dX8_pass_191 : decode cX8_pass 191 = .ok (.ireturn, 1) := by decide +kernel
theorem dX8_pass_192 : decode cX8_pass 192 = .ok (.aload_n 0, 1) := by decide +kernel
theorem dX8_pass_193 : decode cX8_pass 193 = .ok (.getfield 12, 3) := by decide +kernel
theorem dX8_pass_196 : decode cX8_pass 196 = .ok (.getfield 125, 3) := by decide +kernel
theorem dX8_pass_199 : decode cX8_pass 199 = .ok (.iload 4, 2) := by decide +kernel
theorem dX8_pass_201 : decode cX8_pass 201 = .ok (.aload_n 0, 1) := by decide +kernel
theorem dX8_pass_202 : decode cX8_pass 202 = .ok (.getfield 12, 3) := by decide +kernel
theorem dX8_pass_205 : decode cX8_pass 205 = .ok (.getfield 39, 3) := by decide +kernel
theorem dX8_pass_208 : decode cX8_pass 208 = .ok (.getfield 53, 3) := by decide +kernel
theorem dX8_pass_211 : decode cX8_pass 211 = .ok (.iload 5, 2) := by decide +kernel
theorem dX8_pass_213 : decode cX8_pass 213 = .ok (.laload, 1) := by decide +kernel
theorem dX8_pass_214 : decode cX8_pass 214 = .ok (.invokevirtual 144, 3) := by decide +kernel
theorem dX8_pass_217 : decode cX8_pass 217 = .ok (.aload_n 0, 1) := by decide +kernel
theorem dX8_pass_218 : decode cX8_pass 218 = .ok (.getfield 12, 3) := by decide +kernel
theorem dX8_pass_221 : decode cX8_pass 221 = .ok (.getfield 94, 3) := by decide +kernel
theorem dX8_pass_224 : decode cX8_pass 224 = .ok (.iload 5, 2) := by decide +kernel
theorem dX8_pass_226 : decode cX8_pass 226 = .ok (.invokevirtual 148, 3) := by decide +kernel
theorem dX8_pass_229 : decode cX8_pass 229 = .ok (.iload 5, 2) := by decide +kernel
theorem dX8_pass_231 : decode cX8_pass 231 = .ok (.ireturn, 1) := by decide +kernel
theorem dX8_fork_0 : decode cX8_fork 0 = .ok (.iload_n 1, 1) := by decide +kernel
theorem dX8_fork_1 : decode cX8_fork 1 = .ok (.lookupswitch 49 #[(0, 27), (1, 38)], 27) := by decide +kernel
theorem dX8_fork_28 : decode cX8_fork 28 = .ok (.aload_n 0, 1) := by decide +kernel
theorem dX8_fork_29 : decode cX8_fork 29 = .ok (.getfield 12, 3) := by decide +kernel
theorem dX8_fork_32 : decode cX8_fork 32 = .ok (.getfield 125, 3) := by decide +kernel
theorem dX8_fork_35 : decode cX8_fork 35 = .ok (.getfield 151, 3) := by decide +kernel
theorem dX8_fork_38 : decode cX8_fork 38 = .ok (.ireturn, 1) := by decide +kernel
theorem dX8_fork_39 : decode cX8_fork 39 = .ok (.aload_n 0, 1) := by decide +kernel
theorem dX8_fork_40 : decode cX8_fork 40 = .ok (.getfield 12, 3) := by decide +kernel
theorem dX8_fork_43 : decode cX8_fork 43 = .ok (.getfield 125, 3) := by decide +kernel
theorem dX8_fork_46 : decode cX8_fork 46 = .ok (.getfield 154, 3) := by decide +kernel
theorem dX8_fork_49 : decode cX8_fork 49 = .ok (.ireturn, 1) := by decide +kernel
theorem dX8_fork_50 : decode cX8_fork 50 = .ok (.iconst (-1), 1) := by decide +kernel
theorem dX8_fork_51 : decode cX8_fork 51 = .ok (.ireturn, 1) := by decide +kernel
theorem dX8_verify_0 : decode cX8_verify 0 = .ok (.aload_n 0, 1) := by decide +kernel
theorem dX8_verify_1 : decode cX8_verify 1 = .ok (.getfield 12, 3) := by decide +kernel
theorem dX8_verify_4 : decode cX8_verify 4 = .ok (.getfield 39, 3) := by decide +kernel
theorem dX8_verify_7 : decode cX8_verify 7 = .ok (.invokevirtual 77, 3) := by decide +kernel
theorem dX8_verify_10 : decode cX8_verify 10 = .ok (.lstore_n 3, 1) := by decide +kernel
theorem dX8_verify_11 : decode cX8_verify 11 = .ok (.iconst 0, 1) := by decide +kernel
theorem dX8_verify_12 : decode cX8_verify 12 = .ok (.istore 5, 2) := by decide +kernel
theorem dX8_verify_14 : decode cX8_verify 14 = .ok (.iconst 0, 1) := by decide +kernel
theorem dX8_verify_15 : decode cX8_verify 15 = .ok (.istore 6, 2) := by decide +kernel
theorem dX8_verify_17 : decode cX8_verify 17 = .ok (.iload 6, 2) := by decide +kernel
theorem dX8_verify_19 : decode cX8_verify 19 = .ok (.bipush 64, 2) := by decide +kernel
theorem dX8_verify_21 : decode cX8_verify 21 = .ok (.if_icmp .ge 56, 3) := by decide +kernel
theorem dX8_verify_24 : decode cX8_verify 24 = .ok (.lload_n 3, 1) := by decide +kernel
theorem dX8_verify_25 : decode cX8_verify 25 = .ok (.lconst 0, 1) := by decide +kernel
theorem dX8_verify_26 : decode cX8_verify 26 = .ok (.lcmp, 1) := by decide +kernel
theorem dX8_verify_27 : decode cX8_verify 27 = .ok (.ifCond .eq 50, 3) := by decide +kernel
theorem dX8_verify_30 : decode cX8_verify 30 = .ok (.iinc 5 1, 3) := by decide +kernel
theorem dX8_verify_33 : decode cX8_verify 33 = .ok (.aload_n 0, 1) := by decide +kernel
theorem dX8_verify_34 : decode cX8_verify 34 = .ok (.getfield 12, 3) := by decide +kernel
theorem dX8_verify_37 : decode cX8_verify 37 = .ok (.getfield 39, 3) := by decide +kernel
theorem dX8_verify_40 : decode cX8_verify 40 = .ok (.lload_n 3, 1) := by decide +kernel
theorem dX8_verify_41 : decode cX8_verify 41 = .ok (.iload 6, 2) := by decide +kernel
theorem dX8_verify_43 : decode cX8_verify 43 = .ok (.invokevirtual 119, 3) := by decide +kernel
theorem dX8_verify_46 : decode cX8_verify 46 = .ok (.lstore 7, 2) := by decide +kernel
theorem dX8_verify_48 : decode cX8_verify 48 = .ok (.lload_n 1, 1) := by decide +kernel
theorem dX8_verify_49 : decode cX8_verify 49 = .ok (.iload 6, 2) := by decide +kernel
theorem dX8_verify_51 : decode cX8_verify 51 = .ok (.invokestatic 157, 3) := by decide +kernel
theorem dX8_verify_54 : decode cX8_verify 54 = .ok (.ifCond .eq 8, 3) := by decide +kernel
theorem dX8_verify_57 : decode cX8_verify 57 = .ok (.lload 7, 2) := by decide +kernel
theorem dX8_verify_59 : decode cX8_verify 59 = .ok (.goto 11, 3) := by decide +kernel
theorem dX8_verify_62 : decode cX8_verify 62 = .ok (.lload_n 3, 1) := by decide +kernel
theorem dX8_verify_63 : decode cX8_verify 63 = .ok (.lload 7, 2) := by decide +kernel
theorem dX8_verify_65 : decode cX8_verify 65 = .ok (.ldc2_w 123, 3) := by decide +kernel
theorem dX8_verify_68 : decode cX8_verify 68 = .ok (.lxor, 1) := by decide +kernel
theorem dX8_verify_69 : decode cX8_verify 69 = .ok (.land, 1) := by decide +kernel
theorem dX8_verify_70 : decode cX8_verify 70 = .ok (.lstore_n 3, 1) := by decide +kernel
theorem dX8_verify_71 : decode cX8_verify 71 = .ok (.iinc 6 1, 3) := by decide +kernel
theorem dX8_verify_74 : decode cX8_verify 74 = .ok (.goto (-57), 3) := by decide +kernel
theorem dX8_verify_77 : decode cX8_verify 77 = .ok (.aload_n 0, 1) := by decide +kernel
theorem dX8_verify_78 : decode cX8_verify 78 = .ok (.getfield 12, 3) := by decide +kernel
theorem dX8_verify_81 : decode cX8_verify 81 = .ok (.getfield 94, 3) := by decide +kernel
theorem dX8_verify_84 : decode cX8_verify 84 = .ok (.iload 5, 2) := by decide +kernel
theorem dX8_verify_86 : decode cX8_verify 86 = .ok (.invokevirtual 134, 3) := by decide +kernel
theorem dX8_verify_89 : decode cX8_verify 89 = .ok (.lload_n 3, 1) := by decide +kernel
theorem dX8_verify_90 : decode cX8_verify 90 = .ok (.lconst 0, 1) := by decide +kernel
theorem dX8_verify_91 : decode cX8_verify 91 = .ok (.lcmp, 1) := by decide +kernel
theorem dX8_verify_92 : decode cX8_verify 92 = .ok (.ifCond .eq 7, 3) := by decide +kernel
theorem dX8_verify_95 : decode cX8_verify 95 = .ok (.iconst 1, 1) := by decide +kernel
theorem dX8_verify_96 : decode cX8_verify 96 = .ok (.goto 4, 3) := by decide +kernel
theorem dX8_verify_99 : decode cX8_verify 99 = .ok (.iconst 0, 1) := by decide +kernel
theorem dX8_verify_100 : decode cX8_verify 100 = .ok (.ireturn, 1) := by decide +kernel
theorem dX8_ask_0 : decode cX8_ask 0 = .ok (.iload_n 3, 1) := by decide +kernel
theorem dX8_ask_1 : decode cX8_ask 1 = .ok (.ifCond .lt 9, 3) := by decide +kernel
theorem dX8_ask_4 : decode cX8_ask 4 = .ok (.iload_n 3, 1) := by decide +kernel
theorem dX8_ask_5 : decode cX8_ask 5 = .ok (.bipush 64, 2) := by decide +kernel
theorem dX8_ask_7 : decode cX8_ask 7 = .ok (.if_icmp .le 5, 3) := by decide +kernel
theorem dX8_ask_10 : decode cX8_ask 10 = .ok (.iconst (-1), 1) := by decide +kernel
theorem dX8_ask_11 : decode cX8_ask 11 = .ok (.ireturn, 1) := by decide +kernel
theorem dX8_ask_12 : decode cX8_ask 12 = .ok (.aload_n 0, 1) := by decide +kernel
theorem dX8_ask_13 : decode cX8_ask 13 = .ok (.aload_n 0, 1) := by decide +kernel
theorem dX8_ask_14 : decode cX8_ask 14 = .ok (.getfield 12, 3) := by decide +kernel
theorem dX8_ask_17 : decode cX8_ask 17 = .ok (.getfield 39, 3) := by decide +kernel
theorem dX8_ask_20 : decode cX8_ask 20 = .ok (.lload_n 1, 1) := by decide +kernel
theorem dX8_ask_21 : decode cX8_ask 21 = .ok (.iload_n 3, 1) := by decide +kernel
theorem dX8_ask_22 : decode cX8_ask 22 = .ok (.invokevirtual 160, 3) := by decide +kernel
theorem dX8_ask_25 : decode cX8_ask 25 = .ok (.invokevirtual 163, 3) := by decide +kernel
theorem dX8_ask_28 : decode cX8_ask 28 = .ok (.ireturn, 1) := by decide +kernel
theorem dX8_alone_0 : decode cX8_alone 0 = .ok (.aload_n 0, 1) := by decide +kernel
theorem dX8_alone_1 : decode cX8_alone 1 = .ok (.getfield 12, 3) := by decide +kernel
theorem dX8_alone_4 : decode cX8_alone 4 = .ok (.getfield 166, 3) := by decide +kernel
theorem dX8_alone_7 : decode cX8_alone 7 = .ok (.ireturn, 1) := by decide +kernel
theorem dX8_descend_0 : decode cX8_descend 0 = .ok (.aload_n 0, 1) := by decide +kernel
theorem dX8_descend_1 : decode cX8_descend 1 = .ok (.getfield 12, 3) := by decide +kernel
theorem dX8_descend_4 : decode cX8_descend 4 = .ok (.getfield 169, 3) := by decide +kernel
theorem dX8_descend_7 : decode cX8_descend 7 = .ok (.invokevirtual 173, 3) := by decide +kernel
theorem dX8_descend_10 : decode cX8_descend 10 = .ok (.return_, 1) := by decide +kernel
theorem dX8_step_0 : decode cX8_step 0 = .ok (.aload_n 0, 1) := by decide +kernel
theorem dX8_step_1 : decode cX8_step 1 = .ok (.getfield 12, 3) := by decide +kernel
theorem dX8_step_4 : decode cX8_step 4 = .ok (.getfield 169, 3) := by decide +kernel
theorem dX8_step_7 : decode cX8_step 7 = .ok (.getfield 178, 3) := by decide +kernel
theorem dX8_step_10 : decode cX8_step 10 = .ok (.ifCond .ne 5, 3) := by decide +kernel
theorem dX8_step_13 : decode cX8_step 13 = .ok (.iconst (-1), 1) := by decide +kernel
theorem dX8_step_14 : decode cX8_step 14 = .ok (.ireturn, 1) := by decide +kernel
theorem dX8_step_15 : decode cX8_step 15 = .ok (.aload_n 0, 1) := by decide +kernel
theorem dX8_step_16 : decode cX8_step 16 = .ok (.getfield 12, 3) := by decide +kernel
theorem dX8_step_19 : decode cX8_step 19 = .ok (.getfield 169, 3) := by decide +kernel
theorem dX8_step_22 : decode cX8_step 22 = .ok (.invokevirtual 181, 3) := by decide +kernel
theorem dX8_step_25 : decode cX8_step 25 = .ok (.lstore_n 1, 1) := by decide +kernel
theorem dX8_step_26 : decode cX8_step 26 = .ok (.aload_n 0, 1) := by decide +kernel
theorem dX8_step_27 : decode cX8_step 27 = .ok (.getfield 12, 3) := by decide +kernel
theorem dX8_step_30 : decode cX8_step 30 = .ok (.getfield 169, 3) := by decide +kernel
theorem dX8_step_33 : decode cX8_step 33 = .ok (.invokevirtual 184, 3) := by decide +kernel
theorem dX8_step_36 : decode cX8_step 36 = .ok (.istore_n 3, 1) := by decide +kernel
theorem dX8_step_37 : decode cX8_step 37 = .ok (.aload_n 0, 1) := by decide +kernel
theorem dX8_step_38 : decode cX8_step 38 = .ok (.getfield 12, 3) := by decide +kernel
theorem dX8_step_41 : decode cX8_step 41 = .ok (.getfield 169, 3) := by decide +kernel
theorem dX8_step_44 : decode cX8_step 44 = .ok (.invokevirtual 188, 3) := by decide +kernel
theorem dX8_step_47 : decode cX8_step 47 = .ok (.aload_n 0, 1) := by decide +kernel
theorem dX8_step_48 : decode cX8_step 48 = .ok (.aload_n 0, 1) := by decide +kernel
theorem dX8_step_49 : decode cX8_step 49 = .ok (.getfield 12, 3) := by decide +kernel
theorem dX8_step_52 : decode cX8_step 52 = .ok (.getfield 39, 3) := by decide +kernel
theorem dX8_step_55 : decode cX8_step 55 = .ok (.lload_n 1, 1) := by decide +kernel
theorem dX8_step_56 : decode cX8_step 56 = .ok (.iload_n 3, 1) := by decide +kernel
theorem dX8_step_57 : decode cX8_step 57 = .ok (.invokevirtual 160, 3) := by decide +kernel
theorem dX8_step_60 : decode cX8_step 60 = .ok (.invokevirtual 163, 3) := by decide +kernel
theorem dX8_step_63 : decode cX8_step 63 = .ok (.istore 4, 2) := by decide +kernel
theorem dX8_step_65 : decode cX8_step 65 = .ok (.iload 4, 2) := by decide +kernel
theorem dX8_step_67 : decode cX8_step 67 = .ok (.iconst 1, 1) := by decide +kernel
theorem dX8_step_68 : decode cX8_step 68 = .ok (.if_icmp .ne 23, 3) := by decide +kernel
theorem dX8_step_71 : decode cX8_step 71 = .ok (.aload_n 0, 1) := by decide +kernel
theorem dX8_step_72 : decode cX8_step 72 = .ok (.getfield 12, 3) := by decide +kernel
theorem dX8_step_75 : decode cX8_step 75 = .ok (.getfield 94, 3) := by decide +kernel
theorem dX8_step_78 : decode cX8_step 78 = .ok (.aload_n 0, 1) := by decide +kernel
theorem dX8_step_79 : decode cX8_step 79 = .ok (.getfield 12, 3) := by decide +kernel
theorem dX8_step_82 : decode cX8_step 82 = .ok (.getfield 166, 3) := by decide +kernel
theorem dX8_step_85 : decode cX8_step 85 = .ok (.invokevirtual 148, 3) := by decide +kernel
theorem dX8_step_88 : decode cX8_step 88 = .ok (.goto 21, 3) := by decide +kernel
theorem dX8_step_91 : decode cX8_step 91 = .ok (.iload 4, 2) := by decide +kernel
theorem dX8_step_93 : decode cX8_step 93 = .ok (.iconst 2, 1) := by decide +kernel
theorem dX8_step_94 : decode cX8_step 94 = .ok (.if_icmp .ne 15, 3) := by decide +kernel
theorem dX8_step_97 : decode cX8_step 97 = .ok (.aload_n 0, 1) := by decide +kernel
theorem dX8_step_98 : decode cX8_step 98 = .ok (.getfield 12, 3) := by decide +kernel
theorem dX8_step_101 : decode cX8_step 101 = .ok (.getfield 169, 3) := by decide +kernel
theorem dX8_step_104 : decode cX8_step 104 = .ok (.lload_n 1, 1) := by decide +kernel
theorem dX8_step_105 : decode cX8_step 105 = .ok (.iload_n 3, 1) := by decide +kernel
theorem dX8_step_106 : decode cX8_step 106 = .ok (.invokevirtual 191, 3) := by decide +kernel
theorem dX8_step_109 : decode cX8_step 109 = .ok (.iload 4, 2) := by decide +kernel
theorem dX8_step_111 : decode cX8_step 111 = .ok (.ireturn, 1) := by decide +kernel
theorem dX8_nodes_0 : decode cX8_nodes 0 = .ok (.iconst 1, 1) := by decide +kernel
theorem dX8_nodes_1 : decode cX8_nodes 1 = .ok (.istore_n 1, 1) := by decide +kernel
theorem dX8_nodes_2 : decode cX8_nodes 2 = .ok (.aload_n 0, 1) := by decide +kernel
theorem dX8_nodes_3 : decode cX8_nodes 3 = .ok (.aload_n 0, 1) := by decide +kernel
theorem dX8_nodes_4 : decode cX8_nodes 4 = .ok (.getfield 12, 3) := by decide +kernel
theorem dX8_nodes_7 : decode cX8_nodes 7 = .ok (.getfield 39, 3) := by decide +kernel
theorem dX8_nodes_10 : decode cX8_nodes 10 = .ok (.invokevirtual 195, 3) := by decide +kernel
theorem dX8_nodes_13 : decode cX8_nodes 13 = .ok (.invokevirtual 198, 3) := by decide +kernel
theorem dX8_nodes_16 : decode cX8_nodes 16 = .ok (.aload_n 0, 1) := by decide +kernel
theorem dX8_nodes_17 : decode cX8_nodes 17 = .ok (.getfield 27, 3) := by decide +kernel
theorem dX8_nodes_20 : decode cX8_nodes 20 = .ok (.invokevirtual 202, 3) := by decide +kernel
theorem dX8_nodes_23 : decode cX8_nodes 23 = .ok (.iconst 0, 1) := by decide +kernel
theorem dX8_nodes_24 : decode cX8_nodes 24 = .ok (.istore_n 2, 1) := by decide +kernel
theorem dX8_nodes_25 : decode cX8_nodes 25 = .ok (.iload_n 2, 1) := by decide +kernel
theorem dX8_nodes_26 : decode cX8_nodes 26 = .ok (.bipush 64, 2) := by decide +kernel
theorem dX8_nodes_28 : decode cX8_nodes 28 = .ok (.if_icmp .ge 92, 3) := by decide +kernel
theorem dX8_nodes_31 : decode cX8_nodes 31 = .ok (.aload_n 0, 1) := by decide +kernel
theorem dX8_nodes_32 : decode cX8_nodes 32 = .ok (.getfield 27, 3) := by decide +kernel
theorem dX8_nodes_35 : decode cX8_nodes 35 = .ok (.getfield 205, 3) := by decide +kernel
theorem dX8_nodes_38 : decode cX8_nodes 38 = .ok (.ifCond .le 82, 3) := by decide +kernel
theorem dX8_nodes_41 : decode cX8_nodes 41 = .ok (.iconst 0, 1) := by decide +kernel
theorem dX8_nodes_42 : decode cX8_nodes 42 = .ok (.istore_n 3, 1) := by decide +kernel
theorem dX8_nodes_43 : decode cX8_nodes 43 = .ok (.iload_n 3, 1) := by decide +kernel
theorem dX8_nodes_44 : decode cX8_nodes 44 = .ok (.aload_n 0, 1) := by decide +kernel
theorem dX8_nodes_45 : decode cX8_nodes 45 = .ok (.getfield 27, 3) := by decide +kernel
theorem dX8_nodes_48 : decode cX8_nodes 48 = .ok (.getfield 205, 3) := by decide +kernel
theorem dX8_nodes_51 : decode cX8_nodes 51 = .ok (.if_icmp .ge 56, 3) := by decide +kernel
theorem dX8_nodes_54 : decode cX8_nodes 54 = .ok (.aload_n 0, 1) := by decide +kernel
theorem dX8_nodes_55 : decode cX8_nodes 55 = .ok (.getfield 27, 3) := by decide +kernel
theorem dX8_nodes_58 : decode cX8_nodes 58 = .ok (.iload_n 3, 1) := by decide +kernel
theorem dX8_nodes_59 : decode cX8_nodes 59 = .ok (.invokevirtual 206, 3) := by decide +kernel
theorem dX8_nodes_62 : decode cX8_nodes 62 = .ok (.lstore 4, 2) := by decide +kernel
theorem dX8_nodes_64 : decode cX8_nodes 64 = .ok (.aload_n 0, 1) := by decide +kernel
theorem dX8_nodes_65 : decode cX8_nodes 65 = .ok (.getfield 12, 3) := by decide +kernel
theorem dX8_nodes_68 : decode cX8_nodes 68 = .ok (.getfield 39, 3) := by decide +kernel
theorem dX8_nodes_71 : decode cX8_nodes 71 = .ok (.lload 4, 2) := by decide +kernel
theorem dX8_nodes_73 : decode cX8_nodes 73 = .ok (.iload_n 2, 1) := by decide +kernel
theorem dX8_nodes_74 : decode cX8_nodes 74 = .ok (.invokevirtual 119, 3) := by decide +kernel
theorem dX8_nodes_77 : decode cX8_nodes 77 = .ok (.lstore 6, 2) := by decide +kernel
theorem dX8_nodes_79 : decode cX8_nodes 79 = .ok (.aload_n 0, 1) := by decide +kernel
theorem dX8_nodes_80 : decode cX8_nodes 80 = .ok (.lload 6, 2) := by decide +kernel
theorem dX8_nodes_82 : decode cX8_nodes 82 = .ok (.invokevirtual 198, 3) := by decide +kernel
theorem dX8_nodes_85 : decode cX8_nodes 85 = .ok (.aload_n 0, 1) := by decide +kernel
theorem dX8_nodes_86 : decode cX8_nodes 86 = .ok (.lload 4, 2) := by decide +kernel
theorem dX8_nodes_88 : decode cX8_nodes 88 = .ok (.lload 6, 2) := by decide +kernel
theorem dX8_nodes_90 : decode cX8_nodes 90 = .ok (.ldc2_w 123, 3) := by decide +kernel
theorem dX8_nodes_93 : decode cX8_nodes 93 = .ok (.lxor, 1) := by decide +kernel
theorem dX8_nodes_94 : decode cX8_nodes 94 = .ok (.land, 1) := by decide +kernel
theorem dX8_nodes_95 : decode cX8_nodes 95 = .ok (.invokevirtual 198, 3) := by decide +kernel
theorem dX8_nodes_98 : decode cX8_nodes 98 = .ok (.iinc 1 2, 3) := by decide +kernel
theorem dX8_nodes_101 : decode cX8_nodes 101 = .ok (.iinc 3 1, 3) := by decide +kernel
theorem dX8_nodes_104 : decode cX8_nodes 104 = .ok (.goto (-61), 3) := by decide +kernel
theorem dX8_nodes_107 : decode cX8_nodes 107 = .ok (.aload_n 0, 1) := by decide +kernel
theorem dX8_nodes_108 : decode cX8_nodes 108 = .ok (.getfield 27, 3) := by decide +kernel
theorem dX8_nodes_111 : decode cX8_nodes 111 = .ok (.invokevirtual 202, 3) := by decide +kernel
theorem dX8_nodes_114 : decode cX8_nodes 114 = .ok (.iinc 2 1, 3) := by decide +kernel
theorem dX8_nodes_117 : decode cX8_nodes 117 = .ok (.goto (-92), 3) := by decide +kernel
theorem dX8_nodes_120 : decode cX8_nodes 120 = .ok (.iload_n 1, 1) := by decide +kernel
theorem dX8_nodes_121 : decode cX8_nodes 121 = .ok (.ireturn, 1) := by decide +kernel
theorem dX8_begin_0 : decode cX8_begin 0 = .ok (.aload_n 0, 1) := by decide +kernel
theorem dX8_begin_1 : decode cX8_begin 1 = .ok (.getfield 12, 3) := by decide +kernel
theorem dX8_begin_4 : decode cX8_begin 4 = .ok (.getfield 39, 3) := by decide +kernel
theorem dX8_begin_7 : decode cX8_begin 7 = .ok (.invokevirtual 210, 3) := by decide +kernel
theorem dX8_begin_10 : decode cX8_begin 10 = .ok (.lstore_n 1, 1) := by decide +kernel
theorem dX8_begin_11 : decode cX8_begin 11 = .ok (.aload_n 0, 1) := by decide +kernel
theorem dX8_begin_12 : decode cX8_begin 12 = .ok (.getfield 12, 3) := by decide +kernel
theorem dX8_begin_15 : decode cX8_begin 15 = .ok (.getfield 81, 3) := by decide +kernel
theorem dX8_begin_18 : decode cX8_begin 18 = .ok (.lload_n 1, 1) := by decide +kernel
theorem dX8_begin_19 : decode cX8_begin 19 = .ok (.invokevirtual 213, 3) := by decide +kernel
theorem dX8_begin_22 : decode cX8_begin 22 = .ok (.lload_n 1, 1) := by decide +kernel
theorem dX8_begin_23 : decode cX8_begin 23 = .ok (.invokestatic 114, 3) := by decide +kernel
theorem dX8_begin_26 : decode cX8_begin 26 = .ok (.ireturn, 1) := by decide +kernel
theorem dX8_split_0 : decode cX8_split 0 = .ok (.aload_n 0, 1) := by decide +kernel
theorem dX8_split_1 : decode cX8_split 1 = .ok (.getfield 12, 3) := by decide +kernel
theorem dX8_split_4 : decode cX8_split 4 = .ok (.getfield 81, 3) := by decide +kernel
theorem dX8_split_7 : decode cX8_split 7 = .ok (.invokevirtual 216, 3) := by decide +kernel
theorem dX8_split_10 : decode cX8_split 10 = .ok (.ifCond .ne 5, 3) := by decide +kernel
theorem dX8_split_13 : decode cX8_split 13 = .ok (.iconst (-1), 1) := by decide +kernel
theorem dX8_split_14 : decode cX8_split 14 = .ok (.ireturn, 1) := by decide +kernel
theorem dX8_split_15 : decode cX8_split 15 = .ok (.aload_n 0, 1) := by decide +kernel
theorem dX8_split_16 : decode cX8_split 16 = .ok (.getfield 12, 3) := by decide +kernel
theorem dX8_split_19 : decode cX8_split 19 = .ok (.getfield 39, 3) := by decide +kernel
theorem dX8_split_22 : decode cX8_split 22 = .ok (.invokevirtual 77, 3) := by decide +kernel
theorem dX8_split_25 : decode cX8_split 25 = .ok (.lstore_n 1, 1) := by decide +kernel
theorem dX8_split_26 : decode cX8_split 26 = .ok (.aload_n 0, 1) := by decide +kernel
theorem dX8_split_27 : decode cX8_split 27 = .ok (.getfield 12, 3) := by decide +kernel
theorem dX8_split_30 : decode cX8_split 30 = .ok (.getfield 81, 3) := by decide +kernel
theorem dX8_split_33 : decode cX8_split 33 = .ok (.lload_n 1, 1) := by decide +kernel
theorem dX8_split_34 : decode cX8_split 34 = .ok (.invokevirtual 220, 3) := by decide +kernel
theorem dX8_split_37 : decode cX8_split 37 = .ok (.lstore_n 3, 1) := by decide +kernel
theorem dX8_split_38 : decode cX8_split 38 = .ok (.aload_n 0, 1) := by decide +kernel
theorem dX8_split_39 : decode cX8_split 39 = .ok (.lload_n 3, 1) := by decide +kernel
theorem dX8_split_40 : decode cX8_split 40 = .ok (.invokevirtual 163, 3) := by decide +kernel
theorem dX8_split_43 : decode cX8_split 43 = .ok (.istore 5, 2) := by decide +kernel
theorem dX8_split_45 : decode cX8_split 45 = .ok (.iload 5, 2) := by decide +kernel
theorem dX8_split_47 : decode cX8_split 47 = .ok (.iconst 2, 1) := by decide +kernel
theorem dX8_split_48 : decode cX8_split 48 = .ok (.if_icmp .ne 29, 3) := by decide +kernel
theorem dX8_split_51 : decode cX8_split 51 = .ok (.aload_n 0, 1) := by decide +kernel
theorem dX8_split_52 : decode cX8_split 52 = .ok (.getfield 12, 3) := by decide +kernel
theorem dX8_split_55 : decode cX8_split 55 = .ok (.getfield 81, 3) := by decide +kernel
theorem dX8_split_58 : decode cX8_split 58 = .ok (.lload_n 1, 1) := by decide +kernel
theorem dX8_split_59 : decode cX8_split 59 = .ok (.lload_n 3, 1) := by decide +kernel
theorem dX8_split_60 : decode cX8_split 60 = .ok (.ldc2_w 123, 3) := by decide +kernel
theorem dX8_split_63 : decode cX8_split 63 = .ok (.lxor, 1) := by decide +kernel
theorem dX8_split_64 : decode cX8_split 64 = .ok (.land, 1) := by decide +kernel
theorem dX8_split_65 : decode cX8_split 65 = .ok (.iconst 1, 1) := by decide +kernel
theorem dX8_split_66 : decode cX8_split 66 = .ok (.invokevirtual 224, 3) := by decide +kernel
theorem dX8_split_69 : decode cX8_split 69 = .ok (.aload_n 0, 1) := by decide +kernel
theorem dX8_split_70 : decode cX8_split 70 = .ok (.lload_n 3, 1) := by decide +kernel
theorem dX8_split_71 : decode cX8_split 71 = .ok (.invokevirtual 227, 3) := by decide +kernel
theorem dX8_split_74 : decode cX8_split 74 = .ok (.iload 5, 2) := by decide +kernel
theorem dX8_split_76 : decode cX8_split 76 = .ok (.ireturn, 1) := by decide +kernel
theorem dX8_split_77 : decode cX8_split 77 = .ok (.iload 5, 2) := by decide +kernel
theorem dX8_split_79 : decode cX8_split 79 = .ok (.iconst 1, 1) := by decide +kernel
theorem dX8_split_80 : decode cX8_split 80 = .ok (.if_icmp .ne 31, 3) := by decide +kernel
theorem dX8_split_83 : decode cX8_split 83 = .ok (.aload_n 0, 1) := by decide +kernel
theorem dX8_split_84 : decode cX8_split 84 = .ok (.getfield 12, 3) := by decide +kernel
theorem dX8_split_87 : decode cX8_split 87 = .ok (.getfield 81, 3) := by decide +kernel
theorem dX8_split_90 : decode cX8_split 90 = .ok (.aload_n 0, 1) := by decide +kernel
theorem dX8_split_91 : decode cX8_split 91 = .ok (.getfield 12, 3) := by decide +kernel
theorem dX8_split_94 : decode cX8_split 94 = .ok (.getfield 166, 3) := by decide +kernel
theorem dX8_split_97 : decode cX8_split 97 = .ok (.invokevirtual 230, 3) := by decide +kernel
theorem dX8_split_100 : decode cX8_split 100 = .ok (.aload_n 0, 1) := by decide +kernel
theorem dX8_split_101 : decode cX8_split 101 = .ok (.aload_n 0, 1) := by decide +kernel
theorem dX8_split_102 : decode cX8_split 102 = .ok (.getfield 12, 3) := by decide +kernel
theorem dX8_split_105 : decode cX8_split 105 = .ok (.getfield 166, 3) := by decide +kernel
theorem dX8_split_108 : decode cX8_split 108 = .ok (.invokevirtual 233, 3) := by decide +kernel
theorem dX8_split_111 : decode cX8_split 111 = .ok (.aload_n 0, 1) := by decide +kernel
theorem dX8_split_112 : decode cX8_split 112 = .ok (.getfield 12, 3) := by decide +kernel
theorem dX8_split_115 : decode cX8_split 115 = .ok (.getfield 81, 3) := by decide +kernel
theorem dX8_split_118 : decode cX8_split 118 = .ok (.lload_n 1, 1) := by decide +kernel
theorem dX8_split_119 : decode cX8_split 119 = .ok (.iconst (-1), 1) := by decide +kernel
theorem dX8_split_120 : decode cX8_split 120 = .ok (.invokevirtual 224, 3) := by decide +kernel
theorem dX8_split_123 : decode cX8_split 123 = .ok (.iload 5, 2) := by decide +kernel
theorem dX8_split_125 : decode cX8_split 125 = .ok (.ireturn, 1) := by decide +kernel
theorem dX8_frames_0 : decode cX8_frames 0 = .ok (.aload_n 0, 1) := by decide +kernel
theorem dX8_frames_1 : decode cX8_frames 1 = .ok (.getfield 12, 3) := by decide +kernel
theorem dX8_frames_4 : decode cX8_frames 4 = .ok (.getfield 236, 3) := by decide +kernel
theorem dX8_frames_7 : decode cX8_frames 7 = .ok (.lconst 0, 1) := by decide +kernel
theorem dX8_frames_8 : decode cX8_frames 8 = .ok (.putfield 240, 3) := by decide +kernel
theorem dX8_frames_11 : decode cX8_frames 11 = .ok (.return_, 1) := by decide +kernel
theorem dX8_frame_0 : decode cX8_frame 0 = .ok (.iload_n 1, 1) := by decide +kernel
theorem dX8_frame_1 : decode cX8_frame 1 = .ok (.iconst 1, 1) := by decide +kernel
theorem dX8_frame_2 : decode cX8_frame 2 = .ok (.if_icmp .lt 9, 3) := by decide +kernel
theorem dX8_frame_5 : decode cX8_frame 5 = .ok (.iload_n 1, 1) := by decide +kernel
theorem dX8_frame_6 : decode cX8_frame 6 = .ok (.bipush 64, 2) := by decide +kernel
theorem dX8_frame_8 : decode cX8_frame 8 = .ok (.if_icmp .le 5, 3) := by decide +kernel
theorem dX8_frame_11 : decode cX8_frame 11 = .ok (.iconst (-1), 1) := by decide +kernel
theorem dX8_frame_12 : decode cX8_frame 12 = .ok (.ireturn, 1) := by decide +kernel
theorem dX8_frame_13 : decode cX8_frame 13 = .ok (.aload_n 0, 1) := by decide +kernel
theorem dX8_frame_14 : decode cX8_frame 14 = .ok (.iload_n 1, 1) := by decide +kernel
theorem dX8_frame_15 : decode cX8_frame 15 = .ok (.invokevirtual 245, 3) := by decide +kernel
theorem dX8_frame_18 : decode cX8_frame 18 = .ok (.aload_n 0, 1) := by decide +kernel
theorem dX8_frame_19 : decode cX8_frame 19 = .ok (.getfield 12, 3) := by decide +kernel
theorem dX8_frame_22 : decode cX8_frame 22 = .ok (.getfield 236, 3) := by decide +kernel
theorem dX8_frame_25 : decode cX8_frame 25 = .ok (.invokevirtual 248, 3) := by decide +kernel
theorem dX8_frame_28 : decode cX8_frame 28 = .ok (.iconst 0, 1) := by decide +kernel
theorem dX8_frame_29 : decode cX8_frame 29 = .ok (.istore_n 2, 1) := by decide +kernel
theorem dX8_frame_30 : decode cX8_frame 30 = .ok (.iload_n 2, 1) := by decide +kernel
theorem dX8_frame_31 : decode cX8_frame 31 = .ok (.iload_n 1, 1) := by decide +kernel
theorem dX8_frame_32 : decode cX8_frame 32 = .ok (.if_icmp .ge 80, 3) := by decide +kernel
theorem dX8_frame_35 : decode cX8_frame 35 = .ok (.aload_n 0, 1) := by decide +kernel
theorem dX8_frame_36 : decode cX8_frame 36 = .ok (.aload_n 0, 1) := by decide +kernel
theorem dX8_frame_37 : decode cX8_frame 37 = .ok (.getfield 20, 3) := by decide +kernel
theorem dX8_frame_40 : decode cX8_frame 40 = .ok (.iload_n 2, 1) := by decide +kernel
theorem dX8_frame_41 : decode cX8_frame 41 = .ok (.laload, 1) := by decide +kernel
theorem dX8_frame_42 : decode cX8_frame 42 = .ok (.invokevirtual 251, 3) := by decide +kernel
theorem dX8_frame_45 : decode cX8_frame 45 = .ok (.lstore_n 3, 1) := by decide +kernel
theorem dX8_frame_46 : decode cX8_frame 46 = .ok (.lload_n 3, 1) := by decide +kernel
theorem dX8_frame_47 : decode cX8_frame 47 = .ok (.invokestatic 254, 3) := by decide +kernel
theorem dX8_frame_50 : decode cX8_frame 50 = .ok (.istore 5, 2) := by decide +kernel
theorem dX8_frame_52 : decode cX8_frame 52 = .ok (.aload_n 0, 1) := by decide +kernel
theorem dX8_frame_53 : decode cX8_frame 53 = .ok (.getfield 12, 3) := by decide +kernel
theorem dX8_frame_56 : decode cX8_frame 56 = .ok (.getfield 94, 3) := by decide +kernel
theorem dX8_frame_59 : decode cX8_frame 59 = .ok (.iload 5, 2) := by decide +kernel
theorem dX8_frame_61 : decode cX8_frame 61 = .ok (.invokevirtual 257, 3) := by decide +kernel
theorem dX8_frame_64 : decode cX8_frame 64 = .ok (.aload_n 0, 1) := by decide +kernel
theorem dX8_frame_65 : decode cX8_frame 65 = .ok (.getfield 12, 3) := by decide +kernel
theorem dX8_frame_68 : decode cX8_frame 68 = .ok (.getfield 236, 3) := by decide +kernel
theorem dX8_frame_71 : decode cX8_frame 71 = .ok (.iload 5, 2) := by decide +kernel
theorem dX8_frame_73 : decode cX8_frame 73 = .ok (.invokevirtual 260, 3) := by decide +kernel
theorem dX8_frame_76 : decode cX8_frame 76 = .ok (.iload 5, 2) := by decide +kernel
theorem dX8_frame_78 : decode cX8_frame 78 = .ok (.iconst 1, 1) := by decide +kernel
theorem dX8_frame_79 : decode cX8_frame 79 = .ok (.if_icmp .ne 27, 3) := by decide +kernel
theorem dX8_frame_82 : decode cX8_frame 82 = .ok (.aload_n 0, 1) := by decide +kernel
theorem dX8_frame_83 : decode cX8_frame 83 = .ok (.getfield 12, 3) := by decide +kernel
theorem dX8_frame_86 : decode cX8_frame 86 = .ok (.getfield 236, 3) := by decide +kernel
theorem dX8_frame_89 : decode cX8_frame 89 = .ok (.dup, 1) := by decide +kernel
theorem dX8_frame_90 : decode cX8_frame 90 = .ok (.getfield 240, 3) := by decide +kernel
theorem dX8_frame_93 : decode cX8_frame 93 = .ok (.lload_n 3, 1) := by decide +kernel
theorem dX8_frame_94 : decode cX8_frame 94 = .ok (.lor, 1) := by decide +kernel
theorem dX8_frame_95 : decode cX8_frame 95 = .ok (.putfield 240, 3) := by decide +kernel
theorem dX8_frame_98 : decode cX8_frame 98 = .ok (.aload_n 0, 1) := by decide +kernel
theorem dX8_frame_99 : decode cX8_frame 99 = .ok (.lload_n 3, 1) := by decide +kernel
theorem dX8_frame_100 : decode cX8_frame 100 = .ok (.invokestatic 138, 3) := by decide +kernel
theorem dX8_frame_103 : decode cX8_frame 103 = .ok (.invokevirtual 233, 3) := by decide +kernel
theorem dX8_frame_106 : decode cX8_frame 106 = .ok (.iinc 2 1, 3) := by decide +kernel
theorem dX8_frame_109 : decode cX8_frame 109 = .ok (.goto (-79), 3) := by decide +kernel
theorem dX8_frame_112 : decode cX8_frame 112 = .ok (.aload_n 0, 1) := by decide +kernel
theorem dX8_frame_113 : decode cX8_frame 113 = .ok (.getfield 12, 3) := by decide +kernel
theorem dX8_frame_116 : decode cX8_frame 116 = .ok (.getfield 236, 3) := by decide +kernel
theorem dX8_frame_119 : decode cX8_frame 119 = .ok (.invokevirtual 263, 3) := by decide +kernel
theorem dX8_frame_122 : decode cX8_frame 122 = .ok (.aload_n 0, 1) := by decide +kernel
theorem dX8_frame_123 : decode cX8_frame 123 = .ok (.getfield 12, 3) := by decide +kernel
theorem dX8_frame_126 : decode cX8_frame 126 = .ok (.getfield 236, 3) := by decide +kernel
theorem dX8_frame_129 : decode cX8_frame 129 = .ok (.getfield 266, 3) := by decide +kernel
theorem dX8_frame_132 : decode cX8_frame 132 = .ok (.ireturn, 1) := by decide +kernel
theorem dX8_heard_0 : decode cX8_heard 0 = .ok (.iload_n 1, 1) := by decide +kernel
theorem dX8_heard_1 : decode cX8_heard 1 = .ok (.tableswitch 75 0 3 #[31, 42, 53, 64], 31) := by decide +kernel
theorem dX8_heard_32 : decode cX8_heard 32 = .ok (.aload_n 0, 1) := by decide +kernel
theorem dX8_heard_33 : decode cX8_heard 33 = .ok (.getfield 12, 3) := by decide +kernel
theorem dX8_heard_36 : decode cX8_heard 36 = .ok (.getfield 236, 3) := by decide +kernel
theorem dX8_heard_39 : decode cX8_heard 39 = .ok (.getfield 269, 3) := by decide +kernel
theorem dX8_heard_42 : decode cX8_heard 42 = .ok (.ireturn, 1) := by decide +kernel
theorem dX8_heard_43 : decode cX8_heard 43 = .ok (.aload_n 0, 1) := by decide +kernel
theorem dX8_heard_44 : decode cX8_heard 44 = .ok (.getfield 12, 3) := by decide +kernel
theorem dX8_heard_47 : decode cX8_heard 47 = .ok (.getfield 236, 3) := by decide +kernel
theorem dX8_heard_50 : decode cX8_heard 50 = .ok (.getfield 266, 3) := by decide +kernel
theorem dX8_heard_53 : decode cX8_heard 53 = .ok (.ireturn, 1) := by decide +kernel
theorem dX8_heard_54 : decode cX8_heard 54 = .ok (.aload_n 0, 1) := by decide +kernel
theorem dX8_heard_55 : decode cX8_heard 55 = .ok (.getfield 12, 3) := by decide +kernel
theorem dX8_heard_58 : decode cX8_heard 58 = .ok (.getfield 236, 3) := by decide +kernel
theorem dX8_heard_61 : decode cX8_heard 61 = .ok (.getfield 272, 3) := by decide +kernel
theorem dX8_heard_64 : decode cX8_heard 64 = .ok (.ireturn, 1) := by decide +kernel
theorem dX8_heard_65 : decode cX8_heard 65 = .ok (.aload_n 0, 1) := by decide +kernel
theorem dX8_heard_66 : decode cX8_heard 66 = .ok (.getfield 12, 3) := by decide +kernel
theorem dX8_heard_69 : decode cX8_heard 69 = .ok (.getfield 236, 3) := by decide +kernel
theorem dX8_heard_72 : decode cX8_heard 72 = .ok (.getfield 275, 3) := by decide +kernel
theorem dX8_heard_75 : decode cX8_heard 75 = .ok (.ireturn, 1) := by decide +kernel
theorem dX8_heard_76 : decode cX8_heard 76 = .ok (.iconst (-1), 1) := by decide +kernel
theorem dX8_heard_77 : decode cX8_heard 77 = .ok (.ireturn, 1) := by decide +kernel
theorem dX8_found_0 : decode cX8_found 0 = .ok (.aload_n 0, 1) := by decide +kernel
theorem dX8_found_1 : decode cX8_found 1 = .ok (.getfield 12, 3) := by decide +kernel
theorem dX8_found_4 : decode cX8_found 4 = .ok (.getfield 94, 3) := by decide +kernel
theorem dX8_found_7 : decode cX8_found 7 = .ok (.iload_n 1, 1) := by decide +kernel
theorem dX8_found_8 : decode cX8_found 8 = .ok (.invokevirtual 278, 3) := by decide +kernel
theorem dX8_found_11 : decode cX8_found 11 = .ok (.ireturn, 1) := by decide +kernel
theorem dX8_cost_0 : decode cX8_cost 0 = .ok (.iload_n 1, 1) := by decide +kernel
theorem dX8_cost_1 : decode cX8_cost 1 = .ok (.tableswitch 90 0 4 #[35, 46, 57, 68, 79], 35) := by decide +kernel
theorem dX8_cost_36 : decode cX8_cost 36 = .ok (.aload_n 0, 1) := by decide +kernel
theorem dX8_cost_37 : decode cX8_cost 37 = .ok (.getfield 12, 3) := by decide +kernel
theorem dX8_cost_40 : decode cX8_cost 40 = .ok (.getfield 94, 3) := by decide +kernel
theorem dX8_cost_43 : decode cX8_cost 43 = .ok (.getfield 281, 3) := by decide +kernel
theorem dX8_cost_46 : decode cX8_cost 46 = .ok (.ireturn, 1) := by decide +kernel
theorem dX8_cost_47 : decode cX8_cost 47 = .ok (.aload_n 0, 1) := by decide +kernel
theorem dX8_cost_48 : decode cX8_cost 48 = .ok (.getfield 12, 3) := by decide +kernel
theorem dX8_cost_51 : decode cX8_cost 51 = .ok (.getfield 94, 3) := by decide +kernel
theorem dX8_cost_54 : decode cX8_cost 54 = .ok (.getfield 284, 3) := by decide +kernel
theorem dX8_cost_57 : decode cX8_cost 57 = .ok (.ireturn, 1) := by decide +kernel
theorem dX8_cost_58 : decode cX8_cost 58 = .ok (.aload_n 0, 1) := by decide +kernel
theorem dX8_cost_59 : decode cX8_cost 59 = .ok (.getfield 12, 3) := by decide +kernel
theorem dX8_cost_62 : decode cX8_cost 62 = .ok (.getfield 94, 3) := by decide +kernel
theorem dX8_cost_65 : decode cX8_cost 65 = .ok (.getfield 287, 3) := by decide +kernel
theorem dX8_cost_68 : decode cX8_cost 68 = .ok (.ireturn, 1) := by decide +kernel
theorem dX8_cost_69 : decode cX8_cost 69 = .ok (.aload_n 0, 1) := by decide +kernel
theorem dX8_cost_70 : decode cX8_cost 70 = .ok (.getfield 12, 3) := by decide +kernel
theorem dX8_cost_73 : decode cX8_cost 73 = .ok (.getfield 94, 3) := by decide +kernel
theorem dX8_cost_76 : decode cX8_cost 76 = .ok (.getfield 290, 3) := by decide +kernel
theorem dX8_cost_79 : decode cX8_cost 79 = .ok (.ireturn, 1) := by decide +kernel
theorem dX8_cost_80 : decode cX8_cost 80 = .ok (.aload_n 0, 1) := by decide +kernel
theorem dX8_cost_81 : decode cX8_cost 81 = .ok (.getfield 12, 3) := by decide +kernel
theorem dX8_cost_84 : decode cX8_cost 84 = .ok (.getfield 94, 3) := by decide +kernel
theorem dX8_cost_87 : decode cX8_cost 87 = .ok (.invokevirtual 293, 3) := by decide +kernel
theorem dX8_cost_90 : decode cX8_cost 90 = .ok (.ireturn, 1) := by decide +kernel
theorem dX8_cost_91 : decode cX8_cost 91 = .ok (.iconst (-1), 1) := by decide +kernel
theorem dX8_cost_92 : decode cX8_cost 92 = .ok (.ireturn, 1) := by decide +kernel
theorem dX8_count_0 : decode cX8_count 0 = .ok (.iload_n 1, 1) := by decide +kernel
theorem dX8_count_1 : decode cX8_count 1 = .ok (.tableswitch 110 0 4 #[35, 46, 60, 71, 82], 35) := by decide +kernel
theorem dX8_count_36 : decode cX8_count 36 = .ok (.aload_n 0, 1) := by decide +kernel
theorem dX8_count_37 : decode cX8_count 37 = .ok (.getfield 12, 3) := by decide +kernel
theorem dX8_count_40 : decode cX8_count 40 = .ok (.getfield 39, 3) := by decide +kernel
theorem dX8_count_43 : decode cX8_count 43 = .ok (.getfield 296, 3) := by decide +kernel
theorem dX8_count_46 : decode cX8_count 46 = .ok (.ireturn, 1) := by decide +kernel
theorem dX8_count_47 : decode cX8_count 47 = .ok (.aload_n 0, 1) := by decide +kernel
theorem dX8_count_48 : decode cX8_count 48 = .ok (.getfield 12, 3) := by decide +kernel
theorem dX8_count_51 : decode cX8_count 51 = .ok (.getfield 39, 3) := by decide +kernel
theorem dX8_count_54 : decode cX8_count 54 = .ok (.invokevirtual 77, 3) := by decide +kernel
theorem dX8_count_57 : decode cX8_count 57 = .ok (.invokestatic 114, 3) := by decide +kernel
theorem dX8_count_60 : decode cX8_count 60 = .ok (.ireturn, 1) := by decide +kernel
theorem dX8_count_61 : decode cX8_count 61 = .ok (.aload_n 0, 1) := by decide +kernel
theorem dX8_count_62 : decode cX8_count 62 = .ok (.getfield 12, 3) := by decide +kernel
theorem dX8_count_65 : decode cX8_count 65 = .ok (.getfield 94, 3) := by decide +kernel
theorem dX8_count_68 : decode cX8_count 68 = .ok (.getfield 297, 3) := by decide +kernel
theorem dX8_count_71 : decode cX8_count 71 = .ok (.ireturn, 1) := by decide +kernel
theorem dX8_count_72 : decode cX8_count 72 = .ok (.aload_n 0, 1) := by decide +kernel
theorem dX8_count_73 : decode cX8_count 73 = .ok (.getfield 12, 3) := by decide +kernel
theorem dX8_count_76 : decode cX8_count 76 = .ok (.getfield 169, 3) := by decide +kernel
theorem dX8_count_79 : decode cX8_count 79 = .ok (.getfield 178, 3) := by decide +kernel
theorem dX8_count_82 : decode cX8_count 82 = .ok (.ireturn, 1) := by decide +kernel
theorem dX8_count_83 : decode cX8_count 83 = .ok (.aload_n 0, 1) := by decide +kernel
theorem dX8_count_84 : decode cX8_count 84 = .ok (.getfield 12, 3) := by decide +kernel
theorem dX8_count_87 : decode cX8_count 87 = .ok (.getfield 81, 3) := by decide +kernel
theorem dX8_count_90 : decode cX8_count 90 = .ok (.invokevirtual 216, 3) := by decide +kernel
theorem dX8_count_93 : decode cX8_count 93 = .ok (.ifCond .eq 16, 3) := by decide +kernel
theorem dX8_count_96 : decode cX8_count 96 = .ok (.aload_n 0, 1) := by decide +kernel
theorem dX8_count_97 : decode cX8_count 97 = .ok (.getfield 12, 3) := by decide +kernel
theorem dX8_count_100 : decode cX8_count 100 = .ok (.getfield 81, 3) := by decide +kernel
theorem dX8_count_103 : decode cX8_count 103 = .ok (.getfield 300, 3) := by decide +kernel
theorem dX8_count_106 : decode cX8_count 106 = .ok (.goto 4, 3) := by decide +kernel
theorem dX8_count_109 : decode cX8_count 109 = .ok (.iconst (-1), 1) := by decide +kernel
theorem dX8_count_110 : decode cX8_count 110 = .ok (.ireturn, 1) := by decide +kernel
theorem dX8_count_111 : decode cX8_count 111 = .ok (.iconst (-1), 1) := by decide +kernel
theorem dX8_count_112 : decode cX8_count 112 = .ok (.ireturn, 1) := by decide +kernel
theorem dX8_image_0 : decode cX8_image 0 = .ok (.iload_n 1, 1) := by decide +kernel
theorem dX8_image_1 : decode cX8_image 1 = .ok (.ifCond .lt 8, 3) := by decide +kernel
theorem dX8_image_4 : decode cX8_image 4 = .ok (.iload_n 1, 1) := by decide +kernel
theorem dX8_image_5 : decode cX8_image 5 = .ok (.iconst 4, 1) := by decide +kernel
theorem dX8_image_6 : decode cX8_image 6 = .ok (.if_icmp .lt 5, 3) := by decide +kernel
theorem dX8_image_9 : decode cX8_image 9 = .ok (.iconst 0, 1) := by decide +kernel
theorem dX8_image_10 : decode cX8_image 10 = .ok (.ireturn, 1) := by decide +kernel
theorem dX8_image_11 : decode cX8_image 11 = .ok (.aload_n 0, 1) := by decide +kernel
theorem dX8_image_12 : decode cX8_image 12 = .ok (.getfield 16, 3) := by decide +kernel
theorem dX8_image_15 : decode cX8_image 15 = .ok (.iload_n 1, 1) := by decide +kernel
theorem dX8_image_16 : decode cX8_image 16 = .ok (.aaload, 1) := by decide +kernel
theorem dX8_image_17 : decode cX8_image 17 = .ok (.astore_n 2, 1) := by decide +kernel
theorem dX8_image_18 : decode cX8_image 18 = .ok (.aload_n 2, 1) := by decide +kernel
theorem dX8_image_19 : decode cX8_image 19 = .ok (.ifnonnull 18, 3) := by decide +kernel
theorem dX8_image_22 : decode cX8_image 22 = .ok (.new 9, 3) := by decide +kernel
theorem dX8_image_25 : decode cX8_image 25 = .ok (.dup, 1) := by decide +kernel
theorem dX8_image_26 : decode cX8_image 26 = .ok (.invokespecial 11, 3) := by decide +kernel
theorem dX8_image_29 : decode cX8_image 29 = .ok (.astore_n 2, 1) := by decide +kernel
theorem dX8_image_30 : decode cX8_image 30 = .ok (.aload_n 0, 1) := by decide +kernel
theorem dX8_image_31 : decode cX8_image 31 = .ok (.getfield 16, 3) := by decide +kernel
theorem dX8_image_34 : decode cX8_image 34 = .ok (.iload_n 1, 1) := by decide +kernel
theorem dX8_image_35 : decode cX8_image 35 = .ok (.aload_n 2, 1) := by decide +kernel
theorem dX8_image_36 : decode cX8_image 36 = .ok (.aastore, 1) := by decide +kernel
theorem dX8_image_37 : decode cX8_image 37 = .ok (.aload_n 2, 1) := by decide +kernel
theorem dX8_image_38 : decode cX8_image 38 = .ok (.aload_n 0, 1) := by decide +kernel
theorem dX8_image_39 : decode cX8_image 39 = .ok (.getfield 12, 3) := by decide +kernel
theorem dX8_image_42 : decode cX8_image 42 = .ok (.invokevirtual 303, 3) := by decide +kernel
theorem dX8_image_45 : decode cX8_image 45 = .ok (.iconst 1, 1) := by decide +kernel
theorem dX8_image_46 : decode cX8_image 46 = .ok (.ireturn, 1) := by decide +kernel
theorem dX8_again_0 : decode cX8_again 0 = .ok (.iload_n 1, 1) := by decide +kernel
theorem dX8_again_1 : decode cX8_again 1 = .ok (.ifCond .lt 8, 3) := by decide +kernel
theorem dX8_again_4 : decode cX8_again 4 = .ok (.iload_n 1, 1) := by decide +kernel
theorem dX8_again_5 : decode cX8_again 5 = .ok (.iconst 4, 1) := by decide +kernel
theorem dX8_again_6 : decode cX8_again 6 = .ok (.if_icmp .lt 5, 3) := by decide +kernel
theorem dX8_again_9 : decode cX8_again 9 = .ok (.iconst 0, 1) := by decide +kernel
theorem dX8_again_10 : decode cX8_again 10 = .ok (.ireturn, 1) := by decide +kernel
theorem dX8_again_11 : decode cX8_again 11 = .ok (.aload_n 0, 1) := by decide +kernel
theorem dX8_again_12 : decode cX8_again 12 = .ok (.getfield 16, 3) := by decide +kernel
theorem dX8_again_15 : decode cX8_again 15 = .ok (.iload_n 1, 1) := by decide +kernel
theorem dX8_again_16 : decode cX8_again 16 = .ok (.aaload, 1) := by decide +kernel
theorem dX8_again_17 : decode cX8_again 17 = .ok (.astore_n 2, 1) := by decide +kernel
theorem dX8_again_18 : decode cX8_again 18 = .ok (.aload_n 2, 1) := by decide +kernel
theorem dX8_again_19 : decode cX8_again 19 = .ok (.ifnonnull 5, 3) := by decide +kernel
theorem dX8_again_22 : decode cX8_again 22 = .ok (.iconst 0, 1) := by decide +kernel
theorem dX8_again_23 : decode cX8_again 23 = .ok (.ireturn, 1) := by decide +kernel
theorem dX8_again_24 : decode cX8_again 24 = .ok (.aload_n 0, 1) := by decide +kernel
theorem dX8_again_25 : decode cX8_again 25 = .ok (.getfield 12, 3) := by decide +kernel
theorem dX8_again_28 : decode cX8_again 28 = .ok (.aload_n 2, 1) := by decide +kernel
theorem dX8_again_29 : decode cX8_again 29 = .ok (.invokevirtual 303, 3) := by decide +kernel
theorem dX8_again_32 : decode cX8_again 32 = .ok (.iconst 1, 1) := by decide +kernel
theorem dX8_again_33 : decode cX8_again 33 = .ok (.ireturn, 1) := by decide +kernel
theorem dX8_hearSlot_0 : decode cX8_hearSlot 0 = .ok (.aload_n 0, 1) := by decide +kernel
theorem dX8_hearSlot_1 : decode cX8_hearSlot 1 = .ok (.lload_n 1, 1) := by decide +kernel
theorem dX8_hearSlot_2 : decode cX8_hearSlot 2 = .ok (.invokevirtual 251, 3) := by decide +kernel
theorem dX8_hearSlot_5 : decode cX8_hearSlot 5 = .ok (.lstore_n 3, 1) := by decide +kernel
theorem dX8_hearSlot_6 : decode cX8_hearSlot 6 = .ok (.lload_n 3, 1) := by decide +kernel
theorem dX8_hearSlot_7 : decode cX8_hearSlot 7 = .ok (.invokestatic 254, 3) := by decide +kernel
theorem dX8_hearSlot_10 : decode cX8_hearSlot 10 = .ok (.istore 5, 2) := by decide +kernel
theorem dX8_hearSlot_12 : decode cX8_hearSlot 12 = .ok (.aload_n 0, 1) := by decide +kernel
theorem dX8_hearSlot_13 : decode cX8_hearSlot 13 = .ok (.getfield 12, 3) := by decide +kernel
theorem dX8_hearSlot_16 : decode cX8_hearSlot 16 = .ok (.getfield 94, 3) := by decide +kernel
theorem dX8_hearSlot_19 : decode cX8_hearSlot 19 = .ok (.iload 5, 2) := by decide +kernel
theorem dX8_hearSlot_21 : decode cX8_hearSlot 21 = .ok (.invokevirtual 257, 3) := by decide +kernel
theorem dX8_hearSlot_24 : decode cX8_hearSlot 24 = .ok (.aload_n 0, 1) := by decide +kernel
theorem dX8_hearSlot_25 : decode cX8_hearSlot 25 = .ok (.getfield 12, 3) := by decide +kernel
theorem dX8_hearSlot_28 : decode cX8_hearSlot 28 = .ok (.iload 5, 2) := by decide +kernel
theorem dX8_hearSlot_30 : decode cX8_hearSlot 30 = .ok (.iconst 1, 1) := by decide +kernel
theorem dX8_hearSlot_31 : decode cX8_hearSlot 31 = .ok (.if_icmp .ne 10, 3) := by decide +kernel
theorem dX8_hearSlot_34 : decode cX8_hearSlot 34 = .ok (.lload_n 3, 1) := by decide +kernel
theorem dX8_hearSlot_35 : decode cX8_hearSlot 35 = .ok (.invokestatic 138, 3) := by decide +kernel
theorem dX8_hearSlot_38 : decode cX8_hearSlot 38 = .ok (.goto 4, 3) := by decide +kernel
theorem dX8_hearSlot_41 : decode cX8_hearSlot 41 = .ok (.iconst (-1), 1) := by decide +kernel
theorem dX8_hearSlot_42 : decode cX8_hearSlot 42 = .ok (.putfield 166, 3) := by decide +kernel
theorem dX8_hearSlot_45 : decode cX8_hearSlot 45 = .ok (.iload 5, 2) := by decide +kernel
theorem dX8_hearSlot_47 : decode cX8_hearSlot 47 = .ok (.ireturn, 1) := by decide +kernel
theorem dX8_audibleOf_0 : decode cX8_audibleOf 0 = .ok (.lload_n 1, 1) := by decide +kernel
theorem dX8_audibleOf_1 : decode cX8_audibleOf 1 = .ok (.aload_n 0, 1) := by decide +kernel
theorem dX8_audibleOf_2 : decode cX8_audibleOf 2 = .ok (.getfield 12, 3) := by decide +kernel
theorem dX8_audibleOf_5 : decode cX8_audibleOf 5 = .ok (.getfield 39, 3) := by decide +kernel
theorem dX8_audibleOf_8 : decode cX8_audibleOf 8 = .ok (.getfield 307, 3) := by decide +kernel
theorem dX8_audibleOf_11 : decode cX8_audibleOf 11 = .ok (.iconst 5, 1) := by decide +kernel
theorem dX8_audibleOf_12 : decode cX8_audibleOf 12 = .ok (.laload, 1) := by decide +kernel
theorem dX8_audibleOf_13 : decode cX8_audibleOf 13 = .ok (.ldc2_w 123, 3) := by decide +kernel
theorem dX8_audibleOf_16 : decode cX8_audibleOf 16 = .ok (.lxor, 1) := by decide +kernel
theorem dX8_audibleOf_17 : decode cX8_audibleOf 17 = .ok (.land, 1) := by decide +kernel
theorem dX8_audibleOf_18 : decode cX8_audibleOf 18 = .ok (.lstore_n 3, 1) := by decide +kernel
theorem dX8_audibleOf_19 : decode cX8_audibleOf 19 = .ok (.aload_n 0, 1) := by decide +kernel
theorem dX8_audibleOf_20 : decode cX8_audibleOf 20 = .ok (.getfield 12, 3) := by decide +kernel
theorem dX8_audibleOf_23 : decode cX8_audibleOf 23 = .ok (.getfield 31, 3) := by decide +kernel
theorem dX8_audibleOf_26 : decode cX8_audibleOf 26 = .ok (.iconst 1, 1) := by decide +kernel
theorem dX8_audibleOf_27 : decode cX8_audibleOf 27 = .ok (.if_icmp .ne 15, 3) := by decide +kernel
theorem dX8_audibleOf_30 : decode cX8_audibleOf 30 = .ok (.lload_n 3, 1) := by decide +kernel
theorem dX8_audibleOf_31 : decode cX8_audibleOf 31 = .ok (.invokestatic 254, 3) := by decide +kernel
theorem dX8_audibleOf_34 : decode cX8_audibleOf 34 = .ok (.iconst 1, 1) := by decide +kernel
theorem dX8_audibleOf_35 : decode cX8_audibleOf 35 = .ok (.if_icmp .ne 7, 3) := by decide +kernel
theorem dX8_audibleOf_38 : decode cX8_audibleOf 38 = .ok (.iconst 1, 1) := by decide +kernel
theorem dX8_audibleOf_39 : decode cX8_audibleOf 39 = .ok (.goto 4, 3) := by decide +kernel
theorem dX8_audibleOf_42 : decode cX8_audibleOf 42 = .ok (.iconst 0, 1) := by decide +kernel
theorem dX8_audibleOf_43 : decode cX8_audibleOf 43 = .ok (.istore 5, 2) := by decide +kernel
theorem dX8_audibleOf_45 : decode cX8_audibleOf 45 = .ok (.iload 5, 2) := by decide +kernel
theorem dX8_audibleOf_47 : decode cX8_audibleOf 47 = .ok (.ifCond .eq 7, 3) := by decide +kernel
theorem dX8_audibleOf_50 : decode cX8_audibleOf 50 = .ok (.lload_n 3, 1) := by decide +kernel
theorem dX8_audibleOf_51 : decode cX8_audibleOf 51 = .ok (.goto 4, 3) := by decide +kernel
theorem dX8_audibleOf_54 : decode cX8_audibleOf 54 = .ok (.lload_n 1, 1) := by decide +kernel
theorem dX8_audibleOf_55 : decode cX8_audibleOf 55 = .ok (.lreturn, 1) := by decide +kernel
theorem dX8_admitCrowd_0 : decode cX8_admitCrowd 0 = .ok (.aload_n 0, 1) := by decide +kernel
theorem dX8_admitCrowd_1 : decode cX8_admitCrowd 1 = .ok (.lload_n 1, 1) := by decide +kernel
theorem dX8_admitCrowd_2 : decode cX8_admitCrowd 2 = .ok (.invokevirtual 251, 3) := by decide +kernel
theorem dX8_admitCrowd_5 : decode cX8_admitCrowd 5 = .ok (.invokestatic 254, 3) := by decide +kernel
theorem dX8_admitCrowd_8 : decode cX8_admitCrowd 8 = .ok (.iconst 2, 1) := by decide +kernel
theorem dX8_admitCrowd_9 : decode cX8_admitCrowd 9 = .ok (.if_icmp .ne 11, 3) := by decide +kernel
theorem dX8_admitCrowd_12 : decode cX8_admitCrowd 12 = .ok (.aload_n 0, 1) := by decide +kernel
theorem dX8_admitCrowd_13 : decode cX8_admitCrowd 13 = .ok (.getfield 27, 3) := by decide +kernel
theorem dX8_admitCrowd_16 : decode cX8_admitCrowd 16 = .ok (.lload_n 1, 1) := by decide +kernel
theorem dX8_admitCrowd_17 : decode cX8_admitCrowd 17 = .ok (.invokevirtual 310, 3) := by decide +kernel
theorem dX8_admitCrowd_20 : decode cX8_admitCrowd 20 = .ok (.return_, 1) := by decide +kernel
theorem dX8_findAndTire_0 : decode cX8_findAndTire 0 = .ok (.aload_n 0, 1) := by decide +kernel
theorem dX8_findAndTire_1 : decode cX8_findAndTire 1 = .ok (.getfield 12, 3) := by decide +kernel
theorem dX8_findAndTire_4 : decode cX8_findAndTire 4 = .ok (.getfield 94, 3) := by decide +kernel
theorem dX8_findAndTire_7 : decode cX8_findAndTire 7 = .ok (.iload_n 1, 1) := by decide +kernel
theorem dX8_findAndTire_8 : decode cX8_findAndTire 8 = .ok (.invokevirtual 148, 3) := by decide +kernel
theorem dX8_findAndTire_11 : decode cX8_findAndTire 11 = .ok (.aload_n 0, 1) := by decide +kernel
theorem dX8_findAndTire_12 : decode cX8_findAndTire 12 = .ok (.getfield 12, 3) := by decide +kernel
theorem dX8_findAndTire_15 : decode cX8_findAndTire 15 = .ok (.getfield 39, 3) := by decide +kernel
theorem dX8_findAndTire_18 : decode cX8_findAndTire 18 = .ok (.iload_n 1, 1) := by decide +kernel
theorem dX8_findAndTire_19 : decode cX8_findAndTire 19 = .ok (.invokevirtual 313, 3) := by decide +kernel
theorem dX8_findAndTire_22 : decode cX8_findAndTire 22 = .ok (.return_, 1) := by decide +kernel
theorem dX8_drawCounters_0 : decode cX8_drawCounters 0 = .ok (.iconst 0, 1) := by decide +kernel
theorem dX8_drawCounters_1 : decode cX8_drawCounters 1 = .ok (.istore_n 3, 1) := by decide +kernel
theorem dX8_drawCounters_2 : decode cX8_drawCounters 2 = .ok (.iload_n 3, 1) := by decide +kernel
theorem dX8_drawCounters_3 : decode cX8_drawCounters 3 = .ok (.aload_n 0, 1) := by decide +kernel
theorem dX8_drawCounters_4 : decode cX8_drawCounters 4 = .ok (.getfield 12, 3) := by decide +kernel
theorem dX8_drawCounters_7 : decode cX8_drawCounters 7 = .ok (.getfield 39, 3) := by decide +kernel
theorem dX8_drawCounters_10 : decode cX8_drawCounters 10 = .ok (.getfield 296, 3) := by decide +kernel
theorem dX8_drawCounters_13 : decode cX8_drawCounters 13 = .ok (.if_icmp .ge 40, 3) := by decide +kernel
theorem dX8_drawCounters_16 : decode cX8_drawCounters 16 = .ok (.lload_n 1, 1) := by decide +kernel
theorem dX8_drawCounters_17 : decode cX8_drawCounters 17 = .ok (.iload_n 3, 1) := by decide +kernel
theorem dX8_drawCounters_18 : decode cX8_drawCounters 18 = .ok (.invokestatic 66, 3) := by decide +kernel
theorem dX8_drawCounters_21 : decode cX8_drawCounters 21 = .ok (.ifCond .eq 26, 3) := by decide +kernel
theorem dX8_drawCounters_24 : decode cX8_drawCounters 24 = .ok (.aload_n 0, 1) := by decide +kernel
theorem dX8_drawCounters_25 : decode cX8_drawCounters 25 = .ok (.getfield 12, 3) := by decide +kernel
theorem dX8_drawCounters_28 : decode cX8_drawCounters 28 = .ok (.getfield 81, 3) := by decide +kernel
theorem dX8_drawCounters_31 : decode cX8_drawCounters 31 = .ok (.iload_n 3, 1) := by decide +kernel
theorem dX8_drawCounters_32 : decode cX8_drawCounters 32 = .ok (.aload_n 0, 1) := by decide +kernel
theorem dX8_drawCounters_33 : decode cX8_drawCounters 33 = .ok (.getfield 12, 3) := by decide +kernel
theorem dX8_drawCounters_36 : decode cX8_drawCounters 36 = .ok (.getfield 39, 3) := by decide +kernel
theorem dX8_drawCounters_39 : decode cX8_drawCounters 39 = .ok (.iload_n 3, 1) := by decide +kernel
theorem dX8_drawCounters_40 : decode cX8_drawCounters 40 = .ok (.iconst 2, 1) := by decide +kernel
theorem dX8_drawCounters_41 : decode cX8_drawCounters 41 = .ok (.invokevirtual 316, 3) := by decide +kernel
theorem dX8_drawCounters_44 : decode cX8_drawCounters 44 = .ok (.invokevirtual 320, 3) := by decide +kernel
theorem dX8_drawCounters_47 : decode cX8_drawCounters 47 = .ok (.iinc 3 1, 3) := by decide +kernel
theorem dX8_drawCounters_50 : decode cX8_drawCounters 50 = .ok (.goto (-48), 3) := by decide +kernel
theorem dX8_drawCounters_53 : decode cX8_drawCounters 53 = .ok (.return_, 1) := by decide +kernel
theorem dX8_drawSlots_0 : decode cX8_drawSlots 0 = .ok (.aload_n 0, 1) := by decide +kernel
theorem dX8_drawSlots_1 : decode cX8_drawSlots 1 = .ok (.getfield 20, 3) := by decide +kernel
theorem dX8_drawSlots_4 : decode cX8_drawSlots 4 = .ok (.lconst 0, 1) := by decide +kernel
theorem dX8_drawSlots_5 : decode cX8_drawSlots 5 = .ok (.invokestatic 324, 3) := by decide +kernel
theorem dX8_drawSlots_8 : decode cX8_drawSlots 8 = .ok (.aload_n 0, 1) := by decide +kernel
theorem dX8_drawSlots_9 : decode cX8_drawSlots 9 = .ok (.getfield 12, 3) := by decide +kernel
theorem dX8_drawSlots_12 : decode cX8_drawSlots 12 = .ok (.getfield 39, 3) := by decide +kernel
theorem dX8_drawSlots_15 : decode cX8_drawSlots 15 = .ok (.invokevirtual 330, 3) := by decide +kernel
theorem dX8_drawSlots_18 : decode cX8_drawSlots 18 = .ok (.aload_n 0, 1) := by decide +kernel
theorem dX8_drawSlots_19 : decode cX8_drawSlots 19 = .ok (.getfield 12, 3) := by decide +kernel
theorem dX8_drawSlots_22 : decode cX8_drawSlots 22 = .ok (.getfield 236, 3) := by decide +kernel
theorem dX8_drawSlots_25 : decode cX8_drawSlots 25 = .ok (.getfield 240, 3) := by decide +kernel
theorem dX8_drawSlots_28 : decode cX8_drawSlots 28 = .ok (.ldc2_w 123, 3) := by decide +kernel
theorem dX8_drawSlots_31 : decode cX8_drawSlots 31 = .ok (.lxor, 1) := by decide +kernel
theorem dX8_drawSlots_32 : decode cX8_drawSlots 32 = .ok (.land, 1) := by decide +kernel
theorem dX8_drawSlots_33 : decode cX8_drawSlots 33 = .ok (.lstore_n 2, 1) := by decide +kernel
theorem dX8_drawSlots_34 : decode cX8_drawSlots 34 = .ok (.iconst 0, 1) := by decide +kernel
theorem dX8_drawSlots_35 : decode cX8_drawSlots 35 = .ok (.istore 4, 2) := by decide +kernel
theorem dX8_drawSlots_37 : decode cX8_drawSlots 37 = .ok (.iload 4, 2) := by decide +kernel
theorem dX8_drawSlots_39 : decode cX8_drawSlots 39 = .ok (.aload_n 0, 1) := by decide +kernel
theorem dX8_drawSlots_40 : decode cX8_drawSlots 40 = .ok (.getfield 12, 3) := by decide +kernel
theorem dX8_drawSlots_43 : decode cX8_drawSlots 43 = .ok (.getfield 39, 3) := by decide +kernel
theorem dX8_drawSlots_46 : decode cX8_drawSlots 46 = .ok (.getfield 296, 3) := by decide +kernel
theorem dX8_drawSlots_49 : decode cX8_drawSlots 49 = .ok (.if_icmp .ge 60, 3) := by decide +kernel
theorem dX8_drawSlots_52 : decode cX8_drawSlots 52 = .ok (.lload_n 2, 1) := by decide +kernel
theorem dX8_drawSlots_53 : decode cX8_drawSlots 53 = .ok (.iload 4, 2) := by decide +kernel
theorem dX8_drawSlots_55 : decode cX8_drawSlots 55 = .ok (.invokestatic 66, 3) := by decide +kernel
theorem dX8_drawSlots_58 : decode cX8_drawSlots 58 = .ok (.ifCond .eq 45, 3) := by decide +kernel
theorem dX8_drawSlots_61 : decode cX8_drawSlots 61 = .ok (.aload_n 0, 1) := by decide +kernel
theorem dX8_drawSlots_62 : decode cX8_drawSlots 62 = .ok (.getfield 12, 3) := by decide +kernel
theorem dX8_drawSlots_65 : decode cX8_drawSlots 65 = .ok (.getfield 39, 3) := by decide +kernel
theorem dX8_drawSlots_68 : decode cX8_drawSlots 68 = .ok (.iload 4, 2) := by decide +kernel
theorem dX8_drawSlots_70 : decode cX8_drawSlots 70 = .ok (.iload_n 1, 1) := by decide +kernel
theorem dX8_drawSlots_71 : decode cX8_drawSlots 71 = .ok (.invokevirtual 316, 3) := by decide +kernel
theorem dX8_drawSlots_74 : decode cX8_drawSlots 74 = .ok (.istore 5, 2) := by decide +kernel
theorem dX8_drawSlots_76 : decode cX8_drawSlots 76 = .ok (.iload 5, 2) := by decide +kernel
theorem dX8_drawSlots_78 : decode cX8_drawSlots 78 = .ok (.ifCond .lt 25, 3) := by decide +kernel
theorem dX8_drawSlots_81 : decode cX8_drawSlots 81 = .ok (.iload 5, 2) := by decide +kernel
theorem dX8_drawSlots_83 : decode cX8_drawSlots 83 = .ok (.bipush 64, 2) := by decide +kernel
theorem dX8_drawSlots_85 : decode cX8_drawSlots 85 = .ok (.if_icmp .ge 18, 3) := by decide +kernel
theorem dX8_drawSlots_88 : decode cX8_drawSlots 88 = .ok (.aload_n 0, 1) := by decide +kernel
theorem dX8_drawSlots_89 : decode cX8_drawSlots 89 = .ok (.getfield 20, 3) := by decide +kernel
theorem dX8_drawSlots_92 : decode cX8_drawSlots 92 = .ok (.iload 5, 2) := by decide +kernel
theorem dX8_drawSlots_94 : decode cX8_drawSlots 94 = .ok (.dup2, 1) := by decide +kernel
theorem dX8_drawSlots_95 : decode cX8_drawSlots 95 = .ok (.laload, 1) := by decide +kernel
theorem dX8_drawSlots_96 : decode cX8_drawSlots 96 = .ok (.iload 4, 2) := by decide +kernel
theorem dX8_drawSlots_98 : decode cX8_drawSlots 98 = .ok (.invokestatic 333, 3) := by decide +kernel
theorem dX8_drawSlots_101 : decode cX8_drawSlots 101 = .ok (.lor, 1) := by decide +kernel
theorem dX8_drawSlots_102 : decode cX8_drawSlots 102 = .ok (.lastore, 1) := by decide +kernel
theorem dX8_drawSlots_103 : decode cX8_drawSlots 103 = .ok (.iinc 4 1, 3) := by decide +kernel
theorem dX8_drawSlots_106 : decode cX8_drawSlots 106 = .ok (.goto (-69), 3) := by decide +kernel
theorem dX8_drawSlots_109 : decode cX8_drawSlots 109 = .ok (.return_, 1) := by decide +kernel
theorem dX8_kindOfSlot_0 : decode cX8_kindOfSlot 0 = .ok (.lload_n 0, 1) := by decide +kernel
theorem dX8_kindOfSlot_1 : decode cX8_kindOfSlot 1 = .ok (.lconst 0, 1) := by decide +kernel
theorem dX8_kindOfSlot_2 : decode cX8_kindOfSlot 2 = .ok (.lcmp, 1) := by decide +kernel
theorem dX8_kindOfSlot_3 : decode cX8_kindOfSlot 3 = .ok (.ifCond .ne 5, 3) := by decide +kernel
theorem dX8_kindOfSlot_6 : decode cX8_kindOfSlot 6 = .ok (.iconst 0, 1) := by decide +kernel
theorem dX8_kindOfSlot_7 : decode cX8_kindOfSlot 7 = .ok (.ireturn, 1) := by decide +kernel
theorem dX8_kindOfSlot_8 : decode cX8_kindOfSlot 8 = .ok (.lload_n 0, 1) := by decide +kernel
theorem dX8_kindOfSlot_9 : decode cX8_kindOfSlot 9 = .ok (.lload_n 0, 1) := by decide +kernel
theorem dX8_kindOfSlot_10 : decode cX8_kindOfSlot 10 = .ok (.lconst 1, 1) := by decide +kernel
theorem dX8_kindOfSlot_11 : decode cX8_kindOfSlot 11 = .ok (.lsub, 1) := by decide +kernel
theorem dX8_kindOfSlot_12 : decode cX8_kindOfSlot 12 = .ok (.land, 1) := by decide +kernel
theorem dX8_kindOfSlot_13 : decode cX8_kindOfSlot 13 = .ok (.lconst 0, 1) := by decide +kernel
theorem dX8_kindOfSlot_14 : decode cX8_kindOfSlot 14 = .ok (.lcmp, 1) := by decide +kernel
theorem dX8_kindOfSlot_15 : decode cX8_kindOfSlot 15 = .ok (.ifCond .ne 7, 3) := by decide +kernel
theorem dX8_kindOfSlot_18 : decode cX8_kindOfSlot 18 = .ok (.iconst 1, 1) := by decide +kernel
theorem dX8_kindOfSlot_19 : decode cX8_kindOfSlot 19 = .ok (.goto 4, 3) := by decide +kernel
theorem dX8_kindOfSlot_22 : decode cX8_kindOfSlot 22 = .ok (.iconst 2, 1) := by decide +kernel
theorem dX8_kindOfSlot_23 : decode cX8_kindOfSlot 23 = .ok (.ireturn, 1) := by decide +kernel
theorem dX8_setOf_0 : decode cX8_setOf 0 = .ok (.lconst 1, 1) := by decide +kernel
theorem dX8_setOf_1 : decode cX8_setOf 1 = .ok (.iload_n 0, 1) := by decide +kernel
theorem dX8_setOf_2 : decode cX8_setOf 2 = .ok (.lshl, 1) := by decide +kernel
theorem dX8_setOf_3 : decode cX8_setOf 3 = .ok (.lreturn, 1) := by decide +kernel
theorem dX8_isIn_0 : decode cX8_isIn 0 = .ok (.lload_n 0, 1) := by decide +kernel
theorem dX8_isIn_1 : decode cX8_isIn 1 = .ok (.iload_n 2, 1) := by decide +kernel
theorem dX8_isIn_2 : decode cX8_isIn 2 = .ok (.invokestatic 333, 3) := by decide +kernel
theorem dX8_isIn_5 : decode cX8_isIn 5 = .ok (.land, 1) := by decide +kernel
theorem dX8_isIn_6 : decode cX8_isIn 6 = .ok (.lconst 0, 1) := by decide +kernel
theorem dX8_isIn_7 : decode cX8_isIn 7 = .ok (.lcmp, 1) := by decide +kernel
theorem dX8_isIn_8 : decode cX8_isIn 8 = .ok (.ifCond .eq 7, 3) := by decide +kernel
theorem dX8_isIn_11 : decode cX8_isIn 11 = .ok (.iconst 1, 1) := by decide +kernel
theorem dX8_isIn_12 : decode cX8_isIn 12 = .ok (.goto 4, 3) := by decide +kernel
theorem dX8_isIn_15 : decode cX8_isIn 15 = .ok (.iconst 0, 1) := by decide +kernel
theorem dX8_isIn_16 : decode cX8_isIn 16 = .ok (.ireturn, 1) := by decide +kernel
theorem dX8_firstOf_0 : decode cX8_firstOf 0 = .ok (.lload_n 0, 1) := by decide +kernel
theorem dX8_firstOf_1 : decode cX8_firstOf 1 = .ok (.lconst 0, 1) := by decide +kernel
theorem dX8_firstOf_2 : decode cX8_firstOf 2 = .ok (.lcmp, 1) := by decide +kernel
theorem dX8_firstOf_3 : decode cX8_firstOf 3 = .ok (.ifCond .ne 7, 3) := by decide +kernel
theorem dX8_firstOf_6 : decode cX8_firstOf 6 = .ok (.iconst (-1), 1) := by decide +kernel
theorem dX8_firstOf_7 : decode cX8_firstOf 7 = .ok (.goto 12, 3) := by decide +kernel
theorem dX8_firstOf_10 : decode cX8_firstOf 10 = .ok (.lload_n 0, 1) := by decide +kernel
theorem dX8_firstOf_11 : decode cX8_firstOf 11 = .ok (.lload_n 0, 1) := by decide +kernel
theorem dX8_firstOf_12 : decode cX8_firstOf 12 = .ok (.lneg, 1) := by decide +kernel
theorem dX8_firstOf_13 : decode cX8_firstOf 13 = .ok (.land, 1) := by decide +kernel
theorem dX8_firstOf_14 : decode cX8_firstOf 14 = .ok (.lconst 1, 1) := by decide +kernel
theorem dX8_firstOf_15 : decode cX8_firstOf 15 = .ok (.lsub, 1) := by decide +kernel
theorem dX8_firstOf_16 : decode cX8_firstOf 16 = .ok (.invokestatic 114, 3) := by decide +kernel
theorem dX8_firstOf_19 : decode cX8_firstOf 19 = .ok (.ireturn, 1) := by decide +kernel
theorem dX8_oneIf_0 : decode cX8_oneIf 0 = .ok (.iload_n 0, 1) := by decide +kernel
theorem dX8_oneIf_1 : decode cX8_oneIf 1 = .ok (.ifCond .eq 7, 3) := by decide +kernel
theorem dX8_oneIf_4 : decode cX8_oneIf 4 = .ok (.iconst 1, 1) := by decide +kernel
theorem dX8_oneIf_5 : decode cX8_oneIf 5 = .ok (.goto 4, 3) := by decide +kernel
theorem dX8_oneIf_8 : decode cX8_oneIf 8 = .ok (.iconst 0, 1) := by decide +kernel
theorem dX8_oneIf_9 : decode cX8_oneIf 9 = .ok (.ireturn, 1) := by decide +kernel
theorem dX8_isOneAt_0 : decode cX8_isOneAt 0 = .ok (.lload_n 0, 1) := by decide +kernel
theorem dX8_isOneAt_1 : decode cX8_isOneAt 1 = .ok (.bipush 63, 2) := by decide +kernel
theorem dX8_isOneAt_3 : decode cX8_isOneAt 3 = .ok (.iload_n 2, 1) := by decide +kernel
theorem dX8_isOneAt_4 : decode cX8_isOneAt 4 = .ok (.isub, 1) := by decide +kernel
theorem dX8_isOneAt_5 : decode cX8_isOneAt 5 = .ok (.lushr, 1) := by decide +kernel
theorem dX8_isOneAt_6 : decode cX8_isOneAt 6 = .ok (.lconst 1, 1) := by decide +kernel
theorem dX8_isOneAt_7 : decode cX8_isOneAt 7 = .ok (.land, 1) := by decide +kernel
theorem dX8_isOneAt_8 : decode cX8_isOneAt 8 = .ok (.lconst 1, 1) := by decide +kernel
theorem dX8_isOneAt_9 : decode cX8_isOneAt 9 = .ok (.lcmp, 1) := by decide +kernel
theorem dX8_isOneAt_10 : decode cX8_isOneAt 10 = .ok (.ifCond .ne 7, 3) := by decide +kernel
theorem dX8_isOneAt_13 : decode cX8_isOneAt 13 = .ok (.iconst 1, 1) := by decide +kernel
theorem dX8_isOneAt_14 : decode cX8_isOneAt 14 = .ok (.goto 4, 3) := by decide +kernel
theorem dX8_isOneAt_17 : decode cX8_isOneAt 17 = .ok (.iconst 0, 1) := by decide +kernel
theorem dX8_isOneAt_18 : decode cX8_isOneAt 18 = .ok (.ireturn, 1) := by decide +kernel
theorem dX8_sumOf_0 : decode cX8_sumOf 0 = .ok (.iconst 0, 1) := by decide +kernel
theorem dX8_sumOf_1 : decode cX8_sumOf 1 = .ok (.istore_n 2, 1) := by decide +kernel
theorem dX8_sumOf_2 : decode cX8_sumOf 2 = .ok (.iconst 0, 1) := by decide +kernel
theorem dX8_sumOf_3 : decode cX8_sumOf 3 = .ok (.istore_n 3, 1) := by decide +kernel
theorem dX8_sumOf_4 : decode cX8_sumOf 4 = .ok (.iload_n 3, 1) := by decide +kernel
theorem dX8_sumOf_5 : decode cX8_sumOf 5 = .ok (.bipush 56, 2) := by decide +kernel
theorem dX8_sumOf_7 : decode cX8_sumOf 7 = .ok (.if_icmp .ge 47, 3) := by decide +kernel
theorem dX8_sumOf_10 : decode cX8_sumOf 10 = .ok (.iload_n 2, 1) := by decide +kernel
theorem dX8_sumOf_11 : decode cX8_sumOf 11 = .ok (.sipush 128, 3) := by decide +kernel
theorem dX8_sumOf_14 : decode cX8_sumOf 14 = .ok (.iand, 1) := by decide +kernel
theorem dX8_sumOf_15 : decode cX8_sumOf 15 = .ok (.ifCond .eq 7, 3) := by decide +kernel
theorem dX8_sumOf_18 : decode cX8_sumOf 18 = .ok (.iconst 1, 1) := by decide +kernel
theorem dX8_sumOf_19 : decode cX8_sumOf 19 = .ok (.goto 4, 3) := by decide +kernel
theorem dX8_sumOf_22 : decode cX8_sumOf 22 = .ok (.iconst 0, 1) := by decide +kernel
theorem dX8_sumOf_23 : decode cX8_sumOf 23 = .ok (.istore 4, 2) := by decide +kernel
theorem dX8_sumOf_25 : decode cX8_sumOf 25 = .ok (.iload_n 2, 1) := by decide +kernel
theorem dX8_sumOf_26 : decode cX8_sumOf 26 = .ok (.iconst 1, 1) := by decide +kernel
theorem dX8_sumOf_27 : decode cX8_sumOf 27 = .ok (.ishl, 1) := by decide +kernel
theorem dX8_sumOf_28 : decode cX8_sumOf 28 = .ok (.sipush 255, 3) := by decide +kernel
theorem dX8_sumOf_31 : decode cX8_sumOf 31 = .ok (.iand, 1) := by decide +kernel
theorem dX8_sumOf_32 : decode cX8_sumOf 32 = .ok (.istore_n 2, 1) := by decide +kernel
theorem dX8_sumOf_33 : decode cX8_sumOf 33 = .ok (.iload 4, 2) := by decide +kernel
theorem dX8_sumOf_35 : decode cX8_sumOf 35 = .ok (.lload_n 0, 1) := by decide +kernel
theorem dX8_sumOf_36 : decode cX8_sumOf 36 = .ok (.iload_n 3, 1) := by decide +kernel
theorem dX8_sumOf_37 : decode cX8_sumOf 37 = .ok (.invokestatic 157, 3) := by decide +kernel
theorem dX8_sumOf_40 : decode cX8_sumOf 40 = .ok (.if_icmp .eq 8, 3) := by decide +kernel
theorem dX8_sumOf_43 : decode cX8_sumOf 43 = .ok (.iload_n 2, 1) := by decide +kernel
theorem dX8_sumOf_44 : decode cX8_sumOf 44 = .ok (.bipush 49, 2) := by decide +kernel
theorem dX8_sumOf_46 : decode cX8_sumOf 46 = .ok (.ixor, 1) := by decide +kernel
theorem dX8_sumOf_47 : decode cX8_sumOf 47 = .ok (.istore_n 2, 1) := by decide +kernel
theorem dX8_sumOf_48 : decode cX8_sumOf 48 = .ok (.iinc 3 1, 3) := by decide +kernel
theorem dX8_sumOf_51 : decode cX8_sumOf 51 = .ok (.goto (-47), 3) := by decide +kernel
theorem dX8_sumOf_54 : decode cX8_sumOf 54 = .ok (.iload_n 2, 1) := by decide +kernel
theorem dX8_sumOf_55 : decode cX8_sumOf 55 = .ok (.ireturn, 1) := by decide +kernel
theorem dX9_init_0 : decode cX9_init 0 = .ok (.aload_n 0, 1) := by decide +kernel
theorem dX9_init_1 : decode cX9_init 1 = .ok (.invokespecial 1, 3) := by decide +kernel
theorem dX9_init_4 : decode cX9_init 4 = .ok (.aload_n 0, 1) := by decide +kernel
theorem dX9_init_5 : decode cX9_init 5 = .ok (.sipush 2700, 3) := by decide +kernel
theorem dX9_init_8 : decode cX9_init 8 = .ok (.newarray .int, 2) := by decide +kernel
theorem dX9_init_10 : decode cX9_init 10 = .ok (.putfield 7, 3) := by decide +kernel
theorem dX9_init_13 : decode cX9_init 13 = .ok (.aload_n 0, 1) := by decide +kernel
theorem dX9_init_14 : decode cX9_init 14 = .ok (.sipush 620, 3) := by decide +kernel
theorem dX9_init_17 : decode cX9_init 17 = .ok (.newarray .long, 2) := by decide +kernel
theorem dX9_init_19 : decode cX9_init 19 = .ok (.putfield 13, 3) := by decide +kernel
theorem dX9_init_22 : decode cX9_init 22 = .ok (.aload_n 0, 1) := by decide +kernel
theorem dX9_init_23 : decode cX9_init 23 = .ok (.iconst 4, 1) := by decide +kernel
theorem dX9_init_24 : decode cX9_init 24 = .ok (.newarray .boolean, 2) := by decide +kernel
theorem dX9_init_26 : decode cX9_init 26 = .ok (.putfield 17, 3) := by decide +kernel
theorem dX9_init_29 : decode cX9_init 29 = .ok (.aload_n 0, 1) := by decide +kernel
theorem dX9_init_30 : decode cX9_init 30 = .ok (.bipush 40, 2) := by decide +kernel
theorem dX9_init_32 : decode cX9_init 32 = .ok (.newarray .boolean, 2) := by decide +kernel
theorem dX9_init_34 : decode cX9_init 34 = .ok (.putfield 21, 3) := by decide +kernel
theorem dX9_init_37 : decode cX9_init 37 = .ok (.aload_n 0, 1) := by decide +kernel
theorem dX9_init_38 : decode cX9_init 38 = .ok (.bipush 40, 2) := by decide +kernel
theorem dX9_init_40 : decode cX9_init 40 = .ok (.newarray .boolean, 2) := by decide +kernel
theorem dX9_init_42 : decode cX9_init 42 = .ok (.putfield 24, 3) := by decide +kernel
theorem dX9_init_45 : decode cX9_init 45 = .ok (.aload_n 0, 1) := by decide +kernel
theorem dX9_init_46 : decode cX9_init 46 = .ok (.bipush 80, 2) := by decide +kernel
theorem dX9_init_48 : decode cX9_init 48 = .ok (.newarray .long, 2) := by decide +kernel
theorem dX9_init_50 : decode cX9_init 50 = .ok (.putfield 27, 3) := by decide +kernel
theorem dX9_init_53 : decode cX9_init 53 = .ok (.aload_n 0, 1) := by decide +kernel
theorem dX9_init_54 : decode cX9_init 54 = .ok (.bipush 80, 2) := by decide +kernel
theorem dX9_init_56 : decode cX9_init 56 = .ok (.newarray .int, 2) := by decide +kernel
theorem dX9_init_58 : decode cX9_init 58 = .ok (.putfield 30, 3) := by decide +kernel
theorem dX9_init_61 : decode cX9_init 61 = .ok (.aload_n 0, 1) := by decide +kernel
theorem dX9_init_62 : decode cX9_init 62 = .ok (.bipush 40, 2) := by decide +kernel
theorem dX9_init_64 : decode cX9_init 64 = .ok (.newarray .int, 2) := by decide +kernel
theorem dX9_init_66 : decode cX9_init 66 = .ok (.putfield 33, 3) := by decide +kernel
theorem dX9_init_69 : decode cX9_init 69 = .ok (.aload_n 0, 1) := by decide +kernel
theorem dX9_init_70 : decode cX9_init 70 = .ok (.getfield 7, 3) := by decide +kernel
theorem dX9_init_73 : decode cX9_init 73 = .ok (.iconst 2, 1) := by decide +kernel
theorem dX9_init_74 : decode cX9_init 74 = .ok (.iconst (-1), 1) := by decide +kernel
theorem dX9_init_75 : decode cX9_init 75 = .ok (.iastore, 1) := by decide +kernel
theorem dX9_init_76 : decode cX9_init 76 = .ok (.aload_n 0, 1) := by decide +kernel
theorem dX9_init_77 : decode cX9_init 77 = .ok (.getfield 7, 3) := by decide +kernel
theorem dX9_init_80 : decode cX9_init 80 = .ok (.iconst 5, 1) := by decide +kernel
theorem dX9_init_81 : decode cX9_init 81 = .ok (.iconst (-1), 1) := by decide +kernel
theorem dX9_init_82 : decode cX9_init 82 = .ok (.iastore, 1) := by decide +kernel
theorem dX9_init_83 : decode cX9_init 83 = .ok (.aload_n 0, 1) := by decide +kernel
theorem dX9_init_84 : decode cX9_init 84 = .ok (.getfield 7, 3) := by decide +kernel
theorem dX9_init_87 : decode cX9_init 87 = .ok (.bipush 6, 2) := by decide +kernel
theorem dX9_init_89 : decode cX9_init 89 = .ok (.iconst (-1), 1) := by decide +kernel
theorem dX9_init_90 : decode cX9_init 90 = .ok (.iastore, 1) := by decide +kernel
theorem dX9_init_91 : decode cX9_init 91 = .ok (.return_, 1) := by decide +kernel
theorem dX9_isIn_0 : decode cX9_isIn 0 = .ok (.iload_n 0, 1) := by decide +kernel
theorem dX9_isIn_1 : decode cX9_isIn 1 = .ok (.ifCond .lt 12, 3) := by decide +kernel
theorem dX9_isIn_4 : decode cX9_isIn 4 = .ok (.iload_n 0, 1) := by decide +kernel
theorem dX9_isIn_5 : decode cX9_isIn 5 = .ok (.iload_n 1, 1) := by decide +kernel
theorem dX9_isIn_6 : decode cX9_isIn 6 = .ok (.if_icmp .ge 7, 3) := by decide +kernel
theorem dX9_isIn_9 : decode cX9_isIn 9 = .ok (.iconst 1, 1) := by decide +kernel
theorem dX9_isIn_10 : decode cX9_isIn 10 = .ok (.goto 4, 3) := by decide +kernel
theorem dX9_isIn_13 : decode cX9_isIn 13 = .ok (.iconst 0, 1) := by decide +kernel
theorem dX9_isIn_14 : decode cX9_isIn 14 = .ok (.ireturn, 1) := by decide +kernel
theorem dX9_isTag_0 : decode cX9_isTag 0 = .ok (.iload_n 1, 1) := by decide +kernel
theorem dX9_isTag_1 : decode cX9_isTag 1 = .ok (.aload_n 0, 1) := by decide +kernel
theorem dX9_isTag_2 : decode cX9_isTag 2 = .ok (.getfield 7, 3) := by decide +kernel
theorem dX9_isTag_5 : decode cX9_isTag 5 = .ok (.iconst 0, 1) := by decide +kernel
theorem dX9_isTag_6 : decode cX9_isTag 6 = .ok (.iaload, 1) := by decide +kernel
theorem dX9_isTag_7 : decode cX9_isTag 7 = .ok (.invokestatic 36, 3) := by decide +kernel
theorem dX9_isTag_10 : decode cX9_isTag 10 = .ok (.ireturn, 1) := by decide +kernel
theorem dX9_of_0 : decode cX9_of 0 = .ok (.aload_n 0, 1) := by decide +kernel
theorem dX9_of_1 : decode cX9_of 1 = .ok (.getfield 7, 3) := by decide +kernel
theorem dX9_of_4 : decode cX9_of 4 = .ok (.sipush 300, 3) := by decide +kernel
theorem dX9_of_7 : decode cX9_of 7 = .ok (.bipush 6, 2) := by decide +kernel
theorem dX9_of_9 : decode cX9_of 9 = .ok (.iload_n 1, 1) := by decide +kernel
theorem dX9_of_10 : decode cX9_of 10 = .ok (.imul, 1) := by decide +kernel
theorem dX9_of_11 : decode cX9_of 11 = .ok (.iadd, 1) := by decide +kernel
theorem dX9_of_12 : decode cX9_of 12 = .ok (.iload_n 2, 1) := by decide +kernel
theorem dX9_of_13 : decode cX9_of 13 = .ok (.iadd, 1) := by decide +kernel
theorem dX9_of_14 : decode cX9_of 14 = .ok (.iaload, 1) := by decide +kernel
theorem dX9_of_15 : decode cX9_of 15 = .ok (.ireturn, 1) := by decide +kernel
theorem dX9_sets_0 : decode cX9_sets 0 = .ok (.aload_n 0, 1) := by decide +kernel
theorem dX9_sets_1 : decode cX9_sets 1 = .ok (.getfield 7, 3) := by decide +kernel
theorem dX9_sets_4 : decode cX9_sets 4 = .ok (.sipush 300, 3) := by decide +kernel
theorem dX9_sets_7 : decode cX9_sets 7 = .ok (.bipush 6, 2) := by decide +kernel
theorem dX9_sets_9 : decode cX9_sets 9 = .ok (.iload_n 1, 1) := by decide +kernel
theorem dX9_sets_10 : decode cX9_sets 10 = .ok (.imul, 1) := by decide +kernel
theorem dX9_sets_11 : decode cX9_sets 11 = .ok (.iadd, 1) := by decide +kernel
theorem dX9_sets_12 : decode cX9_sets 12 = .ok (.iload_n 2, 1) := by decide +kernel
theorem dX9_sets_13 : decode cX9_sets 13 = .ok (.iadd, 1) := by decide +kernel
theorem dX9_sets_14 : decode cX9_sets 14 = .ok (.iload_n 3, 1) := by decide +kernel
theorem dX9_sets_15 : decode cX9_sets 15 = .ok (.iastore, 1) := by decide +kernel
theorem dX9_sets_16 : decode cX9_sets 16 = .ok (.return_, 1) := by decide +kernel
theorem dX9_bitOf_0 : decode cX9_bitOf 0 = .ok (.lload_n 0, 1) := by decide +kernel
theorem dX9_bitOf_1 : decode cX9_bitOf 1 = .ok (.bipush 63, 2) := by decide +kernel
theorem dX9_bitOf_3 : decode cX9_bitOf 3 = .ok (.iload_n 2, 1) := by decide +kernel
theorem dX9_bitOf_4 : decode cX9_bitOf 4 = .ok (.isub, 1) := by decide +kernel
theorem dX9_bitOf_5 : decode cX9_bitOf 5 = .ok (.lushr, 1) := by decide +kernel
theorem dX9_bitOf_6 : decode cX9_bitOf 6 = .ok (.l2i, 1) := by decide +kernel
theorem dX9_bitOf_7 : decode cX9_bitOf 7 = .ok (.iconst 1, 1) := by decide +kernel
theorem dX9_bitOf_8 : decode cX9_bitOf 8 = .ok (.iand, 1) := by decide +kernel
theorem dX9_bitOf_9 : decode cX9_bitOf 9 = .ok (.ireturn, 1) := by decide +kernel
theorem dX9_sumOf_0 : decode cX9_sumOf 0 = .ok (.iconst 0, 1) := by decide +kernel
theorem dX9_sumOf_1 : decode cX9_sumOf 1 = .ok (.istore_n 2, 1) := by decide +kernel
theorem dX9_sumOf_2 : decode cX9_sumOf 2 = .ok (.iconst 0, 1) := by decide +kernel
theorem dX9_sumOf_3 : decode cX9_sumOf 3 = .ok (.istore_n 3, 1) := by decide +kernel
theorem dX9_sumOf_4 : decode cX9_sumOf 4 = .ok (.iload_n 3, 1) := by decide +kernel
theorem dX9_sumOf_5 : decode cX9_sumOf 5 = .ok (.bipush 56, 2) := by decide +kernel
theorem dX9_sumOf_7 : decode cX9_sumOf 7 = .ok (.if_icmp .ge 46, 3) := by decide +kernel
theorem dX9_sumOf_10 : decode cX9_sumOf 10 = .ok (.iload_n 2, 1) := by decide +kernel
theorem dX9_sumOf_11 : decode cX9_sumOf 11 = .ok (.bipush 7, 2) := by decide +kernel
theorem dX9_sumOf_13 : decode cX9_sumOf 13 = .ok (.ishr, 1) := by decide +kernel
theorem dX9_sumOf_14 : decode cX9_sumOf 14 = .ok (.lload_n 0, 1) := by decide +kernel
theorem dX9_sumOf_15 : decode cX9_sumOf 15 = .ok (.iload_n 3, 1) := by decide +kernel
theorem dX9_sumOf_16 : decode cX9_sumOf 16 = .ok (.invokestatic 40, 3) := by decide +kernel
theorem dX9_sumOf_19 : decode cX9_sumOf 19 = .ok (.if_icmp .eq 7, 3) := by decide +kernel
theorem dX9_sumOf_22 : decode cX9_sumOf 22 = .ok (.iconst 1, 1) := by decide +kernel
theorem dX9_sumOf_23 : decode cX9_sumOf 23 = .ok (.goto 4, 3) := by decide +kernel
theorem dX9_sumOf_26 : decode cX9_sumOf 26 = .ok (.iconst 0, 1) := by decide +kernel
theorem dX9_sumOf_27 : decode cX9_sumOf 27 = .ok (.istore 4, 2) := by decide +kernel
theorem dX9_sumOf_29 : decode cX9_sumOf 29 = .ok (.iload_n 2, 1) := by decide +kernel
theorem dX9_sumOf_30 : decode cX9_sumOf 30 = .ok (.iconst 1, 1) := by decide +kernel
theorem dX9_sumOf_31 : decode cX9_sumOf 31 = .ok (.ishl, 1) := by decide +kernel
theorem dX9_sumOf_32 : decode cX9_sumOf 32 = .ok (.sipush 255, 3) := by decide +kernel
theorem dX9_sumOf_35 : decode cX9_sumOf 35 = .ok (.iand, 1) := by decide +kernel
theorem dX9_sumOf_36 : decode cX9_sumOf 36 = .ok (.istore_n 2, 1) := by decide +kernel
theorem dX9_sumOf_37 : decode cX9_sumOf 37 = .ok (.iload 4, 2) := by decide +kernel
theorem dX9_sumOf_39 : decode cX9_sumOf 39 = .ok (.ifCond .eq 8, 3) := by decide +kernel
theorem dX9_sumOf_42 : decode cX9_sumOf 42 = .ok (.iload_n 2, 1) := by decide +kernel
theorem dX9_sumOf_43 : decode cX9_sumOf 43 = .ok (.bipush 49, 2) := by decide +kernel
theorem dX9_sumOf_45 : decode cX9_sumOf 45 = .ok (.ixor, 1) := by decide +kernel
theorem dX9_sumOf_46 : decode cX9_sumOf 46 = .ok (.istore_n 2, 1) := by decide +kernel
theorem dX9_sumOf_47 : decode cX9_sumOf 47 = .ok (.iinc 3 1, 3) := by decide +kernel
theorem dX9_sumOf_50 : decode cX9_sumOf 50 = .ok (.goto (-46), 3) := by decide +kernel
theorem dX9_sumOf_53 : decode cX9_sumOf 53 = .ok (.iload_n 2, 1) := by decide +kernel
theorem dX9_sumOf_54 : decode cX9_sumOf 54 = .ok (.ireturn, 1) := by decide +kernel
theorem dX9_listens_0 : decode cX9_listens 0 = .ok (.aload_n 0, 1) := by decide +kernel
theorem dX9_listens_1 : decode cX9_listens 1 = .ok (.iload_n 1, 1) := by decide +kernel
theorem dX9_listens_2 : decode cX9_listens 2 = .ok (.iconst 1, 1) := by decide +kernel
theorem dX9_listens_3 : decode cX9_listens 3 = .ok (.invokevirtual 44, 3) := by decide +kernel
theorem dX9_listens_6 : decode cX9_listens 6 = .ok (.iconst 1, 1) := by decide +kernel
theorem dX9_listens_7 : decode cX9_listens 7 = .ok (.if_icmp .ne 45, 3) := by decide +kernel
theorem dX9_listens_10 : decode cX9_listens 10 = .ok (.aload_n 0, 1) := by decide +kernel
theorem dX9_listens_11 : decode cX9_listens 11 = .ok (.iload_n 1, 1) := by decide +kernel
theorem dX9_listens_12 : decode cX9_listens 12 = .ok (.iconst 2, 1) := by decide +kernel
theorem dX9_listens_13 : decode cX9_listens 13 = .ok (.invokevirtual 44, 3) := by decide +kernel
theorem dX9_listens_16 : decode cX9_listens 16 = .ok (.iconst 1, 1) := by decide +kernel
theorem dX9_listens_17 : decode cX9_listens 17 = .ok (.if_icmp .ne 35, 3) := by decide +kernel
theorem dX9_listens_20 : decode cX9_listens 20 = .ok (.aload_n 0, 1) := by decide +kernel
theorem dX9_listens_21 : decode cX9_listens 21 = .ok (.getfield 13, 3) := by decide +kernel
theorem dX9_listens_24 : decode cX9_listens 24 = .ok (.bipush 84, 2) := by decide +kernel
theorem dX9_listens_26 : decode cX9_listens 26 = .ok (.iload_n 1, 1) := by decide +kernel
theorem dX9_listens_27 : decode cX9_listens 27 = .ok (.iadd, 1) := by decide +kernel
theorem dX9_listens_28 : decode cX9_listens 28 = .ok (.laload, 1) := by decide +kernel
theorem dX9_listens_29 : decode cX9_listens 29 = .ok (.aload_n 0, 1) := by decide +kernel
theorem dX9_listens_30 : decode cX9_listens 30 = .ok (.getfield 13, 3) := by decide +kernel
theorem dX9_listens_33 : decode cX9_listens 33 = .ok (.iconst 1, 1) := by decide +kernel
theorem dX9_listens_34 : decode cX9_listens 34 = .ok (.laload, 1) := by decide +kernel
theorem dX9_listens_35 : decode cX9_listens 35 = .ok (.lxor, 1) := by decide +kernel
theorem dX9_listens_36 : decode cX9_listens 36 = .ok (.aload_n 0, 1) := by decide +kernel
theorem dX9_listens_37 : decode cX9_listens 37 = .ok (.getfield 13, 3) := by decide +kernel
theorem dX9_listens_40 : decode cX9_listens 40 = .ok (.iconst 0, 1) := by decide +kernel
theorem dX9_listens_41 : decode cX9_listens 41 = .ok (.laload, 1) := by decide +kernel
theorem dX9_listens_42 : decode cX9_listens 42 = .ok (.land, 1) := by decide +kernel
theorem dX9_listens_43 : decode cX9_listens 43 = .ok (.lconst 0, 1) := by decide +kernel
theorem dX9_listens_44 : decode cX9_listens 44 = .ok (.lcmp, 1) := by decide +kernel
theorem dX9_listens_45 : decode cX9_listens 45 = .ok (.ifCond .ne 7, 3) := by decide +kernel
theorem dX9_listens_48 : decode cX9_listens 48 = .ok (.iconst 1, 1) := by decide +kernel
theorem dX9_listens_49 : decode cX9_listens 49 = .ok (.goto 4, 3) := by decide +kernel
theorem dX9_listens_52 : decode cX9_listens 52 = .ok (.iconst 0, 1) := by decide +kernel
theorem dX9_listens_53 : decode cX9_listens 53 = .ok (.ireturn, 1) := by decide +kernel
theorem dX9_wire_0 : decode cX9_wire 0 = .ok (.iload_n 1, 1) := by decide +kernel
theorem dX9_wire_1 : decode cX9_wire 1 = .ok (.iconst 2, 1) := by decide +kernel
theorem dX9_wire_2 : decode cX9_wire 2 = .ok (.invokestatic 36, 3) := by decide +kernel
theorem dX9_wire_5 : decode cX9_wire 5 = .ok (.ifCond .ne 5, 3) := by decide +kernel
theorem dX9_wire_8 : decode cX9_wire 8 = .ok (.iconst 0, 1) := by decide +kernel
theorem dX9_wire_9 : decode cX9_wire 9 = .ok (.ireturn, 1) := by decide +kernel
theorem dX9_wire_10 : decode cX9_wire 10 = .ok (.aload_n 0, 1) := by decide +kernel
theorem dX9_wire_11 : decode cX9_wire 11 = .ok (.getfield 7, 3) := by decide +kernel
theorem dX9_wire_14 : decode cX9_wire 14 = .ok (.iconst 1, 1) := by decide +kernel
theorem dX9_wire_15 : decode cX9_wire 15 = .ok (.iload_n 1, 1) := by decide +kernel
theorem dX9_wire_16 : decode cX9_wire 16 = .ok (.iastore, 1) := by decide +kernel
theorem dX9_wire_17 : decode cX9_wire 17 = .ok (.iconst 1, 1) := by decide +kernel
theorem dX9_wire_18 : decode cX9_wire 18 = .ok (.ireturn, 1) := by decide +kernel
theorem dX9_tag_0 : decode cX9_tag 0 = .ok (.aload_n 0, 1) := by decide +kernel
theorem dX9_tag_1 : decode cX9_tag 1 = .ok (.getfield 7, 3) := by decide +kernel
theorem dX9_tag_4 : decode cX9_tag 4 = .ok (.iconst 0, 1) := by decide +kernel
theorem dX9_tag_5 : decode cX9_tag 5 = .ok (.iaload, 1) := by decide +kernel
theorem dX9_tag_6 : decode cX9_tag 6 = .ok (.bipush 40, 2) := by decide +kernel
theorem dX9_tag_8 : decode cX9_tag 8 = .ok (.if_icmp .eq 12, 3) := by decide +kernel
theorem dX9_tag_11 : decode cX9_tag 11 = .ok (.iload_n 1, 1) := by decide +kernel
theorem dX9_tag_12 : decode cX9_tag 12 = .ok (.bipush 6, 2) := by decide +kernel
theorem dX9_tag_14 : decode cX9_tag 14 = .ok (.invokestatic 36, 3) := by decide +kernel
theorem dX9_tag_17 : decode cX9_tag 17 = .ok (.ifCond .ne 5, 3) := by decide +kernel
theorem dX9_tag_20 : decode cX9_tag 20 = .ok (.iconst (-1), 1) := by decide +kernel
theorem dX9_tag_21 : decode cX9_tag 21 = .ok (.ireturn, 1) := by decide +kernel
theorem dX9_tag_22 : decode cX9_tag 22 = .ok (.lload_n 2, 1) := by decide +kernel
theorem dX9_tag_23 : decode cX9_tag 23 = .ok (.bipush 8, 2) := by decide +kernel
theorem dX9_tag_25 : decode cX9_tag 25 = .ok (.lshl, 1) := by decide +kernel
theorem dX9_tag_26 : decode cX9_tag 26 = .ok (.lstore 5, 2) := by decide +kernel
theorem dX9_tag_28 : decode cX9_tag 28 = .ok (.lload 5, 2) := by decide +kernel
theorem dX9_tag_30 : decode cX9_tag 30 = .ok (.lload 5, 2) := by decide +kernel
theorem dX9_tag_32 : decode cX9_tag 32 = .ok (.invokestatic 48, 3) := by decide +kernel
theorem dX9_tag_35 : decode cX9_tag 35 = .ok (.i2l, 1) := by decide +kernel
theorem dX9_tag_36 : decode cX9_tag 36 = .ok (.lor, 1) := by decide +kernel
theorem dX9_tag_37 : decode cX9_tag 37 = .ok (.lstore 5, 2) := by decide +kernel
theorem dX9_tag_39 : decode cX9_tag 39 = .ok (.iconst 0, 1) := by decide +kernel
theorem dX9_tag_40 : decode cX9_tag 40 = .ok (.istore 7, 2) := by decide +kernel
theorem dX9_tag_42 : decode cX9_tag 42 = .ok (.iload 7, 2) := by decide +kernel
theorem dX9_tag_44 : decode cX9_tag 44 = .ok (.aload_n 0, 1) := by decide +kernel
theorem dX9_tag_45 : decode cX9_tag 45 = .ok (.getfield 7, 3) := by decide +kernel
theorem dX9_tag_48 : decode cX9_tag 48 = .ok (.iconst 0, 1) := by decide +kernel
theorem dX9_tag_49 : decode cX9_tag 49 = .ok (.iaload, 1) := by decide +kernel
theorem dX9_tag_50 : decode cX9_tag 50 = .ok (.if_icmp .ge 27, 3) := by decide +kernel
theorem dX9_tag_53 : decode cX9_tag 53 = .ok (.aload_n 0, 1) := by decide +kernel
theorem dX9_tag_54 : decode cX9_tag 54 = .ok (.getfield 13, 3) := by decide +kernel
theorem dX9_tag_57 : decode cX9_tag 57 = .ok (.bipush 84, 2) := by decide +kernel
theorem dX9_tag_59 : decode cX9_tag 59 = .ok (.iload 7, 2) := by decide +kernel
theorem dX9_tag_61 : decode cX9_tag 61 = .ok (.iadd, 1) := by decide +kernel
theorem dX9_tag_62 : decode cX9_tag 62 = .ok (.laload, 1) := by decide +kernel
theorem dX9_tag_63 : decode cX9_tag 63 = .ok (.lload 5, 2) := by decide +kernel
theorem dX9_tag_65 : decode cX9_tag 65 = .ok (.lcmp, 1) := by decide +kernel
theorem dX9_tag_66 : decode cX9_tag 66 = .ok (.ifCond .ne 5, 3) := by decide +kernel
theorem dX9_tag_69 : decode cX9_tag 69 = .ok (.iconst (-1), 1) := by decide +kernel
theorem dX9_tag_70 : decode cX9_tag 70 = .ok (.ireturn, 1) := by decide +kernel
theorem dX9_tag_71 : decode cX9_tag 71 = .ok (.iinc 7 1, 3) := by decide +kernel
theorem dX9_tag_74 : decode cX9_tag 74 = .ok (.goto (-32), 3) := by decide +kernel
theorem dX9_tag_77 : decode cX9_tag 77 = .ok (.aload_n 0, 1) := by decide +kernel
theorem dX9_tag_78 : decode cX9_tag 78 = .ok (.getfield 7, 3) := by decide +kernel
theorem dX9_tag_81 : decode cX9_tag 81 = .ok (.iconst 0, 1) := by decide +kernel
theorem dX9_tag_82 : decode cX9_tag 82 = .ok (.iaload, 1) := by decide +kernel
theorem dX9_tag_83 : decode cX9_tag 83 = .ok (.istore 7, 2) := by decide +kernel
theorem dX9_tag_85 : decode cX9_tag 85 = .ok (.aload_n 0, 1) := by decide +kernel
theorem dX9_tag_86 : decode cX9_tag 86 = .ok (.getfield 7, 3) := by decide +kernel
theorem dX9_tag_89 : decode cX9_tag 89 = .ok (.iconst 0, 1) := by decide +kernel
theorem dX9_tag_90 : decode cX9_tag 90 = .ok (.dup2, 1) := by decide +kernel
theorem dX9_tag_91 : decode cX9_tag 91 = .ok (.iaload, 1) := by decide +kernel
theorem dX9_tag_92 : decode cX9_tag 92 = .ok (.iconst 1, 1) := by decide +kernel
theorem dX9_tag_93 : decode cX9_tag 93 = .ok (.iadd, 1) := by decide +kernel
theorem dX9_tag_94 : decode cX9_tag 94 = .ok (.iastore, 1) := by decide +kernel
theorem dX9_tag_95 : decode cX9_tag 95 = .ok (.aload_n 0, 1) := by decide +kernel
theorem dX9_tag_96 : decode cX9_tag 96 = .ok (.getfield 13, 3) := by decide +kernel
theorem dX9_tag_99 : decode cX9_tag 99 = .ok (.bipush 84, 2) := by decide +kernel
theorem dX9_tag_101 : decode cX9_tag 101 = .ok (.iload 7, 2) := by decide +kernel
theorem dX9_tag_103 : decode cX9_tag 103 = .ok (.iadd, 1) := by decide +kernel
theorem dX9_tag_104 : decode cX9_tag 104 = .ok (.lload 5, 2) := by decide +kernel
theorem dX9_tag_106 : decode cX9_tag 106 = .ok (.lastore, 1) := by decide +kernel
theorem dX9_tag_107 : decode cX9_tag 107 = .ok (.aload_n 0, 1) := by decide +kernel
theorem dX9_tag_108 : decode cX9_tag 108 = .ok (.iload 7, 2) := by decide +kernel
theorem dX9_tag_110 : decode cX9_tag 110 = .ok (.iconst 0, 1) := by decide +kernel
theorem dX9_tag_111 : decode cX9_tag 111 = .ok (.iload_n 1, 1) := by decide +kernel
theorem dX9_tag_112 : decode cX9_tag 112 = .ok (.invokevirtual 52, 3) := by decide +kernel
theorem dX9_tag_115 : decode cX9_tag 115 = .ok (.aload_n 0, 1) := by decide +kernel
theorem dX9_tag_116 : decode cX9_tag 116 = .ok (.iload 7, 2) := by decide +kernel
theorem dX9_tag_118 : decode cX9_tag 118 = .ok (.iconst 1, 1) := by decide +kernel
theorem dX9_tag_119 : decode cX9_tag 119 = .ok (.iconst 1, 1) := by decide +kernel
theorem dX9_tag_120 : decode cX9_tag 120 = .ok (.invokevirtual 52, 3) := by decide +kernel
theorem dX9_tag_123 : decode cX9_tag 123 = .ok (.aload_n 0, 1) := by decide +kernel
theorem dX9_tag_124 : decode cX9_tag 124 = .ok (.iload 7, 2) := by decide +kernel
theorem dX9_tag_126 : decode cX9_tag 126 = .ok (.iconst 2, 1) := by decide +kernel
theorem dX9_tag_127 : decode cX9_tag 127 = .ok (.iload_n 1, 1) := by decide +kernel
theorem dX9_tag_128 : decode cX9_tag 128 = .ok (.iconst 4, 1) := by decide +kernel
theorem dX9_tag_129 : decode cX9_tag 129 = .ok (.if_icmp .ne 7, 3) := by decide +kernel
theorem dX9_tag_132 : decode cX9_tag 132 = .ok (.iconst 0, 1) := by decide +kernel
theorem dX9_tag_133 : decode cX9_tag 133 = .ok (.goto 4, 3) := by decide +kernel
theorem dX9_tag_136 : decode cX9_tag 136 = .ok (.iconst 1, 1) := by decide +kernel
theorem dX9_tag_137 : decode cX9_tag 137 = .ok (.invokevirtual 52, 3) := by decide +kernel
theorem dX9_tag_140 : decode cX9_tag 140 = .ok (.aload_n 0, 1) := by decide +kernel
theorem dX9_tag_141 : decode cX9_tag 141 = .ok (.iload 7, 2) := by decide +kernel
theorem dX9_tag_143 : decode cX9_tag 143 = .ok (.iconst 3, 1) := by decide +kernel
theorem dX9_tag_144 : decode cX9_tag 144 = .ok (.iconst (-1), 1) := by decide +kernel
theorem dX9_tag_145 : decode cX9_tag 145 = .ok (.invokevirtual 52, 3) := by decide +kernel
theorem dX9_tag_148 : decode cX9_tag 148 = .ok (.aload_n 0, 1) := by decide +kernel
theorem dX9_tag_149 : decode cX9_tag 149 = .ok (.iload 7, 2) := by decide +kernel
theorem dX9_tag_151 : decode cX9_tag 151 = .ok (.iconst 4, 1) := by decide +kernel
theorem dX9_tag_152 : decode cX9_tag 152 = .ok (.iload 4, 2) := by decide +kernel
theorem dX9_tag_154 : decode cX9_tag 154 = .ok (.invokevirtual 52, 3) := by decide +kernel
theorem dX9_tag_157 : decode cX9_tag 157 = .ok (.aload_n 0, 1) := by decide +kernel
theorem dX9_tag_158 : decode cX9_tag 158 = .ok (.iload 7, 2) := by decide +kernel
theorem dX9_tag_160 : decode cX9_tag 160 = .ok (.iconst 5, 1) := by decide +kernel
theorem dX9_tag_161 : decode cX9_tag 161 = .ok (.iconst 0, 1) := by decide +kernel
theorem dX9_tag_162 : decode cX9_tag 162 = .ok (.invokevirtual 52, 3) := by decide +kernel
theorem dX9_tag_165 : decode cX9_tag 165 = .ok (.iload 7, 2) := by decide +kernel
theorem dX9_tag_167 : decode cX9_tag 167 = .ok (.ireturn, 1) := by decide +kernel
theorem dX9_name_0 : decode cX9_name 0 = .ok (.aload_n 0, 1) := by decide +kernel
theorem dX9_name_1 : decode cX9_name 1 = .ok (.iload_n 1, 1) := by decide +kernel
theorem dX9_name_2 : decode cX9_name 2 = .ok (.invokevirtual 56, 3) := by decide +kernel
theorem dX9_name_5 : decode cX9_name 5 = .ok (.ifCond .eq 15, 3) := by decide +kernel
theorem dX9_name_8 : decode cX9_name 8 = .ok (.aload_n 0, 1) := by decide +kernel
theorem dX9_name_9 : decode cX9_name 9 = .ok (.getfield 13, 3) := by decide +kernel
theorem dX9_name_12 : decode cX9_name 12 = .ok (.bipush 84, 2) := by decide +kernel
theorem dX9_name_14 : decode cX9_name 14 = .ok (.iload_n 1, 1) := by decide +kernel
theorem dX9_name_15 : decode cX9_name 15 = .ok (.iadd, 1) := by decide +kernel
theorem dX9_name_16 : decode cX9_name 16 = .ok (.laload, 1) := by decide +kernel
theorem dX9_name_17 : decode cX9_name 17 = .ok (.goto 4, 3) := by decide +kernel
theorem dX9_name_20 : decode cX9_name 20 = .ok (.lconst 0, 1) := by decide +kernel
theorem dX9_name_21 : decode cX9_name 21 = .ok (.lreturn, 1) := by decide +kernel
theorem dX9_isName_0 : decode cX9_isName 0 = .ok (.lload_n 1, 1) := by decide +kernel
theorem dX9_isName_1 : decode cX9_isName 1 = .ok (.ldc2_w 60, 3) := by decide +kernel
theorem dX9_isName_4 : decode cX9_isName 4 = .ok (.land, 1) := by decide +kernel
theorem dX9_isName_5 : decode cX9_isName 5 = .ok (.lload_n 1, 1) := by decide +kernel
theorem dX9_isName_6 : decode cX9_isName 6 = .ok (.invokestatic 48, 3) := by decide +kernel
theorem dX9_isName_9 : decode cX9_isName 9 = .ok (.i2l, 1) := by decide +kernel
theorem dX9_isName_10 : decode cX9_isName 10 = .ok (.lcmp, 1) := by decide +kernel
theorem dX9_isName_11 : decode cX9_isName 11 = .ok (.ifCond .ne 7, 3) := by decide +kernel
theorem dX9_isName_14 : decode cX9_isName 14 = .ok (.iconst 1, 1) := by decide +kernel
theorem dX9_isName_15 : decode cX9_isName 15 = .ok (.goto 4, 3) := by decide +kernel
theorem dX9_isName_18 : decode cX9_isName 18 = .ok (.iconst 0, 1) := by decide +kernel
theorem dX9_isName_19 : decode cX9_isName 19 = .ok (.ireturn, 1) := by decide +kernel
theorem dX9_tell_0 : decode cX9_tell 0 = .ok (.aload_n 0, 1) := by decide +kernel
theorem dX9_tell_1 : decode cX9_tell 1 = .ok (.iload_n 1, 1) := by decide +kernel
theorem dX9_tell_2 : decode cX9_tell 2 = .ok (.invokevirtual 56, 3) := by decide +kernel
theorem dX9_tell_5 : decode cX9_tell 5 = .ok (.ifCond .ne 5, 3) := by decide +kernel
theorem dX9_tell_8 : decode cX9_tell 8 = .ok (.iconst (-1), 1) := by decide +kernel
theorem dX9_tell_9 : decode cX9_tell 9 = .ok (.ireturn, 1) := by decide +kernel
theorem dX9_tell_10 : decode cX9_tell 10 = .ok (.iconst 0, 1) := by decide +kernel
theorem dX9_tell_11 : decode cX9_tell 11 = .ok (.istore_n 3, 1) := by decide +kernel
theorem dX9_tell_12 : decode cX9_tell 12 = .ok (.iload_n 2, 1) := by decide +kernel
theorem dX9_tell_13 : decode cX9_tell 13 = .ok (.tableswitch 123 0 6 #[43, 43, 43, 50, 64, 71, 78], 43) := by decide +kernel
theorem dX9_tell_56 : decode cX9_tell 56 = .ok (.aload_n 0, 1) := by decide +kernel
theorem dX9_tell_57 : decode cX9_tell 57 = .ok (.iload_n 1, 1) := by decide +kernel
theorem dX9_tell_58 : decode cX9_tell 58 = .ok (.iload_n 2, 1) := by decide +kernel
theorem dX9_tell_59 : decode cX9_tell 59 = .ok (.invokevirtual 44, 3) := by decide +kernel
theorem dX9_tell_62 : decode cX9_tell 62 = .ok (.ireturn, 1) := by decide +kernel
theorem dX9_tell_63 : decode cX9_tell 63 = .ok (.aload_n 0, 1) := by decide +kernel
theorem dX9_tell_64 : decode cX9_tell 64 = .ok (.iload_n 1, 1) := by decide +kernel
theorem dX9_tell_65 : decode cX9_tell 65 = .ok (.invokevirtual 62, 3) := by decide +kernel
theorem dX9_tell_68 : decode cX9_tell 68 = .ok (.ifCond .eq 7, 3) := by decide +kernel
theorem dX9_tell_71 : decode cX9_tell 71 = .ok (.iconst 1, 1) := by decide +kernel
theorem dX9_tell_72 : decode cX9_tell 72 = .ok (.goto 4, 3) := by decide +kernel
theorem dX9_tell_75 : decode cX9_tell 75 = .ok (.iconst 0, 1) := by decide +kernel
theorem dX9_tell_76 : decode cX9_tell 76 = .ok (.ireturn, 1) := by decide +kernel
theorem dX9_tell_77 : decode cX9_tell 77 = .ok (.aload_n 0, 1) := by decide +kernel
theorem dX9_tell_78 : decode cX9_tell 78 = .ok (.iload_n 1, 1) := by decide +kernel
theorem dX9_tell_79 : decode cX9_tell 79 = .ok (.iconst 3, 1) := by decide +kernel
theorem dX9_tell_80 : decode cX9_tell 80 = .ok (.invokevirtual 44, 3) := by decide +kernel
theorem dX9_tell_83 : decode cX9_tell 83 = .ok (.ireturn, 1) := by decide +kernel
theorem dX9_tell_84 : decode cX9_tell 84 = .ok (.aload_n 0, 1) := by decide +kernel
theorem dX9_tell_85 : decode cX9_tell 85 = .ok (.iload_n 1, 1) := by decide +kernel
theorem dX9_tell_86 : decode cX9_tell 86 = .ok (.iconst 4, 1) := by decide +kernel
theorem dX9_tell_87 : decode cX9_tell 87 = .ok (.invokevirtual 44, 3) := by decide +kernel
theorem dX9_tell_90 : decode cX9_tell 90 = .ok (.ireturn, 1) := by decide +kernel
theorem dX9_tell_91 : decode cX9_tell 91 = .ok (.iconst 0, 1) := by decide +kernel
theorem dX9_tell_92 : decode cX9_tell 92 = .ok (.istore 4, 2) := by decide +kernel
theorem dX9_tell_94 : decode cX9_tell 94 = .ok (.iload 4, 2) := by decide +kernel
theorem dX9_tell_96 : decode cX9_tell 96 = .ok (.aload_n 0, 1) := by decide +kernel
theorem dX9_tell_97 : decode cX9_tell 97 = .ok (.getfield 7, 3) := by decide +kernel
theorem dX9_tell_100 : decode cX9_tell 100 = .ok (.bipush 15, 2) := by decide +kernel
theorem dX9_tell_102 : decode cX9_tell 102 = .ok (.iaload, 1) := by decide +kernel
theorem dX9_tell_103 : decode cX9_tell 103 = .ok (.if_icmp .ge 31, 3) := by decide +kernel
theorem dX9_tell_106 : decode cX9_tell 106 = .ok (.iload_n 3, 1) := by decide +kernel
theorem dX9_tell_107 : decode cX9_tell 107 = .ok (.aload_n 0, 1) := by decide +kernel
theorem dX9_tell_108 : decode cX9_tell 108 = .ok (.getfield 7, 3) := by decide +kernel
theorem dX9_tell_111 : decode cX9_tell 111 = .ok (.bipush 100, 2) := by decide +kernel
theorem dX9_tell_113 : decode cX9_tell 113 = .ok (.iload 4, 2) := by decide +kernel
theorem dX9_tell_115 : decode cX9_tell 115 = .ok (.iadd, 1) := by decide +kernel
theorem dX9_tell_116 : decode cX9_tell 116 = .ok (.iaload, 1) := by decide +kernel
theorem dX9_tell_117 : decode cX9_tell 117 = .ok (.iload_n 1, 1) := by decide +kernel
theorem dX9_tell_118 : decode cX9_tell 118 = .ok (.if_icmp .ne 7, 3) := by decide +kernel
theorem dX9_tell_121 : decode cX9_tell 121 = .ok (.iconst 1, 1) := by decide +kernel
theorem dX9_tell_122 : decode cX9_tell 122 = .ok (.goto 4, 3) := by decide +kernel
theorem dX9_tell_125 : decode cX9_tell 125 = .ok (.iconst 0, 1) := by decide +kernel
theorem dX9_tell_126 : decode cX9_tell 126 = .ok (.iadd, 1) := by decide +kernel
theorem dX9_tell_127 : decode cX9_tell 127 = .ok (.istore_n 3, 1) := by decide +kernel
theorem dX9_tell_128 : decode cX9_tell 128 = .ok (.iinc 4 1, 3) := by decide +kernel
theorem dX9_tell_131 : decode cX9_tell 131 = .ok (.goto (-37), 3) := by decide +kernel
theorem dX9_tell_134 : decode cX9_tell 134 = .ok (.iload_n 3, 1) := by decide +kernel
theorem dX9_tell_135 : decode cX9_tell 135 = .ok (.ireturn, 1) := by decide +kernel
theorem dX9_tell_136 : decode cX9_tell 136 = .ok (.iconst (-1), 1) := by decide +kernel
theorem dX9_tell_137 : decode cX9_tell 137 = .ok (.ireturn, 1) := by decide +kernel
theorem dX9_act_0 : decode cX9_act 0 = .ok (.aload_n 0, 1) := by decide +kernel
theorem dX9_act_1 : decode cX9_act 1 = .ok (.iload_n 1, 1) := by decide +kernel
theorem dX9_act_2 : decode cX9_act 2 = .ok (.invokevirtual 56, 3) := by decide +kernel
theorem dX9_act_5 : decode cX9_act 5 = .ok (.ifCond .eq 26, 3) := by decide +kernel
theorem dX9_act_8 : decode cX9_act 8 = .ok (.iload_n 2, 1) := by decide +kernel
theorem dX9_act_9 : decode cX9_act 9 = .ok (.iconst 4, 1) := by decide +kernel
theorem dX9_act_10 : decode cX9_act 10 = .ok (.invokestatic 36, 3) := by decide +kernel
theorem dX9_act_13 : decode cX9_act 13 = .ok (.ifCond .eq 18, 3) := by decide +kernel
theorem dX9_act_16 : decode cX9_act 16 = .ok (.iload_n 2, 1) := by decide +kernel
theorem dX9_act_17 : decode cX9_act 17 = .ok (.iconst 3, 1) := by decide +kernel
theorem dX9_act_18 : decode cX9_act 18 = .ok (.if_icmp .ne 15, 3) := by decide +kernel
theorem dX9_act_21 : decode cX9_act 21 = .ok (.aload_n 0, 1) := by decide +kernel
theorem dX9_act_22 : decode cX9_act 22 = .ok (.iload_n 1, 1) := by decide +kernel
theorem dX9_act_23 : decode cX9_act 23 = .ok (.iconst 0, 1) := by decide +kernel
theorem dX9_act_24 : decode cX9_act 24 = .ok (.invokevirtual 44, 3) := by decide +kernel
theorem dX9_act_27 : decode cX9_act 27 = .ok (.iconst 4, 1) := by decide +kernel
theorem dX9_act_28 : decode cX9_act 28 = .ok (.if_icmp .eq 5, 3) := by decide +kernel
theorem dX9_act_31 : decode cX9_act 31 = .ok (.iconst 0, 1) := by decide +kernel
theorem dX9_act_32 : decode cX9_act 32 = .ok (.ireturn, 1) := by decide +kernel
theorem dX9_act_33 : decode cX9_act 33 = .ok (.iload_n 2, 1) := by decide +kernel
theorem dX9_act_34 : decode cX9_act 34 = .ok (.iconst 2, 1) := by decide +kernel
theorem dX9_act_35 : decode cX9_act 35 = .ok (.if_icmp .ge 7, 3) := by decide +kernel
theorem dX9_act_38 : decode cX9_act 38 = .ok (.iconst 1, 1) := by decide +kernel
theorem dX9_act_39 : decode cX9_act 39 = .ok (.goto 4, 3) := by decide +kernel
theorem dX9_act_42 : decode cX9_act 42 = .ok (.iconst 2, 1) := by decide +kernel
theorem dX9_act_43 : decode cX9_act 43 = .ok (.istore_n 3, 1) := by decide +kernel
theorem dX9_act_44 : decode cX9_act 44 = .ok (.iload_n 2, 1) := by decide +kernel
theorem dX9_act_45 : decode cX9_act 45 = .ok (.iconst 1, 1) := by decide +kernel
theorem dX9_act_46 : decode cX9_act 46 = .ok (.if_icmp .eq 8, 3) := by decide +kernel
theorem dX9_act_49 : decode cX9_act 49 = .ok (.iload_n 2, 1) := by decide +kernel
theorem dX9_act_50 : decode cX9_act 50 = .ok (.iconst 2, 1) := by decide +kernel
theorem dX9_act_51 : decode cX9_act 51 = .ok (.if_icmp .ne 7, 3) := by decide +kernel
theorem dX9_act_54 : decode cX9_act 54 = .ok (.iconst 1, 1) := by decide +kernel
theorem dX9_act_55 : decode cX9_act 55 = .ok (.goto 4, 3) := by decide +kernel
theorem dX9_act_58 : decode cX9_act 58 = .ok (.iconst 0, 1) := by decide +kernel
theorem dX9_act_59 : decode cX9_act 59 = .ok (.istore 4, 2) := by decide +kernel
theorem dX9_act_61 : decode cX9_act 61 = .ok (.aload_n 0, 1) := by decide +kernel
theorem dX9_act_62 : decode cX9_act 62 = .ok (.iload_n 1, 1) := by decide +kernel
theorem dX9_act_63 : decode cX9_act 63 = .ok (.iload_n 3, 1) := by decide +kernel
theorem dX9_act_64 : decode cX9_act 64 = .ok (.invokevirtual 44, 3) := by decide +kernel
theorem dX9_act_67 : decode cX9_act 67 = .ok (.iload 4, 2) := by decide +kernel
theorem dX9_act_69 : decode cX9_act 69 = .ok (.if_icmp .ne 5, 3) := by decide +kernel
theorem dX9_act_72 : decode cX9_act 72 = .ok (.iconst 0, 1) := by decide +kernel
theorem dX9_act_73 : decode cX9_act 73 = .ok (.ireturn, 1) := by decide +kernel
theorem dX9_act_74 : decode cX9_act 74 = .ok (.aload_n 0, 1) := by decide +kernel
theorem dX9_act_75 : decode cX9_act 75 = .ok (.iload_n 1, 1) := by decide +kernel
theorem dX9_act_76 : decode cX9_act 76 = .ok (.iload_n 3, 1) := by decide +kernel
theorem dX9_act_77 : decode cX9_act 77 = .ok (.iload 4, 2) := by decide +kernel
theorem dX9_act_79 : decode cX9_act 79 = .ok (.invokevirtual 52, 3) := by decide +kernel
theorem dX9_act_82 : decode cX9_act 82 = .ok (.iconst 1, 1) := by decide +kernel
theorem dX9_act_83 : decode cX9_act 83 = .ok (.ireturn, 1) := by decide +kernel
theorem dX9_listening_0 : decode cX9_listening 0 = .ok (.iconst 0, 1) := by decide +kernel
theorem dX9_listening_1 : decode cX9_listening 1 = .ok (.istore_n 1, 1) := by decide +kernel
theorem dX9_listening_2 : decode cX9_listening 2 = .ok (.iconst 0, 1) := by decide +kernel
theorem dX9_listening_3 : decode cX9_listening 3 = .ok (.istore_n 2, 1) := by decide +kernel
theorem dX9_listening_4 : decode cX9_listening 4 = .ok (.iload_n 2, 1) := by decide +kernel
theorem dX9_listening_5 : decode cX9_listening 5 = .ok (.aload_n 0, 1) := by decide +kernel
theorem dX9_listening_6 : decode cX9_listening 6 = .ok (.getfield 7, 3) := by decide +kernel
theorem dX9_listening_9 : decode cX9_listening 9 = .ok (.iconst 0, 1) := by decide +kernel
theorem dX9_listening_10 : decode cX9_listening 10 = .ok (.iaload, 1) := by decide +kernel
theorem dX9_listening_11 : decode cX9_listening 11 = .ok (.if_icmp .ge 25, 3) := by decide +kernel
theorem dX9_listening_14 : decode cX9_listening 14 = .ok (.iload_n 1, 1) := by decide +kernel
theorem dX9_listening_15 : decode cX9_listening 15 = .ok (.aload_n 0, 1) := by decide +kernel
theorem dX9_listening_16 : decode cX9_listening 16 = .ok (.iload_n 2, 1) := by decide +kernel
theorem dX9_listening_17 : decode cX9_listening 17 = .ok (.invokevirtual 62, 3) := by decide +kernel
theorem dX9_listening_20 : decode cX9_listening 20 = .ok (.ifCond .eq 7, 3) := by decide +kernel
theorem dX9_listening_23 : decode cX9_listening 23 = .ok (.iconst 1, 1) := by decide +kernel
theorem dX9_listening_24 : decode cX9_listening 24 = .ok (.goto 4, 3) := by decide +kernel
theorem dX9_listening_27 : decode cX9_listening 27 = .ok (.iconst 0, 1) := by decide +kernel
theorem dX9_listening_28 : decode cX9_listening 28 = .ok (.iadd, 1) := by decide +kernel
theorem dX9_listening_29 : decode cX9_listening 29 = .ok (.istore_n 1, 1) := by decide +kernel
theorem dX9_listening_30 : decode cX9_listening 30 = .ok (.iinc 2 1, 3) := by decide +kernel
theorem dX9_listening_33 : decode cX9_listening 33 = .ok (.goto (-29), 3) := by decide +kernel
theorem dX9_listening_36 : decode cX9_listening 36 = .ok (.iload_n 1, 1) := by decide +kernel
theorem dX9_listening_37 : decode cX9_listening 37 = .ok (.ireturn, 1) := by decide +kernel
theorem dX9_group_0 : decode cX9_group 0 = .ok (.aload_n 0, 1) := by decide +kernel
theorem dX9_group_1 : decode cX9_group 1 = .ok (.getfield 13, 3) := by decide +kernel
theorem dX9_group_4 : decode cX9_group 4 = .ok (.iconst 0, 1) := by decide +kernel
theorem dX9_group_5 : decode cX9_group 5 = .ok (.lload_n 1, 1) := by decide +kernel
theorem dX9_group_6 : decode cX9_group 6 = .ok (.lastore, 1) := by decide +kernel
theorem dX9_group_7 : decode cX9_group 7 = .ok (.aload_n 0, 1) := by decide +kernel
theorem dX9_group_8 : decode cX9_group 8 = .ok (.getfield 13, 3) := by decide +kernel
theorem dX9_group_11 : decode cX9_group 11 = .ok (.iconst 1, 1) := by decide +kernel
theorem dX9_group_12 : decode cX9_group 12 = .ok (.lload_n 3, 1) := by decide +kernel
theorem dX9_group_13 : decode cX9_group 13 = .ok (.lastore, 1) := by decide +kernel
theorem dX9_group_14 : decode cX9_group 14 = .ok (.aload_n 0, 1) := by decide +kernel
theorem dX9_group_15 : decode cX9_group 15 = .ok (.invokevirtual 65, 3) := by decide +kernel
theorem dX9_group_18 : decode cX9_group 18 = .ok (.ireturn, 1) := by decide +kernel
theorem dX9_finds_0 : decode cX9_finds 0 = .ok (.aload_n 0, 1) := by decide +kernel
theorem dX9_finds_1 : decode cX9_finds 1 = .ok (.getfield 7, 3) := by decide +kernel
theorem dX9_finds_4 : decode cX9_finds 4 = .ok (.bipush 15, 2) := by decide +kernel
theorem dX9_finds_6 : decode cX9_finds 6 = .ok (.iaload, 1) := by decide +kernel
theorem dX9_finds_7 : decode cX9_finds 7 = .ok (.sipush 200, 3) := by decide +kernel
theorem dX9_finds_10 : decode cX9_finds 10 = .ok (.if_icmp .ne 4, 3) := by decide +kernel
theorem dX9_finds_13 : decode cX9_finds 13 = .ok (.return_, 1) := by decide +kernel
theorem dX9_finds_14 : decode cX9_finds 14 = .ok (.aload_n 0, 1) := by decide +kernel
theorem dX9_finds_15 : decode cX9_finds 15 = .ok (.getfield 7, 3) := by decide +kernel
theorem dX9_finds_18 : decode cX9_finds 18 = .ok (.bipush 100, 2) := by decide +kernel
theorem dX9_finds_20 : decode cX9_finds 20 = .ok (.aload_n 0, 1) := by decide +kernel
theorem dX9_finds_21 : decode cX9_finds 21 = .ok (.getfield 7, 3) := by decide +kernel
theorem dX9_finds_24 : decode cX9_finds 24 = .ok (.bipush 15, 2) := by decide +kernel
theorem dX9_finds_26 : decode cX9_finds 26 = .ok (.iaload, 1) := by decide +kernel
theorem dX9_finds_27 : decode cX9_finds 27 = .ok (.iadd, 1) := by decide +kernel
theorem dX9_finds_28 : decode cX9_finds 28 = .ok (.iload_n 1, 1) := by decide +kernel
theorem dX9_finds_29 : decode cX9_finds 29 = .ok (.iastore, 1) := by decide +kernel
theorem dX9_finds_30 : decode cX9_finds 30 = .ok (.aload_n 0, 1) := by decide +kernel
theorem dX9_finds_31 : decode cX9_finds 31 = .ok (.getfield 7, 3) := by decide +kernel
theorem dX9_finds_34 : decode cX9_finds 34 = .ok (.bipush 15, 2) := by decide +kernel
theorem dX9_finds_36 : decode cX9_finds 36 = .ok (.dup2, 1) := by decide +kernel
theorem dX9_finds_37 : decode cX9_finds 37 = .ok (.iaload, 1) := by decide +kernel
theorem dX9_finds_38 : decode cX9_finds 38 = .ok (.iconst 1, 1) := by decide +kernel
theorem dX9_finds_39 : decode cX9_finds 39 = .ok (.iadd, 1) := by decide +kernel
theorem dX9_finds_40 : decode cX9_finds 40 = .ok (.iastore, 1) := by decide +kernel
theorem dX9_finds_41 : decode cX9_finds 41 = .ok (.return_, 1) := by decide +kernel
theorem dX9_allIn_0 : decode cX9_allIn 0 = .ok (.iconst 0, 1) := by decide +kernel
theorem dX9_allIn_1 : decode cX9_allIn 1 = .ok (.istore_n 1, 1) := by decide +kernel
theorem dX9_allIn_2 : decode cX9_allIn 2 = .ok (.iload_n 1, 1) := by decide +kernel
theorem dX9_allIn_3 : decode cX9_allIn 3 = .ok (.aload_n 0, 1) := by decide +kernel
theorem dX9_allIn_4 : decode cX9_allIn 4 = .ok (.getfield 7, 3) := by decide +kernel
theorem dX9_allIn_7 : decode cX9_allIn 7 = .ok (.iconst 0, 1) := by decide +kernel
theorem dX9_allIn_8 : decode cX9_allIn 8 = .ok (.iaload, 1) := by decide +kernel
theorem dX9_allIn_9 : decode cX9_allIn 9 = .ok (.if_icmp .ge 20, 3) := by decide +kernel
theorem dX9_allIn_12 : decode cX9_allIn 12 = .ok (.aload_n 0, 1) := by decide +kernel
theorem dX9_allIn_13 : decode cX9_allIn 13 = .ok (.getfield 21, 3) := by decide +kernel
theorem dX9_allIn_16 : decode cX9_allIn 16 = .ok (.iload_n 1, 1) := by decide +kernel
theorem dX9_allIn_17 : decode cX9_allIn 17 = .ok (.aload_n 0, 1) := by decide +kernel
theorem dX9_allIn_18 : decode cX9_allIn 18 = .ok (.iload_n 1, 1) := by decide +kernel
theorem dX9_allIn_19 : decode cX9_allIn 19 = .ok (.invokevirtual 62, 3) := by decide +kernel
theorem dX9_allIn_22 : decode cX9_allIn 22 = .ok (.bastore, 1) := by decide +kernel
theorem dX9_allIn_23 : decode cX9_allIn 23 = .ok (.iinc 1 1, 3) := by decide +kernel
theorem dX9_allIn_26 : decode cX9_allIn 26 = .ok (.goto (-24), 3) := by decide +kernel
theorem dX9_allIn_29 : decode cX9_allIn 29 = .ok (.return_, 1) := by decide +kernel
theorem dX9_tellers_0 : decode cX9_tellers 0 = .ok (.iconst 0, 1) := by decide +kernel
theorem dX9_tellers_1 : decode cX9_tellers 1 = .ok (.istore_n 3, 1) := by decide +kernel
theorem dX9_tellers_2 : decode cX9_tellers 2 = .ok (.iconst 0, 1) := by decide +kernel
theorem dX9_tellers_3 : decode cX9_tellers 3 = .ok (.istore 4, 2) := by decide +kernel
theorem dX9_tellers_5 : decode cX9_tellers 5 = .ok (.iload 4, 2) := by decide +kernel
theorem dX9_tellers_7 : decode cX9_tellers 7 = .ok (.aload_n 0, 1) := by decide +kernel
theorem dX9_tellers_8 : decode cX9_tellers 8 = .ok (.getfield 7, 3) := by decide +kernel
theorem dX9_tellers_11 : decode cX9_tellers 11 = .ok (.iconst 0, 1) := by decide +kernel
theorem dX9_tellers_12 : decode cX9_tellers 12 = .ok (.iaload, 1) := by decide +kernel
theorem dX9_tellers_13 : decode cX9_tellers 13 = .ok (.if_icmp .ge 45, 3) := by decide +kernel
theorem dX9_tellers_16 : decode cX9_tellers 16 = .ok (.iload_n 3, 1) := by decide +kernel
theorem dX9_tellers_17 : decode cX9_tellers 17 = .ok (.aload_n 0, 1) := by decide +kernel
theorem dX9_tellers_18 : decode cX9_tellers 18 = .ok (.getfield 21, 3) := by decide +kernel
theorem dX9_tellers_21 : decode cX9_tellers 21 = .ok (.iload 4, 2) := by decide +kernel
theorem dX9_tellers_23 : decode cX9_tellers 23 = .ok (.baload, 1) := by decide +kernel
theorem dX9_tellers_24 : decode cX9_tellers 24 = .ok (.ifCond .eq 25, 3) := by decide +kernel
theorem dX9_tellers_27 : decode cX9_tellers 27 = .ok (.aload_n 0, 1) := by decide +kernel
theorem dX9_tellers_28 : decode cX9_tellers 28 = .ok (.getfield 13, 3) := by decide +kernel
theorem dX9_tellers_31 : decode cX9_tellers 31 = .ok (.bipush 84, 2) := by decide +kernel
theorem dX9_tellers_33 : decode cX9_tellers 33 = .ok (.iload 4, 2) := by decide +kernel
theorem dX9_tellers_35 : decode cX9_tellers 35 = .ok (.iadd, 1) := by decide +kernel
theorem dX9_tellers_36 : decode cX9_tellers 36 = .ok (.laload, 1) := by decide +kernel
theorem dX9_tellers_37 : decode cX9_tellers 37 = .ok (.iload_n 1, 1) := by decide +kernel
theorem dX9_tellers_38 : decode cX9_tellers 38 = .ok (.invokestatic 40, 3) := by decide +kernel
theorem dX9_tellers_41 : decode cX9_tellers 41 = .ok (.iload_n 2, 1) := by decide +kernel
theorem dX9_tellers_42 : decode cX9_tellers 42 = .ok (.if_icmp .ne 7, 3) := by decide +kernel
theorem dX9_tellers_45 : decode cX9_tellers 45 = .ok (.iconst 1, 1) := by decide +kernel
theorem dX9_tellers_46 : decode cX9_tellers 46 = .ok (.goto 4, 3) := by decide +kernel
theorem dX9_tellers_49 : decode cX9_tellers 49 = .ok (.iconst 0, 1) := by decide +kernel
theorem dX9_tellers_50 : decode cX9_tellers 50 = .ok (.iadd, 1) := by decide +kernel
theorem dX9_tellers_51 : decode cX9_tellers 51 = .ok (.istore_n 3, 1) := by decide +kernel
theorem dX9_tellers_52 : decode cX9_tellers 52 = .ok (.iinc 4 1, 3) := by decide +kernel
theorem dX9_tellers_55 : decode cX9_tellers 55 = .ok (.goto (-50), 3) := by decide +kernel
theorem dX9_tellers_58 : decode cX9_tellers 58 = .ok (.iload_n 3, 1) := by decide +kernel
theorem dX9_tellers_59 : decode cX9_tellers 59 = .ok (.ireturn, 1) := by decide +kernel
theorem dX9_goesOn_0 : decode cX9_goesOn 0 = .ok (.iconst 0, 1) := by decide +kernel
theorem dX9_goesOn_1 : decode cX9_goesOn 1 = .ok (.istore_n 3, 1) := by decide +kernel
theorem dX9_goesOn_2 : decode cX9_goesOn 2 = .ok (.iload_n 3, 1) := by decide +kernel
theorem dX9_goesOn_3 : decode cX9_goesOn 3 = .ok (.aload_n 0, 1) := by decide +kernel
theorem dX9_goesOn_4 : decode cX9_goesOn 4 = .ok (.getfield 7, 3) := by decide +kernel
theorem dX9_goesOn_7 : decode cX9_goesOn 7 = .ok (.iconst 0, 1) := by decide +kernel
theorem dX9_goesOn_8 : decode cX9_goesOn 8 = .ok (.iaload, 1) := by decide +kernel
theorem dX9_goesOn_9 : decode cX9_goesOn 9 = .ok (.if_icmp .ge 46, 3) := by decide +kernel
theorem dX9_goesOn_12 : decode cX9_goesOn 12 = .ok (.aload_n 0, 1) := by decide +kernel
theorem dX9_goesOn_13 : decode cX9_goesOn 13 = .ok (.getfield 21, 3) := by decide +kernel
theorem dX9_goesOn_16 : decode cX9_goesOn 16 = .ok (.iload_n 3, 1) := by decide +kernel
theorem dX9_goesOn_17 : decode cX9_goesOn 17 = .ok (.aload_n 0, 1) := by decide +kernel
theorem dX9_goesOn_18 : decode cX9_goesOn 18 = .ok (.getfield 21, 3) := by decide +kernel
theorem dX9_goesOn_21 : decode cX9_goesOn 21 = .ok (.iload_n 3, 1) := by decide +kernel
theorem dX9_goesOn_22 : decode cX9_goesOn 22 = .ok (.baload, 1) := by decide +kernel
theorem dX9_goesOn_23 : decode cX9_goesOn 23 = .ok (.ifCond .eq 24, 3) := by decide +kernel
theorem dX9_goesOn_26 : decode cX9_goesOn 26 = .ok (.aload_n 0, 1) := by decide +kernel
theorem dX9_goesOn_27 : decode cX9_goesOn 27 = .ok (.getfield 13, 3) := by decide +kernel
theorem dX9_goesOn_30 : decode cX9_goesOn 30 = .ok (.bipush 84, 2) := by decide +kernel
theorem dX9_goesOn_32 : decode cX9_goesOn 32 = .ok (.iload_n 3, 1) := by decide +kernel
theorem dX9_goesOn_33 : decode cX9_goesOn 33 = .ok (.iadd, 1) := by decide +kernel
theorem dX9_goesOn_34 : decode cX9_goesOn 34 = .ok (.laload, 1) := by decide +kernel
theorem dX9_goesOn_35 : decode cX9_goesOn 35 = .ok (.iload_n 1, 1) := by decide +kernel
theorem dX9_goesOn_36 : decode cX9_goesOn 36 = .ok (.invokestatic 40, 3) := by decide +kernel
theorem dX9_goesOn_39 : decode cX9_goesOn 39 = .ok (.iload_n 2, 1) := by decide +kernel
theorem dX9_goesOn_40 : decode cX9_goesOn 40 = .ok (.if_icmp .ne 7, 3) := by decide +kernel
theorem dX9_goesOn_43 : decode cX9_goesOn 43 = .ok (.iconst 1, 1) := by decide +kernel
theorem dX9_goesOn_44 : decode cX9_goesOn 44 = .ok (.goto 4, 3) := by decide +kernel
theorem dX9_goesOn_47 : decode cX9_goesOn 47 = .ok (.iconst 0, 1) := by decide +kernel
theorem dX9_goesOn_48 : decode cX9_goesOn 48 = .ok (.bastore, 1) := by decide +kernel
theorem dX9_goesOn_49 : decode cX9_goesOn 49 = .ok (.iinc 3 1, 3) := by decide +kernel
theorem dX9_goesOn_52 : decode cX9_goesOn 52 = .ok (.goto (-50), 3) := by decide +kernel
theorem dX9_goesOn_55 : decode cX9_goesOn 55 = .ok (.return_, 1) := by decide +kernel
theorem dX9_oneIn_0 : decode cX9_oneIn 0 = .ok (.iconst (-1), 1) := by decide +kernel
theorem dX9_oneIn_1 : decode cX9_oneIn 1 = .ok (.istore_n 1, 1) := by decide +kernel
theorem dX9_oneIn_2 : decode cX9_oneIn 2 = .ok (.iconst 0, 1) := by decide +kernel
theorem dX9_oneIn_3 : decode cX9_oneIn 3 = .ok (.istore_n 2, 1) := by decide +kernel
theorem dX9_oneIn_4 : decode cX9_oneIn 4 = .ok (.iload_n 2, 1) := by decide +kernel
theorem dX9_oneIn_5 : decode cX9_oneIn 5 = .ok (.aload_n 0, 1) := by decide +kernel
theorem dX9_oneIn_6 : decode cX9_oneIn 6 = .ok (.getfield 7, 3) := by decide +kernel
theorem dX9_oneIn_9 : decode cX9_oneIn 9 = .ok (.iconst 0, 1) := by decide +kernel
theorem dX9_oneIn_10 : decode cX9_oneIn 10 = .ok (.iaload, 1) := by decide +kernel
theorem dX9_oneIn_11 : decode cX9_oneIn 11 = .ok (.if_icmp .ge 20, 3) := by decide +kernel
theorem dX9_oneIn_14 : decode cX9_oneIn 14 = .ok (.aload_n 0, 1) := by decide +kernel
theorem dX9_oneIn_15 : decode cX9_oneIn 15 = .ok (.getfield 21, 3) := by decide +kernel
theorem dX9_oneIn_18 : decode cX9_oneIn 18 = .ok (.iload_n 2, 1) := by decide +kernel
theorem dX9_oneIn_19 : decode cX9_oneIn 19 = .ok (.baload, 1) := by decide +kernel
theorem dX9_oneIn_20 : decode cX9_oneIn 20 = .ok (.ifCond .eq 5, 3) := by decide +kernel
theorem dX9_oneIn_23 : decode cX9_oneIn 23 = .ok (.iload_n 2, 1) := by decide +kernel
theorem dX9_oneIn_24 : decode cX9_oneIn 24 = .ok (.istore_n 1, 1) := by decide +kernel
theorem dX9_oneIn_25 : decode cX9_oneIn 25 = .ok (.iinc 2 1, 3) := by decide +kernel
theorem dX9_oneIn_28 : decode cX9_oneIn 28 = .ok (.goto (-24), 3) := by decide +kernel
theorem dX9_oneIn_31 : decode cX9_oneIn 31 = .ok (.iload_n 1, 1) := by decide +kernel
theorem dX9_oneIn_32 : decode cX9_oneIn 32 = .ok (.ireturn, 1) := by decide +kernel
theorem dX9_pass_0 : decode cX9_pass 0 = .ok (.aload_n 0, 1) := by decide +kernel
theorem dX9_pass_1 : decode cX9_pass 1 = .ok (.invokevirtual 69, 3) := by decide +kernel
theorem dX9_pass_4 : decode cX9_pass 4 = .ok (.aload_n 0, 1) := by decide +kernel
theorem dX9_pass_5 : decode cX9_pass 5 = .ok (.invokevirtual 72, 3) := by decide +kernel
theorem dX9_pass_8 : decode cX9_pass 8 = .ok (.ifCond .ge 30, 3) := by decide +kernel
theorem dX9_pass_11 : decode cX9_pass 11 = .ok (.aload_n 0, 1) := by decide +kernel
theorem dX9_pass_12 : decode cX9_pass 12 = .ok (.getfield 7, 3) := by decide +kernel
theorem dX9_pass_15 : decode cX9_pass 15 = .ok (.bipush 14, 2) := by decide +kernel
theorem dX9_pass_17 : decode cX9_pass 17 = .ok (.dup2, 1) := by decide +kernel
theorem dX9_pass_18 : decode cX9_pass 18 = .ok (.iaload, 1) := by decide +kernel
theorem dX9_pass_19 : decode cX9_pass 19 = .ok (.iconst 1, 1) := by decide +kernel
theorem dX9_pass_20 : decode cX9_pass 20 = .ok (.iadd, 1) := by decide +kernel
theorem dX9_pass_21 : decode cX9_pass 21 = .ok (.iastore, 1) := by decide +kernel
theorem dX9_pass_22 : decode cX9_pass 22 = .ok (.aload_n 0, 1) := by decide +kernel
theorem dX9_pass_23 : decode cX9_pass 23 = .ok (.getfield 7, 3) := by decide +kernel
theorem dX9_pass_26 : decode cX9_pass 26 = .ok (.iconst 2, 1) := by decide +kernel
theorem dX9_pass_27 : decode cX9_pass 27 = .ok (.iconst (-1), 1) := by decide +kernel
theorem dX9_pass_28 : decode cX9_pass 28 = .ok (.iastore, 1) := by decide +kernel
theorem dX9_pass_29 : decode cX9_pass 29 = .ok (.aload_n 0, 1) := by decide +kernel
theorem dX9_pass_30 : decode cX9_pass 30 = .ok (.getfield 7, 3) := by decide +kernel
theorem dX9_pass_33 : decode cX9_pass 33 = .ok (.iconst 3, 1) := by decide +kernel
theorem dX9_pass_34 : decode cX9_pass 34 = .ok (.iconst 0, 1) := by decide +kernel
theorem dX9_pass_35 : decode cX9_pass 35 = .ok (.iastore, 1) := by decide +kernel
theorem dX9_pass_36 : decode cX9_pass 36 = .ok (.iconst (-1), 1) := by decide +kernel
theorem dX9_pass_37 : decode cX9_pass 37 = .ok (.ireturn, 1) := by decide +kernel
theorem dX9_pass_38 : decode cX9_pass 38 = .ok (.iconst (-1), 1) := by decide +kernel
theorem dX9_pass_39 : decode cX9_pass 39 = .ok (.istore_n 1, 1) := by decide +kernel
theorem dX9_pass_40 : decode cX9_pass 40 = .ok (.iconst 0, 1) := by decide +kernel
theorem dX9_pass_41 : decode cX9_pass 41 = .ok (.istore_n 2, 1) := by decide +kernel
theorem dX9_pass_42 : decode cX9_pass 42 = .ok (.iload_n 2, 1) := by decide +kernel
theorem dX9_pass_43 : decode cX9_pass 43 = .ok (.bipush 64, 2) := by decide +kernel
theorem dX9_pass_45 : decode cX9_pass 45 = .ok (.if_icmp .ge 110, 3) := by decide +kernel
theorem dX9_pass_48 : decode cX9_pass 48 = .ok (.aload_n 0, 1) := by decide +kernel
theorem dX9_pass_49 : decode cX9_pass 49 = .ok (.iload_n 2, 1) := by decide +kernel
theorem dX9_pass_50 : decode cX9_pass 50 = .ok (.iconst 0, 1) := by decide +kernel
theorem dX9_pass_51 : decode cX9_pass 51 = .ok (.invokevirtual 75, 3) := by decide +kernel
theorem dX9_pass_54 : decode cX9_pass 54 = .ok (.ifCond .le 16, 3) := by decide +kernel
theorem dX9_pass_57 : decode cX9_pass 57 = .ok (.aload_n 0, 1) := by decide +kernel
theorem dX9_pass_58 : decode cX9_pass 58 = .ok (.iload_n 2, 1) := by decide +kernel
theorem dX9_pass_59 : decode cX9_pass 59 = .ok (.iconst 1, 1) := by decide +kernel
theorem dX9_pass_60 : decode cX9_pass 60 = .ok (.invokevirtual 75, 3) := by decide +kernel
theorem dX9_pass_63 : decode cX9_pass 63 = .ok (.ifCond .le 7, 3) := by decide +kernel
theorem dX9_pass_66 : decode cX9_pass 66 = .ok (.iconst 1, 1) := by decide +kernel
theorem dX9_pass_67 : decode cX9_pass 67 = .ok (.goto 4, 3) := by decide +kernel
theorem dX9_pass_70 : decode cX9_pass 70 = .ok (.iconst 0, 1) := by decide +kernel
theorem dX9_pass_71 : decode cX9_pass 71 = .ok (.istore_n 3, 1) := by decide +kernel
theorem dX9_pass_72 : decode cX9_pass 72 = .ok (.aload_n 0, 1) := by decide +kernel
theorem dX9_pass_73 : decode cX9_pass 73 = .ok (.iload_n 2, 1) := by decide +kernel
theorem dX9_pass_74 : decode cX9_pass 74 = .ok (.iconst 0, 1) := by decide +kernel
theorem dX9_pass_75 : decode cX9_pass 75 = .ok (.invokevirtual 75, 3) := by decide +kernel
theorem dX9_pass_78 : decode cX9_pass 78 = .ok (.ifCond .le 7, 3) := by decide +kernel
theorem dX9_pass_81 : decode cX9_pass 81 = .ok (.iconst 0, 1) := by decide +kernel
theorem dX9_pass_82 : decode cX9_pass 82 = .ok (.goto 4, 3) := by decide +kernel
theorem dX9_pass_85 : decode cX9_pass 85 = .ok (.iconst 1, 1) := by decide +kernel
theorem dX9_pass_86 : decode cX9_pass 86 = .ok (.istore 4, 2) := by decide +kernel
theorem dX9_pass_88 : decode cX9_pass 88 = .ok (.iload_n 3, 1) := by decide +kernel
theorem dX9_pass_89 : decode cX9_pass 89 = .ok (.ifCond .eq 25, 3) := by decide +kernel
theorem dX9_pass_92 : decode cX9_pass 92 = .ok (.iload_n 2, 1) := by decide +kernel
theorem dX9_pass_93 : decode cX9_pass 93 = .ok (.aload_n 0, 1) := by decide +kernel
theorem dX9_pass_94 : decode cX9_pass 94 = .ok (.getfield 7, 3) := by decide +kernel
theorem dX9_pass_97 : decode cX9_pass 97 = .ok (.iconst 2, 1) := by decide +kernel
theorem dX9_pass_98 : decode cX9_pass 98 = .ok (.iaload, 1) := by decide +kernel
theorem dX9_pass_99 : decode cX9_pass 99 = .ok (.if_icmp .ge 15, 3) := by decide +kernel
theorem dX9_pass_102 : decode cX9_pass 102 = .ok (.aload_n 0, 1) := by decide +kernel
theorem dX9_pass_103 : decode cX9_pass 103 = .ok (.getfield 13, 3) := by decide +kernel
theorem dX9_pass_106 : decode cX9_pass 106 = .ok (.iconst 2, 1) := by decide +kernel
theorem dX9_pass_107 : decode cX9_pass 107 = .ok (.laload, 1) := by decide +kernel
theorem dX9_pass_108 : decode cX9_pass 108 = .ok (.iload_n 2, 1) := by decide +kernel
theorem dX9_pass_109 : decode cX9_pass 109 = .ok (.invokestatic 40, 3) := by decide +kernel
theorem dX9_pass_112 : decode cX9_pass 112 = .ok (.istore 4, 2) := by decide +kernel
theorem dX9_pass_114 : decode cX9_pass 114 = .ok (.iload_n 3, 1) := by decide +kernel
theorem dX9_pass_115 : decode cX9_pass 115 = .ok (.ifCond .eq 16, 3) := by decide +kernel
theorem dX9_pass_118 : decode cX9_pass 118 = .ok (.iload_n 2, 1) := by decide +kernel
theorem dX9_pass_119 : decode cX9_pass 119 = .ok (.aload_n 0, 1) := by decide +kernel
theorem dX9_pass_120 : decode cX9_pass 120 = .ok (.getfield 7, 3) := by decide +kernel
theorem dX9_pass_123 : decode cX9_pass 123 = .ok (.iconst 2, 1) := by decide +kernel
theorem dX9_pass_124 : decode cX9_pass 124 = .ok (.iaload, 1) := by decide +kernel
theorem dX9_pass_125 : decode cX9_pass 125 = .ok (.if_icmp .ne 6, 3) := by decide +kernel
theorem dX9_pass_128 : decode cX9_pass 128 = .ok (.iconst 1, 1) := by decide +kernel
theorem dX9_pass_129 : decode cX9_pass 129 = .ok (.istore 4, 2) := by decide +kernel
theorem dX9_pass_131 : decode cX9_pass 131 = .ok (.iload_n 3, 1) := by decide +kernel
theorem dX9_pass_132 : decode cX9_pass 132 = .ok (.ifCond .eq 10, 3) := by decide +kernel
theorem dX9_pass_135 : decode cX9_pass 135 = .ok (.iload 4, 2) := by decide +kernel
theorem dX9_pass_137 : decode cX9_pass 137 = .ok (.ifCond .ne 5, 3) := by decide +kernel
theorem dX9_pass_140 : decode cX9_pass 140 = .ok (.iload_n 2, 1) := by decide +kernel
theorem dX9_pass_141 : decode cX9_pass 141 = .ok (.istore_n 1, 1) := by decide +kernel
theorem dX9_pass_142 : decode cX9_pass 142 = .ok (.aload_n 0, 1) := by decide +kernel
theorem dX9_pass_143 : decode cX9_pass 143 = .ok (.iload_n 2, 1) := by decide +kernel
theorem dX9_pass_144 : decode cX9_pass 144 = .ok (.iload 4, 2) := by decide +kernel
theorem dX9_pass_146 : decode cX9_pass 146 = .ok (.invokevirtual 78, 3) := by decide +kernel
theorem dX9_pass_149 : decode cX9_pass 149 = .ok (.iinc 2 1, 3) := by decide +kernel
theorem dX9_pass_152 : decode cX9_pass 152 = .ok (.goto (-110), 3) := by decide +kernel
theorem dX9_pass_155 : decode cX9_pass 155 = .ok (.aload_n 0, 1) := by decide +kernel
theorem dX9_pass_156 : decode cX9_pass 156 = .ok (.invokevirtual 72, 3) := by decide +kernel
theorem dX9_pass_159 : decode cX9_pass 159 = .ok (.istore_n 2, 1) := by decide +kernel
theorem dX9_pass_160 : decode cX9_pass 160 = .ok (.aload_n 0, 1) := by decide +kernel
theorem dX9_pass_161 : decode cX9_pass 161 = .ok (.getfield 7, 3) := by decide +kernel
theorem dX9_pass_164 : decode cX9_pass 164 = .ok (.bipush 14, 2) := by decide +kernel
theorem dX9_pass_166 : decode cX9_pass 166 = .ok (.dup2, 1) := by decide +kernel
theorem dX9_pass_167 : decode cX9_pass 167 = .ok (.iaload, 1) := by decide +kernel
theorem dX9_pass_168 : decode cX9_pass 168 = .ok (.sipush 193, 3) := by decide +kernel
theorem dX9_pass_171 : decode cX9_pass 171 = .ok (.iadd, 1) := by decide +kernel
theorem dX9_pass_172 : decode cX9_pass 172 = .ok (.iastore, 1) := by decide +kernel
theorem dX9_pass_173 : decode cX9_pass 173 = .ok (.aload_n 0, 1) := by decide +kernel
theorem dX9_pass_174 : decode cX9_pass 174 = .ok (.getfield 13, 3) := by decide +kernel
theorem dX9_pass_177 : decode cX9_pass 177 = .ok (.iconst 2, 1) := by decide +kernel
theorem dX9_pass_178 : decode cX9_pass 178 = .ok (.aload_n 0, 1) := by decide +kernel
theorem dX9_pass_179 : decode cX9_pass 179 = .ok (.getfield 13, 3) := by decide +kernel
theorem dX9_pass_182 : decode cX9_pass 182 = .ok (.bipush 84, 2) := by decide +kernel
theorem dX9_pass_184 : decode cX9_pass 184 = .ok (.iload_n 2, 1) := by decide +kernel
theorem dX9_pass_185 : decode cX9_pass 185 = .ok (.iadd, 1) := by decide +kernel
theorem dX9_pass_186 : decode cX9_pass 186 = .ok (.laload, 1) := by decide +kernel
theorem dX9_pass_187 : decode cX9_pass 187 = .ok (.lastore, 1) := by decide +kernel
theorem dX9_pass_188 : decode cX9_pass 188 = .ok (.aload_n 0, 1) := by decide +kernel
theorem dX9_pass_189 : decode cX9_pass 189 = .ok (.getfield 7, 3) := by decide +kernel
theorem dX9_pass_192 : decode cX9_pass 192 = .ok (.iconst 2, 1) := by decide +kernel
theorem dX9_pass_193 : decode cX9_pass 193 = .ok (.iload_n 1, 1) := by decide +kernel
theorem dX9_pass_194 : decode cX9_pass 194 = .ok (.iastore, 1) := by decide +kernel
theorem dX9_pass_195 : decode cX9_pass 195 = .ok (.aload_n 0, 1) := by decide +kernel
theorem dX9_pass_196 : decode cX9_pass 196 = .ok (.getfield 7, 3) := by decide +kernel
theorem dX9_pass_199 : decode cX9_pass 199 = .ok (.iconst 3, 1) := by decide +kernel
theorem dX9_pass_200 : decode cX9_pass 200 = .ok (.iload_n 1, 1) := by decide +kernel
theorem dX9_pass_201 : decode cX9_pass 201 = .ok (.ifCond .ge 7, 3) := by decide +kernel
theorem dX9_pass_204 : decode cX9_pass 204 = .ok (.iconst 0, 1) := by decide +kernel
theorem dX9_pass_205 : decode cX9_pass 205 = .ok (.goto 11, 3) := by decide +kernel
theorem dX9_pass_208 : decode cX9_pass 208 = .ok (.aload_n 0, 1) := by decide +kernel
theorem dX9_pass_209 : decode cX9_pass 209 = .ok (.getfield 7, 3) := by decide +kernel
theorem dX9_pass_212 : decode cX9_pass 212 = .ok (.iconst 3, 1) := by decide +kernel
theorem dX9_pass_213 : decode cX9_pass 213 = .ok (.iaload, 1) := by decide +kernel
theorem dX9_pass_214 : decode cX9_pass 214 = .ok (.iconst 1, 1) := by decide +kernel
theorem dX9_pass_215 : decode cX9_pass 215 = .ok (.iadd, 1) := by decide +kernel
theorem dX9_pass_216 : decode cX9_pass 216 = .ok (.iastore, 1) := by decide +kernel
theorem dX9_pass_217 : decode cX9_pass 217 = .ok (.aload_n 0, 1) := by decide +kernel
theorem dX9_pass_218 : decode cX9_pass 218 = .ok (.iload_n 2, 1) := by decide +kernel
theorem dX9_pass_219 : decode cX9_pass 219 = .ok (.invokevirtual 82, 3) := by decide +kernel
theorem dX9_pass_222 : decode cX9_pass 222 = .ok (.iload_n 2, 1) := by decide +kernel
theorem dX9_pass_223 : decode cX9_pass 223 = .ok (.ireturn, 1) := by decide +kernel
theorem dX9_fork_0 : decode cX9_fork 0 = .ok (.iload_n 1, 1) := by decide +kernel
theorem dX9_fork_1 : decode cX9_fork 1 = .ok (.ifCond .ne 12, 3) := by decide +kernel
theorem dX9_fork_4 : decode cX9_fork 4 = .ok (.aload_n 0, 1) := by decide +kernel
theorem dX9_fork_5 : decode cX9_fork 5 = .ok (.getfield 7, 3) := by decide +kernel
theorem dX9_fork_8 : decode cX9_fork 8 = .ok (.iconst 2, 1) := by decide +kernel
theorem dX9_fork_9 : decode cX9_fork 9 = .ok (.iaload, 1) := by decide +kernel
theorem dX9_fork_10 : decode cX9_fork 10 = .ok (.goto 18, 3) := by decide +kernel
theorem dX9_fork_13 : decode cX9_fork 13 = .ok (.iload_n 1, 1) := by decide +kernel
theorem dX9_fork_14 : decode cX9_fork 14 = .ok (.iconst 1, 1) := by decide +kernel
theorem dX9_fork_15 : decode cX9_fork 15 = .ok (.if_icmp .ne 12, 3) := by decide +kernel
theorem dX9_fork_18 : decode cX9_fork 18 = .ok (.aload_n 0, 1) := by decide +kernel
theorem dX9_fork_19 : decode cX9_fork 19 = .ok (.getfield 7, 3) := by decide +kernel
theorem dX9_fork_22 : decode cX9_fork 22 = .ok (.iconst 3, 1) := by decide +kernel
theorem dX9_fork_23 : decode cX9_fork 23 = .ok (.iaload, 1) := by decide +kernel
theorem dX9_fork_24 : decode cX9_fork 24 = .ok (.goto 4, 3) := by decide +kernel
theorem dX9_fork_27 : decode cX9_fork 27 = .ok (.iconst (-1), 1) := by decide +kernel
theorem dX9_fork_28 : decode cX9_fork 28 = .ok (.ireturn, 1) := by decide +kernel
theorem dX9_verify_0 : decode cX9_verify 0 = .ok (.aload_n 0, 1) := by decide +kernel
theorem dX9_verify_1 : decode cX9_verify 1 = .ok (.invokevirtual 69, 3) := by decide +kernel
theorem dX9_verify_4 : decode cX9_verify 4 = .ok (.iconst 0, 1) := by decide +kernel
theorem dX9_verify_5 : decode cX9_verify 5 = .ok (.istore_n 3, 1) := by decide +kernel
theorem dX9_verify_6 : decode cX9_verify 6 = .ok (.iload_n 3, 1) := by decide +kernel
theorem dX9_verify_7 : decode cX9_verify 7 = .ok (.bipush 64, 2) := by decide +kernel
theorem dX9_verify_9 : decode cX9_verify 9 = .ok (.if_icmp .ge 26, 3) := by decide +kernel
theorem dX9_verify_12 : decode cX9_verify 12 = .ok (.aload_n 0, 1) := by decide +kernel
theorem dX9_verify_13 : decode cX9_verify 13 = .ok (.invokevirtual 72, 3) := by decide +kernel
theorem dX9_verify_16 : decode cX9_verify 16 = .ok (.ifCond .lt 19, 3) := by decide +kernel
theorem dX9_verify_19 : decode cX9_verify 19 = .ok (.aload_n 0, 1) := by decide +kernel
theorem dX9_verify_20 : decode cX9_verify 20 = .ok (.iload_n 3, 1) := by decide +kernel
theorem dX9_verify_21 : decode cX9_verify 21 = .ok (.lload_n 1, 1) := by decide +kernel
theorem dX9_verify_22 : decode cX9_verify 22 = .ok (.iload_n 3, 1) := by decide +kernel
theorem dX9_verify_23 : decode cX9_verify 23 = .ok (.invokestatic 40, 3) := by decide +kernel
theorem dX9_verify_26 : decode cX9_verify 26 = .ok (.invokevirtual 78, 3) := by decide +kernel
theorem dX9_verify_29 : decode cX9_verify 29 = .ok (.iinc 3 1, 3) := by decide +kernel
theorem dX9_verify_32 : decode cX9_verify 32 = .ok (.goto (-26), 3) := by decide +kernel
theorem dX9_verify_35 : decode cX9_verify 35 = .ok (.aload_n 0, 1) := by decide +kernel
theorem dX9_verify_36 : decode cX9_verify 36 = .ok (.getfield 7, 3) := by decide +kernel
theorem dX9_verify_39 : decode cX9_verify 39 = .ok (.bipush 14, 2) := by decide +kernel
theorem dX9_verify_41 : decode cX9_verify 41 = .ok (.dup2, 1) := by decide +kernel
theorem dX9_verify_42 : decode cX9_verify 42 = .ok (.iaload, 1) := by decide +kernel
theorem dX9_verify_43 : decode cX9_verify 43 = .ok (.iconst 1, 1) := by decide +kernel
theorem dX9_verify_44 : decode cX9_verify 44 = .ok (.iconst 3, 1) := by decide +kernel
theorem dX9_verify_45 : decode cX9_verify 45 = .ok (.iload_n 3, 1) := by decide +kernel
theorem dX9_verify_46 : decode cX9_verify 46 = .ok (.imul, 1) := by decide +kernel
theorem dX9_verify_47 : decode cX9_verify 47 = .ok (.iadd, 1) := by decide +kernel
theorem dX9_verify_48 : decode cX9_verify 48 = .ok (.iadd, 1) := by decide +kernel
theorem dX9_verify_49 : decode cX9_verify 49 = .ok (.iastore, 1) := by decide +kernel
theorem dX9_verify_50 : decode cX9_verify 50 = .ok (.aload_n 0, 1) := by decide +kernel
theorem dX9_verify_51 : decode cX9_verify 51 = .ok (.invokevirtual 72, 3) := by decide +kernel
theorem dX9_verify_54 : decode cX9_verify 54 = .ok (.ifCond .lt 7, 3) := by decide +kernel
theorem dX9_verify_57 : decode cX9_verify 57 = .ok (.iconst 1, 1) := by decide +kernel
theorem dX9_verify_58 : decode cX9_verify 58 = .ok (.goto 4, 3) := by decide +kernel
theorem dX9_verify_61 : decode cX9_verify 61 = .ok (.iconst 0, 1) := by decide +kernel
theorem dX9_verify_62 : decode cX9_verify 62 = .ok (.ireturn, 1) := by decide +kernel
theorem dX9_slot_0 : decode cX9_slot 0 = .ok (.iconst 0, 1) := by decide +kernel
theorem dX9_slot_1 : decode cX9_slot 1 = .ok (.istore_n 1, 1) := by decide +kernel
theorem dX9_slot_2 : decode cX9_slot 2 = .ok (.iconst 0, 1) := by decide +kernel
theorem dX9_slot_3 : decode cX9_slot 3 = .ok (.istore_n 2, 1) := by decide +kernel
theorem dX9_slot_4 : decode cX9_slot 4 = .ok (.iconst (-1), 1) := by decide +kernel
theorem dX9_slot_5 : decode cX9_slot 5 = .ok (.istore_n 3, 1) := by decide +kernel
theorem dX9_slot_6 : decode cX9_slot 6 = .ok (.iconst 0, 1) := by decide +kernel
theorem dX9_slot_7 : decode cX9_slot 7 = .ok (.istore 4, 2) := by decide +kernel
theorem dX9_slot_9 : decode cX9_slot 9 = .ok (.iload 4, 2) := by decide +kernel
theorem dX9_slot_11 : decode cX9_slot 11 = .ok (.aload_n 0, 1) := by decide +kernel
theorem dX9_slot_12 : decode cX9_slot 12 = .ok (.getfield 7, 3) := by decide +kernel
theorem dX9_slot_15 : decode cX9_slot 15 = .ok (.iconst 0, 1) := by decide +kernel
theorem dX9_slot_16 : decode cX9_slot 16 = .ok (.iaload, 1) := by decide +kernel
theorem dX9_slot_17 : decode cX9_slot 17 = .ok (.if_icmp .ge 60, 3) := by decide +kernel
theorem dX9_slot_20 : decode cX9_slot 20 = .ok (.aload_n 0, 1) := by decide +kernel
theorem dX9_slot_21 : decode cX9_slot 21 = .ok (.getfield 24, 3) := by decide +kernel
theorem dX9_slot_24 : decode cX9_slot 24 = .ok (.iload 4, 2) := by decide +kernel
theorem dX9_slot_26 : decode cX9_slot 26 = .ok (.baload, 1) := by decide +kernel
theorem dX9_slot_27 : decode cX9_slot 27 = .ok (.ifCond .ne 6, 3) := by decide +kernel
theorem dX9_slot_30 : decode cX9_slot 30 = .ok (.goto 41, 3) := by decide +kernel
theorem dX9_slot_33 : decode cX9_slot 33 = .ok (.aload_n 0, 1) := by decide +kernel
theorem dX9_slot_34 : decode cX9_slot 34 = .ok (.iload 4, 2) := by decide +kernel
theorem dX9_slot_36 : decode cX9_slot 36 = .ok (.iconst 0, 1) := by decide +kernel
theorem dX9_slot_37 : decode cX9_slot 37 = .ok (.invokevirtual 44, 3) := by decide +kernel
theorem dX9_slot_40 : decode cX9_slot 40 = .ok (.iconst 5, 1) := by decide +kernel
theorem dX9_slot_41 : decode cX9_slot 41 = .ok (.if_icmp .ne 9, 3) := by decide +kernel
theorem dX9_slot_44 : decode cX9_slot 44 = .ok (.iinc 2 1, 3) := by decide +kernel
theorem dX9_slot_47 : decode cX9_slot 47 = .ok (.goto 6, 3) := by decide +kernel
theorem dX9_slot_50 : decode cX9_slot 50 = .ok (.iinc 1 1, 3) := by decide +kernel
theorem dX9_slot_53 : decode cX9_slot 53 = .ok (.aload_n 0, 1) := by decide +kernel
theorem dX9_slot_54 : decode cX9_slot 54 = .ok (.iload 4, 2) := by decide +kernel
theorem dX9_slot_56 : decode cX9_slot 56 = .ok (.iconst 0, 1) := by decide +kernel
theorem dX9_slot_57 : decode cX9_slot 57 = .ok (.invokevirtual 44, 3) := by decide +kernel
theorem dX9_slot_60 : decode cX9_slot 60 = .ok (.iconst 5, 1) := by decide +kernel
theorem dX9_slot_61 : decode cX9_slot 61 = .ok (.if_icmp .ne 7, 3) := by decide +kernel
theorem dX9_slot_64 : decode cX9_slot 64 = .ok (.iload_n 3, 1) := by decide +kernel
theorem dX9_slot_65 : decode cX9_slot 65 = .ok (.ifCond .ge 6, 3) := by decide +kernel
theorem dX9_slot_68 : decode cX9_slot 68 = .ok (.iload 4, 2) := by decide +kernel
theorem dX9_slot_70 : decode cX9_slot 70 = .ok (.istore_n 3, 1) := by decide +kernel
theorem dX9_slot_71 : decode cX9_slot 71 = .ok (.iinc 4 1, 3) := by decide +kernel
theorem dX9_slot_74 : decode cX9_slot 74 = .ok (.goto (-65), 3) := by decide +kernel
theorem dX9_slot_77 : decode cX9_slot 77 = .ok (.aload_n 0, 1) := by decide +kernel
theorem dX9_slot_78 : decode cX9_slot 78 = .ok (.iload_n 1, 1) := by decide +kernel
theorem dX9_slot_79 : decode cX9_slot 79 = .ok (.iload_n 2, 1) := by decide +kernel
theorem dX9_slot_80 : decode cX9_slot 80 = .ok (.iadd, 1) := by decide +kernel
theorem dX9_slot_81 : decode cX9_slot 81 = .ok (.iconst 1, 1) := by decide +kernel
theorem dX9_slot_82 : decode cX9_slot 82 = .ok (.if_icmp .eq 18, 3) := by decide +kernel
theorem dX9_slot_85 : decode cX9_slot 85 = .ok (.aload_n 0, 1) := by decide +kernel
theorem dX9_slot_86 : decode cX9_slot 86 = .ok (.getfield 7, 3) := by decide +kernel
theorem dX9_slot_89 : decode cX9_slot 89 = .ok (.iconst 1, 1) := by decide +kernel
theorem dX9_slot_90 : decode cX9_slot 90 = .ok (.iaload, 1) := by decide +kernel
theorem dX9_slot_91 : decode cX9_slot 91 = .ok (.iconst 1, 1) := by decide +kernel
theorem dX9_slot_92 : decode cX9_slot 92 = .ok (.if_icmp .ne 12, 3) := by decide +kernel
theorem dX9_slot_95 : decode cX9_slot 95 = .ok (.iload_n 1, 1) := by decide +kernel
theorem dX9_slot_96 : decode cX9_slot 96 = .ok (.iconst 1, 1) := by decide +kernel
theorem dX9_slot_97 : decode cX9_slot 97 = .ok (.if_icmp .ne 7, 3) := by decide +kernel
theorem dX9_slot_100 : decode cX9_slot 100 = .ok (.iload_n 3, 1) := by decide +kernel
theorem dX9_slot_101 : decode cX9_slot 101 = .ok (.goto 4, 3) := by decide +kernel
theorem dX9_slot_104 : decode cX9_slot 104 = .ok (.iconst (-1), 1) := by decide +kernel
theorem dX9_slot_105 : decode cX9_slot 105 = .ok (.putfield 86, 3) := by decide +kernel
theorem dX9_slot_108 : decode cX9_slot 108 = .ok (.iload_n 1, 1) := by decide +kernel
theorem dX9_slot_109 : decode cX9_slot 109 = .ok (.iload_n 2, 1) := by decide +kernel
theorem dX9_slot_110 : decode cX9_slot 110 = .ok (.iadd, 1) := by decide +kernel
theorem dX9_slot_111 : decode cX9_slot 111 = .ok (.ifCond .ne 7, 3) := by decide +kernel
theorem dX9_slot_114 : decode cX9_slot 114 = .ok (.iconst 0, 1) := by decide +kernel
theorem dX9_slot_115 : decode cX9_slot 115 = .ok (.goto 15, 3) := by decide +kernel
theorem dX9_slot_118 : decode cX9_slot 118 = .ok (.aload_n 0, 1) := by decide +kernel
theorem dX9_slot_119 : decode cX9_slot 119 = .ok (.getfield 86, 3) := by decide +kernel
theorem dX9_slot_122 : decode cX9_slot 122 = .ok (.ifCond .lt 7, 3) := by decide +kernel
theorem dX9_slot_125 : decode cX9_slot 125 = .ok (.iconst 1, 1) := by decide +kernel
theorem dX9_slot_126 : decode cX9_slot 126 = .ok (.goto 4, 3) := by decide +kernel
theorem dX9_slot_129 : decode cX9_slot 129 = .ok (.iconst 2, 1) := by decide +kernel
theorem dX9_slot_130 : decode cX9_slot 130 = .ok (.ireturn, 1) := by decide +kernel
theorem dX9_counted_0 : decode cX9_counted 0 = .ok (.aload_n 0, 1) := by decide +kernel
theorem dX9_counted_1 : decode cX9_counted 1 = .ok (.invokevirtual 90, 3) := by decide +kernel
theorem dX9_counted_4 : decode cX9_counted 4 = .ok (.istore_n 1, 1) := by decide +kernel
theorem dX9_counted_5 : decode cX9_counted 5 = .ok (.aload_n 0, 1) := by decide +kernel
theorem dX9_counted_6 : decode cX9_counted 6 = .ok (.getfield 7, 3) := by decide +kernel
theorem dX9_counted_9 : decode cX9_counted 9 = .ok (.bipush 11, 2) := by decide +kernel
theorem dX9_counted_11 : decode cX9_counted 11 = .ok (.iload_n 1, 1) := by decide +kernel
theorem dX9_counted_12 : decode cX9_counted 12 = .ok (.iadd, 1) := by decide +kernel
theorem dX9_counted_13 : decode cX9_counted 13 = .ok (.dup2, 1) := by decide +kernel
theorem dX9_counted_14 : decode cX9_counted 14 = .ok (.iaload, 1) := by decide +kernel
theorem dX9_counted_15 : decode cX9_counted 15 = .ok (.iconst 1, 1) := by decide +kernel
theorem dX9_counted_16 : decode cX9_counted 16 = .ok (.iadd, 1) := by decide +kernel
theorem dX9_counted_17 : decode cX9_counted 17 = .ok (.iastore, 1) := by decide +kernel
theorem dX9_counted_18 : decode cX9_counted 18 = .ok (.iload_n 1, 1) := by decide +kernel
theorem dX9_counted_19 : decode cX9_counted 19 = .ok (.ireturn, 1) := by decide +kernel
theorem dX9_begins_0 : decode cX9_begins 0 = .ok (.iload 4, 2) := by decide +kernel
theorem dX9_begins_2 : decode cX9_begins 2 = .ok (.ifCond .eq 17, 3) := by decide +kernel
theorem dX9_begins_5 : decode cX9_begins 5 = .ok (.lload_n 0, 1) := by decide +kernel
theorem dX9_begins_6 : decode cX9_begins 6 = .ok (.lload_n 2, 1) := by decide +kernel
theorem dX9_begins_7 : decode cX9_begins 7 = .ok (.lxor, 1) := by decide +kernel
theorem dX9_begins_8 : decode cX9_begins 8 = .ok (.bipush 64, 2) := by decide +kernel
theorem dX9_begins_10 : decode cX9_begins 10 = .ok (.iload 4, 2) := by decide +kernel
theorem dX9_begins_12 : decode cX9_begins 12 = .ok (.isub, 1) := by decide +kernel
theorem dX9_begins_13 : decode cX9_begins 13 = .ok (.lushr, 1) := by decide +kernel
theorem dX9_begins_14 : decode cX9_begins 14 = .ok (.lconst 0, 1) := by decide +kernel
theorem dX9_begins_15 : decode cX9_begins 15 = .ok (.lcmp, 1) := by decide +kernel
theorem dX9_begins_16 : decode cX9_begins 16 = .ok (.ifCond .ne 7, 3) := by decide +kernel
theorem dX9_begins_19 : decode cX9_begins 19 = .ok (.iconst 1, 1) := by decide +kernel
theorem dX9_begins_20 : decode cX9_begins 20 = .ok (.goto 4, 3) := by decide +kernel
theorem dX9_begins_23 : decode cX9_begins 23 = .ok (.iconst 0, 1) := by decide +kernel
theorem dX9_begins_24 : decode cX9_begins 24 = .ok (.ireturn, 1) := by decide +kernel
theorem dX9_called_0 : decode cX9_called 0 = .ok (.iconst 0, 1) := by decide +kernel
theorem dX9_called_1 : decode cX9_called 1 = .ok (.istore 4, 2) := by decide +kernel
theorem dX9_called_3 : decode cX9_called 3 = .ok (.iload 4, 2) := by decide +kernel
theorem dX9_called_5 : decode cX9_called 5 = .ok (.aload_n 0, 1) := by decide +kernel
theorem dX9_called_6 : decode cX9_called 6 = .ok (.getfield 7, 3) := by decide +kernel
theorem dX9_called_9 : decode cX9_called 9 = .ok (.iconst 0, 1) := by decide +kernel
theorem dX9_called_10 : decode cX9_called 10 = .ok (.iaload, 1) := by decide +kernel
theorem dX9_called_11 : decode cX9_called 11 = .ok (.if_icmp .ge 59, 3) := by decide +kernel
theorem dX9_called_14 : decode cX9_called 14 = .ok (.aload_n 0, 1) := by decide +kernel
theorem dX9_called_15 : decode cX9_called 15 = .ok (.getfield 24, 3) := by decide +kernel
theorem dX9_called_18 : decode cX9_called 18 = .ok (.iload 4, 2) := by decide +kernel
theorem dX9_called_20 : decode cX9_called 20 = .ok (.aload_n 0, 1) := by decide +kernel
theorem dX9_called_21 : decode cX9_called 21 = .ok (.iload 4, 2) := by decide +kernel
theorem dX9_called_23 : decode cX9_called 23 = .ok (.invokevirtual 62, 3) := by decide +kernel
theorem dX9_called_26 : decode cX9_called 26 = .ok (.ifCond .eq 36, 3) := by decide +kernel
theorem dX9_called_29 : decode cX9_called 29 = .ok (.aload_n 0, 1) := by decide +kernel
theorem dX9_called_30 : decode cX9_called 30 = .ok (.iload 4, 2) := by decide +kernel
theorem dX9_called_32 : decode cX9_called 32 = .ok (.iconst 0, 1) := by decide +kernel
theorem dX9_called_33 : decode cX9_called 33 = .ok (.invokevirtual 44, 3) := by decide +kernel
theorem dX9_called_36 : decode cX9_called 36 = .ok (.iconst 1, 1) := by decide +kernel
theorem dX9_called_37 : decode cX9_called 37 = .ok (.if_icmp .lt 25, 3) := by decide +kernel
theorem dX9_called_40 : decode cX9_called 40 = .ok (.aload_n 0, 1) := by decide +kernel
theorem dX9_called_41 : decode cX9_called 41 = .ok (.getfield 13, 3) := by decide +kernel
theorem dX9_called_44 : decode cX9_called 44 = .ok (.bipush 84, 2) := by decide +kernel
theorem dX9_called_46 : decode cX9_called 46 = .ok (.iload 4, 2) := by decide +kernel
theorem dX9_called_48 : decode cX9_called 48 = .ok (.iadd, 1) := by decide +kernel
theorem dX9_called_49 : decode cX9_called 49 = .ok (.laload, 1) := by decide +kernel
theorem dX9_called_50 : decode cX9_called 50 = .ok (.lload_n 1, 1) := by decide +kernel
theorem dX9_called_51 : decode cX9_called 51 = .ok (.iload_n 3, 1) := by decide +kernel
theorem dX9_called_52 : decode cX9_called 52 = .ok (.invokestatic 93, 3) := by decide +kernel
theorem dX9_called_55 : decode cX9_called 55 = .ok (.ifCond .eq 7, 3) := by decide +kernel
theorem dX9_called_58 : decode cX9_called 58 = .ok (.iconst 1, 1) := by decide +kernel
theorem dX9_called_59 : decode cX9_called 59 = .ok (.goto 4, 3) := by decide +kernel
theorem dX9_called_62 : decode cX9_called 62 = .ok (.iconst 0, 1) := by decide +kernel
theorem dX9_called_63 : decode cX9_called 63 = .ok (.bastore, 1) := by decide +kernel
theorem dX9_called_64 : decode cX9_called 64 = .ok (.iinc 4 1, 3) := by decide +kernel
theorem dX9_called_67 : decode cX9_called 67 = .ok (.goto (-64), 3) := by decide +kernel
theorem dX9_called_70 : decode cX9_called 70 = .ok (.return_, 1) := by decide +kernel
theorem dX9_ask_0 : decode cX9_ask 0 = .ok (.iload_n 3, 1) := by decide +kernel
theorem dX9_ask_1 : decode cX9_ask 1 = .ok (.ifCond .lt 9, 3) := by decide +kernel
theorem dX9_ask_4 : decode cX9_ask 4 = .ok (.iload_n 3, 1) := by decide +kernel
theorem dX9_ask_5 : decode cX9_ask 5 = .ok (.bipush 64, 2) := by decide +kernel
theorem dX9_ask_7 : decode cX9_ask 7 = .ok (.if_icmp .le 5, 3) := by decide +kernel
theorem dX9_ask_10 : decode cX9_ask 10 = .ok (.iconst (-1), 1) := by decide +kernel
theorem dX9_ask_11 : decode cX9_ask 11 = .ok (.ireturn, 1) := by decide +kernel
theorem dX9_ask_12 : decode cX9_ask 12 = .ok (.aload_n 0, 1) := by decide +kernel
theorem dX9_ask_13 : decode cX9_ask 13 = .ok (.lload_n 1, 1) := by decide +kernel
theorem dX9_ask_14 : decode cX9_ask 14 = .ok (.iload_n 3, 1) := by decide +kernel
theorem dX9_ask_15 : decode cX9_ask 15 = .ok (.invokevirtual 97, 3) := by decide +kernel
theorem dX9_ask_18 : decode cX9_ask 18 = .ok (.aload_n 0, 1) := by decide +kernel
theorem dX9_ask_19 : decode cX9_ask 19 = .ok (.invokevirtual 101, 3) := by decide +kernel
theorem dX9_ask_22 : decode cX9_ask 22 = .ok (.istore 4, 2) := by decide +kernel
theorem dX9_ask_24 : decode cX9_ask 24 = .ok (.aload_n 0, 1) := by decide +kernel
theorem dX9_ask_25 : decode cX9_ask 25 = .ok (.getfield 7, 3) := by decide +kernel
theorem dX9_ask_28 : decode cX9_ask 28 = .ok (.bipush 6, 2) := by decide +kernel
theorem dX9_ask_30 : decode cX9_ask 30 = .ok (.aload_n 0, 1) := by decide +kernel
theorem dX9_ask_31 : decode cX9_ask 31 = .ok (.getfield 86, 3) := by decide +kernel
theorem dX9_ask_34 : decode cX9_ask 34 = .ok (.iastore, 1) := by decide +kernel
theorem dX9_ask_35 : decode cX9_ask 35 = .ok (.iload 4, 2) := by decide +kernel
theorem dX9_ask_37 : decode cX9_ask 37 = .ok (.ireturn, 1) := by decide +kernel
theorem dX9_alone_0 : decode cX9_alone 0 = .ok (.aload_n 0, 1) := by decide +kernel
theorem dX9_alone_1 : decode cX9_alone 1 = .ok (.getfield 7, 3) := by decide +kernel
theorem dX9_alone_4 : decode cX9_alone 4 = .ok (.bipush 6, 2) := by decide +kernel
theorem dX9_alone_6 : decode cX9_alone 6 = .ok (.iaload, 1) := by decide +kernel
theorem dX9_alone_7 : decode cX9_alone 7 = .ok (.ireturn, 1) := by decide +kernel
theorem dX9_piles_0 : decode cX9_piles 0 = .ok (.aload_n 0, 1) := by decide +kernel
theorem dX9_piles_1 : decode cX9_piles 1 = .ok (.getfield 13, 3) := by decide +kernel
theorem dX9_piles_4 : decode cX9_piles 4 = .ok (.iconst 4, 1) := by decide +kernel
theorem dX9_piles_5 : decode cX9_piles 5 = .ok (.aload_n 0, 1) := by decide +kernel
theorem dX9_piles_6 : decode cX9_piles 6 = .ok (.getfield 7, 3) := by decide +kernel
theorem dX9_piles_9 : decode cX9_piles 9 = .ok (.iconst 4, 1) := by decide +kernel
theorem dX9_piles_10 : decode cX9_piles 10 = .ok (.iaload, 1) := by decide +kernel
theorem dX9_piles_11 : decode cX9_piles 11 = .ok (.iadd, 1) := by decide +kernel
theorem dX9_piles_12 : decode cX9_piles 12 = .ok (.lload_n 1, 1) := by decide +kernel
theorem dX9_piles_13 : decode cX9_piles 13 = .ok (.lastore, 1) := by decide +kernel
theorem dX9_piles_14 : decode cX9_piles 14 = .ok (.aload_n 0, 1) := by decide +kernel
theorem dX9_piles_15 : decode cX9_piles 15 = .ok (.getfield 7, 3) := by decide +kernel
theorem dX9_piles_18 : decode cX9_piles 18 = .ok (.bipush 20, 2) := by decide +kernel
theorem dX9_piles_20 : decode cX9_piles 20 = .ok (.aload_n 0, 1) := by decide +kernel
theorem dX9_piles_21 : decode cX9_piles 21 = .ok (.getfield 7, 3) := by decide +kernel
theorem dX9_piles_24 : decode cX9_piles 24 = .ok (.iconst 4, 1) := by decide +kernel
theorem dX9_piles_25 : decode cX9_piles 25 = .ok (.iaload, 1) := by decide +kernel
theorem dX9_piles_26 : decode cX9_piles 26 = .ok (.iadd, 1) := by decide +kernel
theorem dX9_piles_27 : decode cX9_piles 27 = .ok (.iload_n 3, 1) := by decide +kernel
theorem dX9_piles_28 : decode cX9_piles 28 = .ok (.iastore, 1) := by decide +kernel
theorem dX9_piles_29 : decode cX9_piles 29 = .ok (.aload_n 0, 1) := by decide +kernel
theorem dX9_piles_30 : decode cX9_piles 30 = .ok (.getfield 7, 3) := by decide +kernel
theorem dX9_piles_33 : decode cX9_piles 33 = .ok (.iconst 4, 1) := by decide +kernel
theorem dX9_piles_34 : decode cX9_piles 34 = .ok (.dup2, 1) := by decide +kernel
theorem dX9_piles_35 : decode cX9_piles 35 = .ok (.iaload, 1) := by decide +kernel
theorem dX9_piles_36 : decode cX9_piles 36 = .ok (.iconst 1, 1) := by decide +kernel
theorem dX9_piles_37 : decode cX9_piles 37 = .ok (.iadd, 1) := by decide +kernel
theorem dX9_piles_38 : decode cX9_piles 38 = .ok (.iastore, 1) := by decide +kernel
theorem dX9_piles_39 : decode cX9_piles 39 = .ok (.return_, 1) := by decide +kernel
theorem dX9_descend_0 : decode cX9_descend 0 = .ok (.aload_n 0, 1) := by decide +kernel
theorem dX9_descend_1 : decode cX9_descend 1 = .ok (.getfield 7, 3) := by decide +kernel
theorem dX9_descend_4 : decode cX9_descend 4 = .ok (.iconst 4, 1) := by decide +kernel
theorem dX9_descend_5 : decode cX9_descend 5 = .ok (.iconst 0, 1) := by decide +kernel
theorem dX9_descend_6 : decode cX9_descend 6 = .ok (.iastore, 1) := by decide +kernel
theorem dX9_descend_7 : decode cX9_descend 7 = .ok (.aload_n 0, 1) := by decide +kernel
theorem dX9_descend_8 : decode cX9_descend 8 = .ok (.lconst 0, 1) := by decide +kernel
theorem dX9_descend_9 : decode cX9_descend 9 = .ok (.iconst 0, 1) := by decide +kernel
theorem dX9_descend_10 : decode cX9_descend 10 = .ok (.invokevirtual 104, 3) := by decide +kernel
theorem dX9_descend_13 : decode cX9_descend 13 = .ok (.return_, 1) := by decide +kernel
theorem dX9_step_0 : decode cX9_step 0 = .ok (.aload_n 0, 1) := by decide +kernel
theorem dX9_step_1 : decode cX9_step 1 = .ok (.getfield 7, 3) := by decide +kernel
theorem dX9_step_4 : decode cX9_step 4 = .ok (.iconst 4, 1) := by decide +kernel
theorem dX9_step_5 : decode cX9_step 5 = .ok (.iaload, 1) := by decide +kernel
theorem dX9_step_6 : decode cX9_step 6 = .ok (.ifCond .ne 5, 3) := by decide +kernel
theorem dX9_step_9 : decode cX9_step 9 = .ok (.iconst (-1), 1) := by decide +kernel
theorem dX9_step_10 : decode cX9_step 10 = .ok (.ireturn, 1) := by decide +kernel
theorem dX9_step_11 : decode cX9_step 11 = .ok (.aload_n 0, 1) := by decide +kernel
theorem dX9_step_12 : decode cX9_step 12 = .ok (.getfield 7, 3) := by decide +kernel
theorem dX9_step_15 : decode cX9_step 15 = .ok (.iconst 4, 1) := by decide +kernel
theorem dX9_step_16 : decode cX9_step 16 = .ok (.dup2, 1) := by decide +kernel
theorem dX9_step_17 : decode cX9_step 17 = .ok (.iaload, 1) := by decide +kernel
theorem dX9_step_18 : decode cX9_step 18 = .ok (.iconst 1, 1) := by decide +kernel
theorem dX9_step_19 : decode cX9_step 19 = .ok (.isub, 1) := by decide +kernel
theorem dX9_step_20 : decode cX9_step 20 = .ok (.iastore, 1) := by decide +kernel
theorem dX9_step_21 : decode cX9_step 21 = .ok (.aload_n 0, 1) := by decide +kernel
theorem dX9_step_22 : decode cX9_step 22 = .ok (.getfield 13, 3) := by decide +kernel
theorem dX9_step_25 : decode cX9_step 25 = .ok (.iconst 4, 1) := by decide +kernel
theorem dX9_step_26 : decode cX9_step 26 = .ok (.aload_n 0, 1) := by decide +kernel
theorem dX9_step_27 : decode cX9_step 27 = .ok (.getfield 7, 3) := by decide +kernel
theorem dX9_step_30 : decode cX9_step 30 = .ok (.iconst 4, 1) := by decide +kernel
theorem dX9_step_31 : decode cX9_step 31 = .ok (.iaload, 1) := by decide +kernel
theorem dX9_step_32 : decode cX9_step 32 = .ok (.iadd, 1) := by decide +kernel
theorem dX9_step_33 : decode cX9_step 33 = .ok (.laload, 1) := by decide +kernel
theorem dX9_step_34 : decode cX9_step 34 = .ok (.lstore_n 1, 1) := by decide +kernel
theorem dX9_step_35 : decode cX9_step 35 = .ok (.aload_n 0, 1) := by decide +kernel
theorem dX9_step_36 : decode cX9_step 36 = .ok (.getfield 7, 3) := by decide +kernel
theorem dX9_step_39 : decode cX9_step 39 = .ok (.bipush 20, 2) := by decide +kernel
theorem dX9_step_41 : decode cX9_step 41 = .ok (.aload_n 0, 1) := by decide +kernel
theorem dX9_step_42 : decode cX9_step 42 = .ok (.getfield 7, 3) := by decide +kernel
theorem dX9_step_45 : decode cX9_step 45 = .ok (.iconst 4, 1) := by decide +kernel
theorem dX9_step_46 : decode cX9_step 46 = .ok (.iaload, 1) := by decide +kernel
theorem dX9_step_47 : decode cX9_step 47 = .ok (.iadd, 1) := by decide +kernel
theorem dX9_step_48 : decode cX9_step 48 = .ok (.iaload, 1) := by decide +kernel
theorem dX9_step_49 : decode cX9_step 49 = .ok (.istore_n 3, 1) := by decide +kernel
theorem dX9_step_50 : decode cX9_step 50 = .ok (.aload_n 0, 1) := by decide +kernel
theorem dX9_step_51 : decode cX9_step 51 = .ok (.lload_n 1, 1) := by decide +kernel
theorem dX9_step_52 : decode cX9_step 52 = .ok (.iload_n 3, 1) := by decide +kernel
theorem dX9_step_53 : decode cX9_step 53 = .ok (.invokevirtual 97, 3) := by decide +kernel
theorem dX9_step_56 : decode cX9_step 56 = .ok (.aload_n 0, 1) := by decide +kernel
theorem dX9_step_57 : decode cX9_step 57 = .ok (.invokevirtual 101, 3) := by decide +kernel
theorem dX9_step_60 : decode cX9_step 60 = .ok (.istore 4, 2) := by decide +kernel
theorem dX9_step_62 : decode cX9_step 62 = .ok (.aload_n 0, 1) := by decide +kernel
theorem dX9_step_63 : decode cX9_step 63 = .ok (.getfield 7, 3) := by decide +kernel
theorem dX9_step_66 : decode cX9_step 66 = .ok (.bipush 6, 2) := by decide +kernel
theorem dX9_step_68 : decode cX9_step 68 = .ok (.aload_n 0, 1) := by decide +kernel
theorem dX9_step_69 : decode cX9_step 69 = .ok (.getfield 86, 3) := by decide +kernel
theorem dX9_step_72 : decode cX9_step 72 = .ok (.iastore, 1) := by decide +kernel
theorem dX9_step_73 : decode cX9_step 73 = .ok (.iload 4, 2) := by decide +kernel
theorem dX9_step_75 : decode cX9_step 75 = .ok (.iconst 1, 1) := by decide +kernel
theorem dX9_step_76 : decode cX9_step 76 = .ok (.if_icmp .ne 11, 3) := by decide +kernel
theorem dX9_step_79 : decode cX9_step 79 = .ok (.aload_n 0, 1) := by decide +kernel
theorem dX9_step_80 : decode cX9_step 80 = .ok (.aload_n 0, 1) := by decide +kernel
theorem dX9_step_81 : decode cX9_step 81 = .ok (.getfield 86, 3) := by decide +kernel
theorem dX9_step_84 : decode cX9_step 84 = .ok (.invokevirtual 82, 3) := by decide +kernel
theorem dX9_step_87 : decode cX9_step 87 = .ok (.iload 4, 2) := by decide +kernel
theorem dX9_step_89 : decode cX9_step 89 = .ok (.iconst 2, 1) := by decide +kernel
theorem dX9_step_90 : decode cX9_step 90 = .ok (.if_icmp .ne 32, 3) := by decide +kernel
theorem dX9_step_93 : decode cX9_step 93 = .ok (.iload_n 3, 1) := by decide +kernel
theorem dX9_step_94 : decode cX9_step 94 = .ok (.bipush 64, 2) := by decide +kernel
theorem dX9_step_96 : decode cX9_step 96 = .ok (.if_icmp .ge 26, 3) := by decide +kernel
theorem dX9_step_99 : decode cX9_step 99 = .ok (.aload_n 0, 1) := by decide +kernel
theorem dX9_step_100 : decode cX9_step 100 = .ok (.lload_n 1, 1) := by decide +kernel
theorem dX9_step_101 : decode cX9_step 101 = .ok (.lconst 1, 1) := by decide +kernel
theorem dX9_step_102 : decode cX9_step 102 = .ok (.bipush 63, 2) := by decide +kernel
theorem dX9_step_104 : decode cX9_step 104 = .ok (.iload_n 3, 1) := by decide +kernel
theorem dX9_step_105 : decode cX9_step 105 = .ok (.isub, 1) := by decide +kernel
theorem dX9_step_106 : decode cX9_step 106 = .ok (.lshl, 1) := by decide +kernel
theorem dX9_step_107 : decode cX9_step 107 = .ok (.lor, 1) := by decide +kernel
theorem dX9_step_108 : decode cX9_step 108 = .ok (.iload_n 3, 1) := by decide +kernel
theorem dX9_step_109 : decode cX9_step 109 = .ok (.iconst 1, 1) := by decide +kernel
theorem dX9_step_110 : decode cX9_step 110 = .ok (.iadd, 1) := by decide +kernel
theorem dX9_step_111 : decode cX9_step 111 = .ok (.invokevirtual 104, 3) := by decide +kernel
theorem dX9_step_114 : decode cX9_step 114 = .ok (.aload_n 0, 1) := by decide +kernel
theorem dX9_step_115 : decode cX9_step 115 = .ok (.lload_n 1, 1) := by decide +kernel
theorem dX9_step_116 : decode cX9_step 116 = .ok (.iload_n 3, 1) := by decide +kernel
theorem dX9_step_117 : decode cX9_step 117 = .ok (.iconst 1, 1) := by decide +kernel
theorem dX9_step_118 : decode cX9_step 118 = .ok (.iadd, 1) := by decide +kernel
theorem dX9_step_119 : decode cX9_step 119 = .ok (.invokevirtual 104, 3) := by decide +kernel
theorem dX9_step_122 : decode cX9_step 122 = .ok (.iload 4, 2) := by decide +kernel
theorem dX9_step_124 : decode cX9_step 124 = .ok (.ireturn, 1) := by decide +kernel
theorem dX9_nodes_0 : decode cX9_nodes 0 = .ok (.iconst 0, 1) := by decide +kernel
theorem dX9_nodes_1 : decode cX9_nodes 1 = .ok (.istore_n 1, 1) := by decide +kernel
theorem dX9_nodes_2 : decode cX9_nodes 2 = .ok (.iconst 1, 1) := by decide +kernel
theorem dX9_nodes_3 : decode cX9_nodes 3 = .ok (.istore_n 2, 1) := by decide +kernel
theorem dX9_nodes_4 : decode cX9_nodes 4 = .ok (.aload_n 0, 1) := by decide +kernel
theorem dX9_nodes_5 : decode cX9_nodes 5 = .ok (.getfield 27, 3) := by decide +kernel
theorem dX9_nodes_8 : decode cX9_nodes 8 = .ok (.iconst 0, 1) := by decide +kernel
theorem dX9_nodes_9 : decode cX9_nodes 9 = .ok (.lconst 0, 1) := by decide +kernel
theorem dX9_nodes_10 : decode cX9_nodes 10 = .ok (.lastore, 1) := by decide +kernel
theorem dX9_nodes_11 : decode cX9_nodes 11 = .ok (.aload_n 0, 1) := by decide +kernel
theorem dX9_nodes_12 : decode cX9_nodes 12 = .ok (.getfield 30, 3) := by decide +kernel
theorem dX9_nodes_15 : decode cX9_nodes 15 = .ok (.iconst 0, 1) := by decide +kernel
theorem dX9_nodes_16 : decode cX9_nodes 16 = .ok (.iconst 0, 1) := by decide +kernel
theorem dX9_nodes_17 : decode cX9_nodes 17 = .ok (.iastore, 1) := by decide +kernel
theorem dX9_nodes_18 : decode cX9_nodes 18 = .ok (.iload_n 2, 1) := by decide +kernel
theorem dX9_nodes_19 : decode cX9_nodes 19 = .ok (.ifCond .le 101, 3) := by decide +kernel
theorem dX9_nodes_22 : decode cX9_nodes 22 = .ok (.iinc 2 (-1), 3) := by decide +kernel
theorem dX9_nodes_25 : decode cX9_nodes 25 = .ok (.aload_n 0, 1) := by decide +kernel
theorem dX9_nodes_26 : decode cX9_nodes 26 = .ok (.getfield 27, 3) := by decide +kernel
theorem dX9_nodes_29 : decode cX9_nodes 29 = .ok (.iload_n 2, 1) := by decide +kernel
theorem dX9_nodes_30 : decode cX9_nodes 30 = .ok (.laload, 1) := by decide +kernel
theorem dX9_nodes_31 : decode cX9_nodes 31 = .ok (.lstore_n 3, 1) := by decide +kernel
theorem dX9_nodes_32 : decode cX9_nodes 32 = .ok (.aload_n 0, 1) := by decide +kernel
theorem dX9_nodes_33 : decode cX9_nodes 33 = .ok (.getfield 30, 3) := by decide +kernel
theorem dX9_nodes_36 : decode cX9_nodes 36 = .ok (.iload_n 2, 1) := by decide +kernel
theorem dX9_nodes_37 : decode cX9_nodes 37 = .ok (.iaload, 1) := by decide +kernel
theorem dX9_nodes_38 : decode cX9_nodes 38 = .ok (.istore 5, 2) := by decide +kernel
theorem dX9_nodes_40 : decode cX9_nodes 40 = .ok (.iinc 1 1, 3) := by decide +kernel
theorem dX9_nodes_43 : decode cX9_nodes 43 = .ok (.aload_n 0, 1) := by decide +kernel
theorem dX9_nodes_44 : decode cX9_nodes 44 = .ok (.lload_n 3, 1) := by decide +kernel
theorem dX9_nodes_45 : decode cX9_nodes 45 = .ok (.iload 5, 2) := by decide +kernel
theorem dX9_nodes_47 : decode cX9_nodes 47 = .ok (.invokevirtual 97, 3) := by decide +kernel
theorem dX9_nodes_50 : decode cX9_nodes 50 = .ok (.aload_n 0, 1) := by decide +kernel
theorem dX9_nodes_51 : decode cX9_nodes 51 = .ok (.invokevirtual 90, 3) := by decide +kernel
theorem dX9_nodes_54 : decode cX9_nodes 54 = .ok (.iconst 2, 1) := by decide +kernel
theorem dX9_nodes_55 : decode cX9_nodes 55 = .ok (.if_icmp .ne (-37), 3) := by decide +kernel
theorem dX9_nodes_58 : decode cX9_nodes 58 = .ok (.iload 5, 2) := by decide +kernel
theorem dX9_nodes_60 : decode cX9_nodes 60 = .ok (.bipush 64, 2) := by decide +kernel
theorem dX9_nodes_62 : decode cX9_nodes 62 = .ok (.if_icmp .ne 6, 3) := by decide +kernel
theorem dX9_nodes_65 : decode cX9_nodes 65 = .ok (.goto (-47), 3) := by decide +kernel
theorem dX9_nodes_68 : decode cX9_nodes 68 = .ok (.aload_n 0, 1) := by decide +kernel
theorem dX9_nodes_69 : decode cX9_nodes 69 = .ok (.getfield 27, 3) := by decide +kernel
theorem dX9_nodes_72 : decode cX9_nodes 72 = .ok (.iload_n 2, 1) := by decide +kernel
theorem dX9_nodes_73 : decode cX9_nodes 73 = .ok (.lload_n 3, 1) := by decide +kernel
theorem dX9_nodes_74 : decode cX9_nodes 74 = .ok (.lconst 1, 1) := by decide +kernel
theorem dX9_nodes_75 : decode cX9_nodes 75 = .ok (.bipush 63, 2) := by decide +kernel
theorem dX9_nodes_77 : decode cX9_nodes 77 = .ok (.iload 5, 2) := by decide +kernel
theorem dX9_nodes_79 : decode cX9_nodes 79 = .ok (.isub, 1) := by decide +kernel
theorem dX9_nodes_80 : decode cX9_nodes 80 = .ok (.lshl, 1) := by decide +kernel
theorem dX9_nodes_81 : decode cX9_nodes 81 = .ok (.lor, 1) := by decide +kernel
theorem dX9_nodes_82 : decode cX9_nodes 82 = .ok (.lastore, 1) := by decide +kernel
theorem dX9_nodes_83 : decode cX9_nodes 83 = .ok (.aload_n 0, 1) := by decide +kernel
theorem dX9_nodes_84 : decode cX9_nodes 84 = .ok (.getfield 30, 3) := by decide +kernel
theorem dX9_nodes_87 : decode cX9_nodes 87 = .ok (.iload_n 2, 1) := by decide +kernel
theorem dX9_nodes_88 : decode cX9_nodes 88 = .ok (.iload 5, 2) := by decide +kernel
theorem dX9_nodes_90 : decode cX9_nodes 90 = .ok (.iconst 1, 1) := by decide +kernel
theorem dX9_nodes_91 : decode cX9_nodes 91 = .ok (.iadd, 1) := by decide +kernel
theorem dX9_nodes_92 : decode cX9_nodes 92 = .ok (.iastore, 1) := by decide +kernel
theorem dX9_nodes_93 : decode cX9_nodes 93 = .ok (.aload_n 0, 1) := by decide +kernel
theorem dX9_nodes_94 : decode cX9_nodes 94 = .ok (.getfield 27, 3) := by decide +kernel
theorem dX9_nodes_97 : decode cX9_nodes 97 = .ok (.iload_n 2, 1) := by decide +kernel
theorem dX9_nodes_98 : decode cX9_nodes 98 = .ok (.iconst 1, 1) := by decide +kernel
theorem dX9_nodes_99 : decode cX9_nodes 99 = .ok (.iadd, 1) := by decide +kernel
theorem dX9_nodes_100 : decode cX9_nodes 100 = .ok (.lload_n 3, 1) := by decide +kernel
theorem dX9_nodes_101 : decode cX9_nodes 101 = .ok (.lastore, 1) := by decide +kernel
theorem dX9_nodes_102 : decode cX9_nodes 102 = .ok (.aload_n 0, 1) := by decide +kernel
theorem dX9_nodes_103 : decode cX9_nodes 103 = .ok (.getfield 30, 3) := by decide +kernel
theorem dX9_nodes_106 : decode cX9_nodes 106 = .ok (.iload_n 2, 1) := by decide +kernel
theorem dX9_nodes_107 : decode cX9_nodes 107 = .ok (.iconst 1, 1) := by decide +kernel
theorem dX9_nodes_108 : decode cX9_nodes 108 = .ok (.iadd, 1) := by decide +kernel
theorem dX9_nodes_109 : decode cX9_nodes 109 = .ok (.iload 5, 2) := by decide +kernel
theorem dX9_nodes_111 : decode cX9_nodes 111 = .ok (.iconst 1, 1) := by decide +kernel
theorem dX9_nodes_112 : decode cX9_nodes 112 = .ok (.iadd, 1) := by decide +kernel
theorem dX9_nodes_113 : decode cX9_nodes 113 = .ok (.iastore, 1) := by decide +kernel
theorem dX9_nodes_114 : decode cX9_nodes 114 = .ok (.iinc 2 2, 3) := by decide +kernel
theorem dX9_nodes_117 : decode cX9_nodes 117 = .ok (.goto (-99), 3) := by decide +kernel
theorem dX9_nodes_120 : decode cX9_nodes 120 = .ok (.iload_n 1, 1) := by decide +kernel
theorem dX9_nodes_121 : decode cX9_nodes 121 = .ok (.ireturn, 1) := by decide +kernel
theorem dX9_splits_0 : decode cX9_splits 0 = .ok (.aload_n 0, 1) := by decide +kernel
theorem dX9_splits_1 : decode cX9_splits 1 = .ok (.iload_n 1, 1) := by decide +kernel
theorem dX9_splits_2 : decode cX9_splits 2 = .ok (.iconst 0, 1) := by decide +kernel
theorem dX9_splits_3 : decode cX9_splits 3 = .ok (.invokevirtual 44, 3) := by decide +kernel
theorem dX9_splits_6 : decode cX9_splits 6 = .ok (.iconst 3, 1) := by decide +kernel
theorem dX9_splits_7 : decode cX9_splits 7 = .ok (.if_icmp .eq 13, 3) := by decide +kernel
theorem dX9_splits_10 : decode cX9_splits 10 = .ok (.aload_n 0, 1) := by decide +kernel
theorem dX9_splits_11 : decode cX9_splits 11 = .ok (.iload_n 1, 1) := by decide +kernel
theorem dX9_splits_12 : decode cX9_splits 12 = .ok (.iconst 0, 1) := by decide +kernel
theorem dX9_splits_13 : decode cX9_splits 13 = .ok (.invokevirtual 44, 3) := by decide +kernel
theorem dX9_splits_16 : decode cX9_splits 16 = .ok (.iconst 4, 1) := by decide +kernel
theorem dX9_splits_17 : decode cX9_splits 17 = .ok (.if_icmp .ne 15, 3) := by decide +kernel
theorem dX9_splits_20 : decode cX9_splits 20 = .ok (.aload_n 0, 1) := by decide +kernel
theorem dX9_splits_21 : decode cX9_splits 21 = .ok (.iload_n 1, 1) := by decide +kernel
theorem dX9_splits_22 : decode cX9_splits 22 = .ok (.invokevirtual 62, 3) := by decide +kernel
theorem dX9_splits_25 : decode cX9_splits 25 = .ok (.ifCond .eq 7, 3) := by decide +kernel
theorem dX9_splits_28 : decode cX9_splits 28 = .ok (.iconst 1, 1) := by decide +kernel
theorem dX9_splits_29 : decode cX9_splits 29 = .ok (.goto 4, 3) := by decide +kernel
theorem dX9_splits_32 : decode cX9_splits 32 = .ok (.iconst 0, 1) := by decide +kernel
theorem dX9_splits_33 : decode cX9_splits 33 = .ok (.ireturn, 1) := by decide +kernel
theorem dX9_begin_0 : decode cX9_begin 0 = .ok (.aload_n 0, 1) := by decide +kernel
theorem dX9_begin_1 : decode cX9_begin 1 = .ok (.getfield 7, 3) := by decide +kernel
theorem dX9_begin_4 : decode cX9_begin 4 = .ok (.iconst 5, 1) := by decide +kernel
theorem dX9_begin_5 : decode cX9_begin 5 = .ok (.iconst 0, 1) := by decide +kernel
theorem dX9_begin_6 : decode cX9_begin 6 = .ok (.iastore, 1) := by decide +kernel
theorem dX9_begin_7 : decode cX9_begin 7 = .ok (.iconst 0, 1) := by decide +kernel
theorem dX9_begin_8 : decode cX9_begin 8 = .ok (.istore_n 1, 1) := by decide +kernel
theorem dX9_begin_9 : decode cX9_begin 9 = .ok (.iconst 0, 1) := by decide +kernel
theorem dX9_begin_10 : decode cX9_begin 10 = .ok (.istore_n 2, 1) := by decide +kernel
theorem dX9_begin_11 : decode cX9_begin 11 = .ok (.iload_n 2, 1) := by decide +kernel
theorem dX9_begin_12 : decode cX9_begin 12 = .ok (.aload_n 0, 1) := by decide +kernel
theorem dX9_begin_13 : decode cX9_begin 13 = .ok (.getfield 7, 3) := by decide +kernel
theorem dX9_begin_16 : decode cX9_begin 16 = .ok (.iconst 0, 1) := by decide +kernel
theorem dX9_begin_17 : decode cX9_begin 17 = .ok (.iaload, 1) := by decide +kernel
theorem dX9_begin_18 : decode cX9_begin 18 = .ok (.if_icmp .ge 44, 3) := by decide +kernel
theorem dX9_begin_21 : decode cX9_begin 21 = .ok (.aload_n 0, 1) := by decide +kernel
theorem dX9_begin_22 : decode cX9_begin 22 = .ok (.iload_n 2, 1) := by decide +kernel
theorem dX9_begin_23 : decode cX9_begin 23 = .ok (.iconst 3, 1) := by decide +kernel
theorem dX9_begin_24 : decode cX9_begin 24 = .ok (.aload_n 0, 1) := by decide +kernel
theorem dX9_begin_25 : decode cX9_begin 25 = .ok (.iload_n 2, 1) := by decide +kernel
theorem dX9_begin_26 : decode cX9_begin 26 = .ok (.invokevirtual 107, 3) := by decide +kernel
theorem dX9_begin_29 : decode cX9_begin 29 = .ok (.ifCond .eq 7, 3) := by decide +kernel
theorem dX9_begin_32 : decode cX9_begin 32 = .ok (.iconst 0, 1) := by decide +kernel
theorem dX9_begin_33 : decode cX9_begin 33 = .ok (.goto 4, 3) := by decide +kernel
theorem dX9_begin_36 : decode cX9_begin 36 = .ok (.iconst (-1), 1) := by decide +kernel
theorem dX9_begin_37 : decode cX9_begin 37 = .ok (.invokevirtual 52, 3) := by decide +kernel
theorem dX9_begin_40 : decode cX9_begin 40 = .ok (.iload_n 1, 1) := by decide +kernel
theorem dX9_begin_41 : decode cX9_begin 41 = .ok (.aload_n 0, 1) := by decide +kernel
theorem dX9_begin_42 : decode cX9_begin 42 = .ok (.iload_n 2, 1) := by decide +kernel
theorem dX9_begin_43 : decode cX9_begin 43 = .ok (.invokevirtual 107, 3) := by decide +kernel
theorem dX9_begin_46 : decode cX9_begin 46 = .ok (.ifCond .eq 7, 3) := by decide +kernel
theorem dX9_begin_49 : decode cX9_begin 49 = .ok (.iconst 1, 1) := by decide +kernel
theorem dX9_begin_50 : decode cX9_begin 50 = .ok (.goto 4, 3) := by decide +kernel
theorem dX9_begin_53 : decode cX9_begin 53 = .ok (.iconst 0, 1) := by decide +kernel
theorem dX9_begin_54 : decode cX9_begin 54 = .ok (.iadd, 1) := by decide +kernel
theorem dX9_begin_55 : decode cX9_begin 55 = .ok (.istore_n 1, 1) := by decide +kernel
theorem dX9_begin_56 : decode cX9_begin 56 = .ok (.iinc 2 1, 3) := by decide +kernel
theorem dX9_begin_59 : decode cX9_begin 59 = .ok (.goto (-48), 3) := by decide +kernel
theorem dX9_begin_62 : decode cX9_begin 62 = .ok (.iload_n 1, 1) := by decide +kernel
theorem dX9_begin_63 : decode cX9_begin 63 = .ok (.ireturn, 1) := by decide +kernel
theorem dX9_draw_0 : decode cX9_draw 0 = .ok (.aload_n 0, 1) := by decide +kernel
theorem dX9_draw_1 : decode cX9_draw 1 = .ok (.iload_n 1, 1) := by decide +kernel
theorem dX9_draw_2 : decode cX9_draw 2 = .ok (.iconst 4, 1) := by decide +kernel
theorem dX9_draw_3 : decode cX9_draw 3 = .ok (.invokevirtual 44, 3) := by decide +kernel
theorem dX9_draw_6 : decode cX9_draw 6 = .ok (.ldc 110, 2) := by decide +kernel
theorem dX9_draw_8 : decode cX9_draw 8 = .ok (.imul, 1) := by decide +kernel
theorem dX9_draw_9 : decode cX9_draw 9 = .ok (.sipush 12345, 3) := by decide +kernel
theorem dX9_draw_12 : decode cX9_draw 12 = .ok (.iadd, 1) := by decide +kernel
theorem dX9_draw_13 : decode cX9_draw 13 = .ok (.istore_n 3, 1) := by decide +kernel
theorem dX9_draw_14 : decode cX9_draw 14 = .ok (.aload_n 0, 1) := by decide +kernel
theorem dX9_draw_15 : decode cX9_draw 15 = .ok (.iload_n 1, 1) := by decide +kernel
theorem dX9_draw_16 : decode cX9_draw 16 = .ok (.iconst 4, 1) := by decide +kernel
theorem dX9_draw_17 : decode cX9_draw 17 = .ok (.iload_n 3, 1) := by decide +kernel
theorem dX9_draw_18 : decode cX9_draw 18 = .ok (.invokevirtual 52, 3) := by decide +kernel
theorem dX9_draw_21 : decode cX9_draw 21 = .ok (.iload_n 3, 1) := by decide +kernel
theorem dX9_draw_22 : decode cX9_draw 22 = .ok (.bipush 16, 2) := by decide +kernel
theorem dX9_draw_24 : decode cX9_draw 24 = .ok (.iushr, 1) := by decide +kernel
theorem dX9_draw_25 : decode cX9_draw 25 = .ok (.iload_n 2, 1) := by decide +kernel
theorem dX9_draw_26 : decode cX9_draw 26 = .ok (.irem, 1) := by decide +kernel
theorem dX9_draw_27 : decode cX9_draw 27 = .ok (.ireturn, 1) := by decide +kernel
theorem dX9_sleeps_0 : decode cX9_sleeps 0 = .ok (.aload_n 0, 1) := by decide +kernel
theorem dX9_sleeps_1 : decode cX9_sleeps 1 = .ok (.iload_n 1, 1) := by decide +kernel
theorem dX9_sleeps_2 : decode cX9_sleeps 2 = .ok (.iconst 0, 1) := by decide +kernel
theorem dX9_sleeps_3 : decode cX9_sleeps 3 = .ok (.invokevirtual 44, 3) := by decide +kernel
theorem dX9_sleeps_6 : decode cX9_sleeps 6 = .ok (.iconst 4, 1) := by decide +kernel
theorem dX9_sleeps_7 : decode cX9_sleeps 7 = .ok (.if_icmp .ne 10, 3) := by decide +kernel
theorem dX9_sleeps_10 : decode cX9_sleeps 10 = .ok (.aload_n 0, 1) := by decide +kernel
theorem dX9_sleeps_11 : decode cX9_sleeps 11 = .ok (.iload_n 1, 1) := by decide +kernel
theorem dX9_sleeps_12 : decode cX9_sleeps 12 = .ok (.iconst 2, 1) := by decide +kernel
theorem dX9_sleeps_13 : decode cX9_sleeps 13 = .ok (.iconst 0, 1) := by decide +kernel
theorem dX9_sleeps_14 : decode cX9_sleeps 14 = .ok (.invokevirtual 52, 3) := by decide +kernel
theorem dX9_sleeps_17 : decode cX9_sleeps 17 = .ok (.return_, 1) := by decide +kernel
theorem dX9_split_0 : decode cX9_split 0 = .ok (.aload_n 0, 1) := by decide +kernel
theorem dX9_split_1 : decode cX9_split 1 = .ok (.getfield 7, 3) := by decide +kernel
theorem dX9_split_4 : decode cX9_split 4 = .ok (.iconst 5, 1) := by decide +kernel
theorem dX9_split_5 : decode cX9_split 5 = .ok (.iaload, 1) := by decide +kernel
theorem dX9_split_6 : decode cX9_split 6 = .ok (.ifCond .ge 5, 3) := by decide +kernel
theorem dX9_split_9 : decode cX9_split 9 = .ok (.iconst (-1), 1) := by decide +kernel
theorem dX9_split_10 : decode cX9_split 10 = .ok (.ireturn, 1) := by decide +kernel
theorem dX9_split_11 : decode cX9_split 11 = .ok (.iconst 0, 1) := by decide +kernel
theorem dX9_split_12 : decode cX9_split 12 = .ok (.istore_n 1, 1) := by decide +kernel
theorem dX9_split_13 : decode cX9_split 13 = .ok (.iload_n 1, 1) := by decide +kernel
theorem dX9_split_14 : decode cX9_split 14 = .ok (.aload_n 0, 1) := by decide +kernel
theorem dX9_split_15 : decode cX9_split 15 = .ok (.getfield 7, 3) := by decide +kernel
theorem dX9_split_18 : decode cX9_split 18 = .ok (.iconst 0, 1) := by decide +kernel
theorem dX9_split_19 : decode cX9_split 19 = .ok (.iaload, 1) := by decide +kernel
theorem dX9_split_20 : decode cX9_split 20 = .ok (.if_icmp .ge 37, 3) := by decide +kernel
theorem dX9_split_23 : decode cX9_split 23 = .ok (.aload_n 0, 1) := by decide +kernel
theorem dX9_split_24 : decode cX9_split 24 = .ok (.getfield 24, 3) := by decide +kernel
theorem dX9_split_27 : decode cX9_split 27 = .ok (.iload_n 1, 1) := by decide +kernel
theorem dX9_split_28 : decode cX9_split 28 = .ok (.aload_n 0, 1) := by decide +kernel
theorem dX9_split_29 : decode cX9_split 29 = .ok (.iload_n 1, 1) := by decide +kernel
theorem dX9_split_30 : decode cX9_split 30 = .ok (.invokevirtual 107, 3) := by decide +kernel
theorem dX9_split_33 : decode cX9_split 33 = .ok (.ifCond .eq 16, 3) := by decide +kernel
theorem dX9_split_36 : decode cX9_split 36 = .ok (.aload_n 0, 1) := by decide +kernel
theorem dX9_split_37 : decode cX9_split 37 = .ok (.iload_n 1, 1) := by decide +kernel
theorem dX9_split_38 : decode cX9_split 38 = .ok (.iconst 3, 1) := by decide +kernel
theorem dX9_split_39 : decode cX9_split 39 = .ok (.invokevirtual 44, 3) := by decide +kernel
theorem dX9_split_42 : decode cX9_split 42 = .ok (.ifCond .ne 7, 3) := by decide +kernel
theorem dX9_split_45 : decode cX9_split 45 = .ok (.iconst 1, 1) := by decide +kernel
theorem dX9_split_46 : decode cX9_split 46 = .ok (.goto 4, 3) := by decide +kernel
theorem dX9_split_49 : decode cX9_split 49 = .ok (.iconst 0, 1) := by decide +kernel
theorem dX9_split_50 : decode cX9_split 50 = .ok (.bastore, 1) := by decide +kernel
theorem dX9_split_51 : decode cX9_split 51 = .ok (.iinc 1 1, 3) := by decide +kernel
theorem dX9_split_54 : decode cX9_split 54 = .ok (.goto (-41), 3) := by decide +kernel
theorem dX9_split_57 : decode cX9_split 57 = .ok (.aload_n 0, 1) := by decide +kernel
theorem dX9_split_58 : decode cX9_split 58 = .ok (.invokevirtual 101, 3) := by decide +kernel
theorem dX9_split_61 : decode cX9_split 61 = .ok (.istore_n 1, 1) := by decide +kernel
theorem dX9_split_62 : decode cX9_split 62 = .ok (.aload_n 0, 1) := by decide +kernel
theorem dX9_split_63 : decode cX9_split 63 = .ok (.getfield 7, 3) := by decide +kernel
theorem dX9_split_66 : decode cX9_split 66 = .ok (.bipush 6, 2) := by decide +kernel
theorem dX9_split_68 : decode cX9_split 68 = .ok (.aload_n 0, 1) := by decide +kernel
theorem dX9_split_69 : decode cX9_split 69 = .ok (.getfield 86, 3) := by decide +kernel
theorem dX9_split_72 : decode cX9_split 72 = .ok (.iastore, 1) := by decide +kernel
theorem dX9_split_73 : decode cX9_split 73 = .ok (.iconst 0, 1) := by decide +kernel
theorem dX9_split_74 : decode cX9_split 74 = .ok (.istore_n 2, 1) := by decide +kernel
theorem dX9_split_75 : decode cX9_split 75 = .ok (.iload_n 2, 1) := by decide +kernel
theorem dX9_split_76 : decode cX9_split 76 = .ok (.aload_n 0, 1) := by decide +kernel
theorem dX9_split_77 : decode cX9_split 77 = .ok (.getfield 7, 3) := by decide +kernel
theorem dX9_split_80 : decode cX9_split 80 = .ok (.iconst 0, 1) := by decide +kernel
theorem dX9_split_81 : decode cX9_split 81 = .ok (.iaload, 1) := by decide +kernel
theorem dX9_split_82 : decode cX9_split 82 = .ok (.if_icmp .ge 96, 3) := by decide +kernel
theorem dX9_split_85 : decode cX9_split 85 = .ok (.aload_n 0, 1) := by decide +kernel
theorem dX9_split_86 : decode cX9_split 86 = .ok (.iload_n 2, 1) := by decide +kernel
theorem dX9_split_87 : decode cX9_split 87 = .ok (.invokevirtual 107, 3) := by decide +kernel
theorem dX9_split_90 : decode cX9_split 90 = .ok (.ifCond .eq 82, 3) := by decide +kernel
theorem dX9_split_93 : decode cX9_split 93 = .ok (.aload_n 0, 1) := by decide +kernel
theorem dX9_split_94 : decode cX9_split 94 = .ok (.iload_n 2, 1) := by decide +kernel
theorem dX9_split_95 : decode cX9_split 95 = .ok (.iconst 3, 1) := by decide +kernel
theorem dX9_split_96 : decode cX9_split 96 = .ok (.invokevirtual 44, 3) := by decide +kernel
theorem dX9_split_99 : decode cX9_split 99 = .ok (.ifCond .lt 73, 3) := by decide +kernel
theorem dX9_split_102 : decode cX9_split 102 = .ok (.iload_n 2, 1) := by decide +kernel
theorem dX9_split_103 : decode cX9_split 103 = .ok (.aload_n 0, 1) := by decide +kernel
theorem dX9_split_104 : decode cX9_split 104 = .ok (.getfield 86, 3) := by decide +kernel
theorem dX9_split_107 : decode cX9_split 107 = .ok (.if_icmp .ne 6, 3) := by decide +kernel
theorem dX9_split_110 : decode cX9_split 110 = .ok (.goto 62, 3) := by decide +kernel
theorem dX9_split_113 : decode cX9_split 113 = .ok (.aload_n 0, 1) := by decide +kernel
theorem dX9_split_114 : decode cX9_split 114 = .ok (.iload_n 2, 1) := by decide +kernel
theorem dX9_split_115 : decode cX9_split 115 = .ok (.iconst 3, 1) := by decide +kernel
theorem dX9_split_116 : decode cX9_split 116 = .ok (.invokevirtual 44, 3) := by decide +kernel
theorem dX9_split_119 : decode cX9_split 119 = .ok (.istore_n 3, 1) := by decide +kernel
theorem dX9_split_120 : decode cX9_split 120 = .ok (.iload_n 1, 1) := by decide +kernel
theorem dX9_split_121 : decode cX9_split 121 = .ok (.iconst 2, 1) := by decide +kernel
theorem dX9_split_122 : decode cX9_split 122 = .ok (.if_icmp .eq 23, 3) := by decide +kernel
theorem dX9_split_125 : decode cX9_split 125 = .ok (.aload_n 0, 1) := by decide +kernel
theorem dX9_split_126 : decode cX9_split 126 = .ok (.iload_n 2, 1) := by decide +kernel
theorem dX9_split_127 : decode cX9_split 127 = .ok (.iconst 3, 1) := by decide +kernel
theorem dX9_split_128 : decode cX9_split 128 = .ok (.iload_n 3, 1) := by decide +kernel
theorem dX9_split_129 : decode cX9_split 129 = .ok (.ifCond .le 9, 3) := by decide +kernel
theorem dX9_split_132 : decode cX9_split 132 = .ok (.iload_n 3, 1) := by decide +kernel
theorem dX9_split_133 : decode cX9_split 133 = .ok (.iconst 1, 1) := by decide +kernel
theorem dX9_split_134 : decode cX9_split 134 = .ok (.isub, 1) := by decide +kernel
theorem dX9_split_135 : decode cX9_split 135 = .ok (.goto 4, 3) := by decide +kernel
theorem dX9_split_138 : decode cX9_split 138 = .ok (.iconst 0, 1) := by decide +kernel
theorem dX9_split_139 : decode cX9_split 139 = .ok (.invokevirtual 52, 3) := by decide +kernel
theorem dX9_split_142 : decode cX9_split 142 = .ok (.goto 30, 3) := by decide +kernel
theorem dX9_split_145 : decode cX9_split 145 = .ok (.aload_n 0, 1) := by decide +kernel
theorem dX9_split_146 : decode cX9_split 146 = .ok (.iload_n 2, 1) := by decide +kernel
theorem dX9_split_147 : decode cX9_split 147 = .ok (.iconst 3, 1) := by decide +kernel
theorem dX9_split_148 : decode cX9_split 148 = .ok (.aload_n 0, 1) := by decide +kernel
theorem dX9_split_149 : decode cX9_split 149 = .ok (.getfield 24, 3) := by decide +kernel
theorem dX9_split_152 : decode cX9_split 152 = .ok (.iload_n 2, 1) := by decide +kernel
theorem dX9_split_153 : decode cX9_split 153 = .ok (.baload, 1) := by decide +kernel
theorem dX9_split_154 : decode cX9_split 154 = .ok (.ifCond .eq 12, 3) := by decide +kernel
theorem dX9_split_157 : decode cX9_split 157 = .ok (.aload_n 0, 1) := by decide +kernel
theorem dX9_split_158 : decode cX9_split 158 = .ok (.iload_n 2, 1) := by decide +kernel
theorem dX9_split_159 : decode cX9_split 159 = .ok (.iconst 2, 1) := by decide +kernel
theorem dX9_split_160 : decode cX9_split 160 = .ok (.invokevirtual 111, 3) := by decide +kernel
theorem dX9_split_163 : decode cX9_split 163 = .ok (.goto 6, 3) := by decide +kernel
theorem dX9_split_166 : decode cX9_split 166 = .ok (.iload_n 3, 1) := by decide +kernel
theorem dX9_split_167 : decode cX9_split 167 = .ok (.iconst 1, 1) := by decide +kernel
theorem dX9_split_168 : decode cX9_split 168 = .ok (.iadd, 1) := by decide +kernel
theorem dX9_split_169 : decode cX9_split 169 = .ok (.invokevirtual 52, 3) := by decide +kernel
theorem dX9_split_172 : decode cX9_split 172 = .ok (.iinc 2 1, 3) := by decide +kernel
theorem dX9_split_175 : decode cX9_split 175 = .ok (.goto (-100), 3) := by decide +kernel
theorem dX9_split_178 : decode cX9_split 178 = .ok (.aload_n 0, 1) := by decide +kernel
theorem dX9_split_179 : decode cX9_split 179 = .ok (.getfield 7, 3) := by decide +kernel
theorem dX9_split_182 : decode cX9_split 182 = .ok (.iconst 5, 1) := by decide +kernel
theorem dX9_split_183 : decode cX9_split 183 = .ok (.dup2, 1) := by decide +kernel
theorem dX9_split_184 : decode cX9_split 184 = .ok (.iaload, 1) := by decide +kernel
theorem dX9_split_185 : decode cX9_split 185 = .ok (.iload_n 1, 1) := by decide +kernel
theorem dX9_split_186 : decode cX9_split 186 = .ok (.iconst 2, 1) := by decide +kernel
theorem dX9_split_187 : decode cX9_split 187 = .ok (.if_icmp .ne 7, 3) := by decide +kernel
theorem dX9_split_190 : decode cX9_split 190 = .ok (.iconst 1, 1) := by decide +kernel
theorem dX9_split_191 : decode cX9_split 191 = .ok (.goto 4, 3) := by decide +kernel
theorem dX9_split_194 : decode cX9_split 194 = .ok (.iconst (-1), 1) := by decide +kernel
theorem dX9_split_195 : decode cX9_split 195 = .ok (.iadd, 1) := by decide +kernel
theorem dX9_split_196 : decode cX9_split 196 = .ok (.iastore, 1) := by decide +kernel
theorem dX9_split_197 : decode cX9_split 197 = .ok (.iload_n 1, 1) := by decide +kernel
theorem dX9_split_198 : decode cX9_split 198 = .ok (.iconst 1, 1) := by decide +kernel
theorem dX9_split_199 : decode cX9_split 199 = .ok (.if_icmp .ne 29, 3) := by decide +kernel
theorem dX9_split_202 : decode cX9_split 202 = .ok (.aload_n 0, 1) := by decide +kernel
theorem dX9_split_203 : decode cX9_split 203 = .ok (.aload_n 0, 1) := by decide +kernel
theorem dX9_split_204 : decode cX9_split 204 = .ok (.getfield 86, 3) := by decide +kernel
theorem dX9_split_207 : decode cX9_split 207 = .ok (.iconst 3, 1) := by decide +kernel
theorem dX9_split_208 : decode cX9_split 208 = .ok (.iconst (-1), 1) := by decide +kernel
theorem dX9_split_209 : decode cX9_split 209 = .ok (.invokevirtual 52, 3) := by decide +kernel
theorem dX9_split_212 : decode cX9_split 212 = .ok (.aload_n 0, 1) := by decide +kernel
theorem dX9_split_213 : decode cX9_split 213 = .ok (.aload_n 0, 1) := by decide +kernel
theorem dX9_split_214 : decode cX9_split 214 = .ok (.getfield 86, 3) := by decide +kernel
theorem dX9_split_217 : decode cX9_split 217 = .ok (.invokevirtual 82, 3) := by decide +kernel
theorem dX9_split_220 : decode cX9_split 220 = .ok (.aload_n 0, 1) := by decide +kernel
theorem dX9_split_221 : decode cX9_split 221 = .ok (.aload_n 0, 1) := by decide +kernel
theorem dX9_split_222 : decode cX9_split 222 = .ok (.getfield 86, 3) := by decide +kernel
theorem dX9_split_225 : decode cX9_split 225 = .ok (.invokevirtual 114, 3) := by decide +kernel
theorem dX9_split_228 : decode cX9_split 228 = .ok (.iload_n 1, 1) := by decide +kernel
theorem dX9_split_229 : decode cX9_split 229 = .ok (.ireturn, 1) := by decide +kernel
theorem dX9_frames_0 : decode cX9_frames 0 = .ok (.iconst 0, 1) := by decide +kernel
theorem dX9_frames_1 : decode cX9_frames 1 = .ok (.istore_n 1, 1) := by decide +kernel
theorem dX9_frames_2 : decode cX9_frames 2 = .ok (.iload_n 1, 1) := by decide +kernel
theorem dX9_frames_3 : decode cX9_frames 3 = .ok (.aload_n 0, 1) := by decide +kernel
theorem dX9_frames_4 : decode cX9_frames 4 = .ok (.getfield 7, 3) := by decide +kernel
theorem dX9_frames_7 : decode cX9_frames 7 = .ok (.iconst 0, 1) := by decide +kernel
theorem dX9_frames_8 : decode cX9_frames 8 = .ok (.iaload, 1) := by decide +kernel
theorem dX9_frames_9 : decode cX9_frames 9 = .ok (.if_icmp .ge 16, 3) := by decide +kernel
theorem dX9_frames_12 : decode cX9_frames 12 = .ok (.aload_n 0, 1) := by decide +kernel
theorem dX9_frames_13 : decode cX9_frames 13 = .ok (.iload_n 1, 1) := by decide +kernel
theorem dX9_frames_14 : decode cX9_frames 14 = .ok (.iconst 5, 1) := by decide +kernel
theorem dX9_frames_15 : decode cX9_frames 15 = .ok (.iconst 0, 1) := by decide +kernel
theorem dX9_frames_16 : decode cX9_frames 16 = .ok (.invokevirtual 52, 3) := by decide +kernel
theorem dX9_frames_19 : decode cX9_frames 19 = .ok (.iinc 1 1, 3) := by decide +kernel
theorem dX9_frames_22 : decode cX9_frames 22 = .ok (.goto (-20), 3) := by decide +kernel
theorem dX9_frames_25 : decode cX9_frames 25 = .ok (.return_, 1) := by decide +kernel
theorem dX9_frame_0 : decode cX9_frame 0 = .ok (.iload_n 1, 1) := by decide +kernel
theorem dX9_frame_1 : decode cX9_frame 1 = .ok (.iconst 1, 1) := by decide +kernel
theorem dX9_frame_2 : decode cX9_frame 2 = .ok (.if_icmp .lt 9, 3) := by decide +kernel
theorem dX9_frame_5 : decode cX9_frame 5 = .ok (.iload_n 1, 1) := by decide +kernel
theorem dX9_frame_6 : decode cX9_frame 6 = .ok (.bipush 64, 2) := by decide +kernel
theorem dX9_frame_8 : decode cX9_frame 8 = .ok (.if_icmp .le 5, 3) := by decide +kernel
theorem dX9_frame_11 : decode cX9_frame 11 = .ok (.iconst (-1), 1) := by decide +kernel
theorem dX9_frame_12 : decode cX9_frame 12 = .ok (.ireturn, 1) := by decide +kernel
theorem dX9_frame_13 : decode cX9_frame 13 = .ok (.iconst 0, 1) := by decide +kernel
theorem dX9_frame_14 : decode cX9_frame 14 = .ok (.istore_n 2, 1) := by decide +kernel
theorem dX9_frame_15 : decode cX9_frame 15 = .ok (.iload_n 2, 1) := by decide +kernel
theorem dX9_frame_16 : decode cX9_frame 16 = .ok (.aload_n 0, 1) := by decide +kernel
theorem dX9_frame_17 : decode cX9_frame 17 = .ok (.getfield 7, 3) := by decide +kernel
theorem dX9_frame_20 : decode cX9_frame 20 = .ok (.iconst 0, 1) := by decide +kernel
theorem dX9_frame_21 : decode cX9_frame 21 = .ok (.iaload, 1) := by decide +kernel
theorem dX9_frame_22 : decode cX9_frame 22 = .ok (.if_icmp .ge 52, 3) := by decide +kernel
theorem dX9_frame_25 : decode cX9_frame 25 = .ok (.aload_n 0, 1) := by decide +kernel
theorem dX9_frame_26 : decode cX9_frame 26 = .ok (.getfield 33, 3) := by decide +kernel
theorem dX9_frame_29 : decode cX9_frame 29 = .ok (.iload_n 2, 1) := by decide +kernel
theorem dX9_frame_30 : decode cX9_frame 30 = .ok (.aload_n 0, 1) := by decide +kernel
theorem dX9_frame_31 : decode cX9_frame 31 = .ok (.iload_n 2, 1) := by decide +kernel
theorem dX9_frame_32 : decode cX9_frame 32 = .ok (.iconst 0, 1) := by decide +kernel
theorem dX9_frame_33 : decode cX9_frame 33 = .ok (.invokevirtual 44, 3) := by decide +kernel
theorem dX9_frame_36 : decode cX9_frame 36 = .ok (.iconst 2, 1) := by decide +kernel
theorem dX9_frame_37 : decode cX9_frame 37 = .ok (.if_icmp .lt 29, 3) := by decide +kernel
theorem dX9_frame_40 : decode cX9_frame 40 = .ok (.aload_n 0, 1) := by decide +kernel
theorem dX9_frame_41 : decode cX9_frame 41 = .ok (.iload_n 2, 1) := by decide +kernel
theorem dX9_frame_42 : decode cX9_frame 42 = .ok (.iconst 5, 1) := by decide +kernel
theorem dX9_frame_43 : decode cX9_frame 43 = .ok (.invokevirtual 44, 3) := by decide +kernel
theorem dX9_frame_46 : decode cX9_frame 46 = .ok (.ifCond .ne 20, 3) := by decide +kernel
theorem dX9_frame_49 : decode cX9_frame 49 = .ok (.aload_n 0, 1) := by decide +kernel
theorem dX9_frame_50 : decode cX9_frame 50 = .ok (.iload_n 2, 1) := by decide +kernel
theorem dX9_frame_51 : decode cX9_frame 51 = .ok (.invokevirtual 62, 3) := by decide +kernel
theorem dX9_frame_54 : decode cX9_frame 54 = .ok (.ifCond .eq 12, 3) := by decide +kernel
theorem dX9_frame_57 : decode cX9_frame 57 = .ok (.aload_n 0, 1) := by decide +kernel
theorem dX9_frame_58 : decode cX9_frame 58 = .ok (.iload_n 2, 1) := by decide +kernel
theorem dX9_frame_59 : decode cX9_frame 59 = .ok (.iload_n 1, 1) := by decide +kernel
theorem dX9_frame_60 : decode cX9_frame 60 = .ok (.invokevirtual 111, 3) := by decide +kernel
theorem dX9_frame_63 : decode cX9_frame 63 = .ok (.goto 4, 3) := by decide +kernel
theorem dX9_frame_66 : decode cX9_frame 66 = .ok (.iconst (-1), 1) := by decide +kernel
theorem dX9_frame_67 : decode cX9_frame 67 = .ok (.iastore, 1) := by decide +kernel
theorem dX9_frame_68 : decode cX9_frame 68 = .ok (.iinc 2 1, 3) := by decide +kernel
theorem dX9_frame_71 : decode cX9_frame 71 = .ok (.goto (-56), 3) := by decide +kernel
theorem dX9_frame_74 : decode cX9_frame 74 = .ok (.iconst 0, 1) := by decide +kernel
theorem dX9_frame_75 : decode cX9_frame 75 = .ok (.istore_n 2, 1) := by decide +kernel
theorem dX9_frame_76 : decode cX9_frame 76 = .ok (.iload_n 2, 1) := by decide +kernel
theorem dX9_frame_77 : decode cX9_frame 77 = .ok (.iconst 3, 1) := by decide +kernel
theorem dX9_frame_78 : decode cX9_frame 78 = .ok (.if_icmp .ge 19, 3) := by decide +kernel
theorem dX9_frame_81 : decode cX9_frame 81 = .ok (.aload_n 0, 1) := by decide +kernel
theorem dX9_frame_82 : decode cX9_frame 82 = .ok (.getfield 7, 3) := by decide +kernel
theorem dX9_frame_85 : decode cX9_frame 85 = .ok (.bipush 7, 2) := by decide +kernel
theorem dX9_frame_87 : decode cX9_frame 87 = .ok (.iload_n 2, 1) := by decide +kernel
theorem dX9_frame_88 : decode cX9_frame 88 = .ok (.iadd, 1) := by decide +kernel
theorem dX9_frame_89 : decode cX9_frame 89 = .ok (.iconst 0, 1) := by decide +kernel
theorem dX9_frame_90 : decode cX9_frame 90 = .ok (.iastore, 1) := by decide +kernel
theorem dX9_frame_91 : decode cX9_frame 91 = .ok (.iinc 2 1, 3) := by decide +kernel
theorem dX9_frame_94 : decode cX9_frame 94 = .ok (.goto (-18), 3) := by decide +kernel
theorem dX9_frame_97 : decode cX9_frame 97 = .ok (.iconst 0, 1) := by decide +kernel
theorem dX9_frame_98 : decode cX9_frame 98 = .ok (.istore_n 2, 1) := by decide +kernel
theorem dX9_frame_99 : decode cX9_frame 99 = .ok (.iconst 0, 1) := by decide +kernel
theorem dX9_frame_100 : decode cX9_frame 100 = .ok (.istore_n 3, 1) := by decide +kernel
theorem dX9_frame_101 : decode cX9_frame 101 = .ok (.iload_n 3, 1) := by decide +kernel
theorem dX9_frame_102 : decode cX9_frame 102 = .ok (.iload_n 1, 1) := by decide +kernel
theorem dX9_frame_103 : decode cX9_frame 103 = .ok (.if_icmp .ge 110, 3) := by decide +kernel
theorem dX9_frame_106 : decode cX9_frame 106 = .ok (.iconst 0, 1) := by decide +kernel
theorem dX9_frame_107 : decode cX9_frame 107 = .ok (.istore 4, 2) := by decide +kernel
theorem dX9_frame_109 : decode cX9_frame 109 = .ok (.iload 4, 2) := by decide +kernel
theorem dX9_frame_111 : decode cX9_frame 111 = .ok (.aload_n 0, 1) := by decide +kernel
theorem dX9_frame_112 : decode cX9_frame 112 = .ok (.getfield 7, 3) := by decide +kernel
theorem dX9_frame_115 : decode cX9_frame 115 = .ok (.iconst 0, 1) := by decide +kernel
theorem dX9_frame_116 : decode cX9_frame 116 = .ok (.iaload, 1) := by decide +kernel
theorem dX9_frame_117 : decode cX9_frame 117 = .ok (.if_icmp .ge 32, 3) := by decide +kernel
theorem dX9_frame_120 : decode cX9_frame 120 = .ok (.aload_n 0, 1) := by decide +kernel
theorem dX9_frame_121 : decode cX9_frame 121 = .ok (.getfield 24, 3) := by decide +kernel
theorem dX9_frame_124 : decode cX9_frame 124 = .ok (.iload 4, 2) := by decide +kernel
theorem dX9_frame_126 : decode cX9_frame 126 = .ok (.aload_n 0, 1) := by decide +kernel
theorem dX9_frame_127 : decode cX9_frame 127 = .ok (.getfield 33, 3) := by decide +kernel
theorem dX9_frame_130 : decode cX9_frame 130 = .ok (.iload 4, 2) := by decide +kernel
theorem dX9_frame_132 : decode cX9_frame 132 = .ok (.iaload, 1) := by decide +kernel
theorem dX9_frame_133 : decode cX9_frame 133 = .ok (.iload_n 3, 1) := by decide +kernel
theorem dX9_frame_134 : decode cX9_frame 134 = .ok (.if_icmp .ne 7, 3) := by decide +kernel
theorem dX9_frame_137 : decode cX9_frame 137 = .ok (.iconst 1, 1) := by decide +kernel
theorem dX9_frame_138 : decode cX9_frame 138 = .ok (.goto 4, 3) := by decide +kernel
theorem dX9_frame_141 : decode cX9_frame 141 = .ok (.iconst 0, 1) := by decide +kernel
theorem dX9_frame_142 : decode cX9_frame 142 = .ok (.bastore, 1) := by decide +kernel
theorem dX9_frame_143 : decode cX9_frame 143 = .ok (.iinc 4 1, 3) := by decide +kernel
theorem dX9_frame_146 : decode cX9_frame 146 = .ok (.goto (-37), 3) := by decide +kernel
theorem dX9_frame_149 : decode cX9_frame 149 = .ok (.aload_n 0, 1) := by decide +kernel
theorem dX9_frame_150 : decode cX9_frame 150 = .ok (.invokevirtual 101, 3) := by decide +kernel
theorem dX9_frame_153 : decode cX9_frame 153 = .ok (.istore 4, 2) := by decide +kernel
theorem dX9_frame_155 : decode cX9_frame 155 = .ok (.aload_n 0, 1) := by decide +kernel
theorem dX9_frame_156 : decode cX9_frame 156 = .ok (.getfield 7, 3) := by decide +kernel
theorem dX9_frame_159 : decode cX9_frame 159 = .ok (.bipush 7, 2) := by decide +kernel
theorem dX9_frame_161 : decode cX9_frame 161 = .ok (.iload 4, 2) := by decide +kernel
theorem dX9_frame_163 : decode cX9_frame 163 = .ok (.iadd, 1) := by decide +kernel
theorem dX9_frame_164 : decode cX9_frame 164 = .ok (.dup2, 1) := by decide +kernel
theorem dX9_frame_165 : decode cX9_frame 165 = .ok (.iaload, 1) := by decide +kernel
theorem dX9_frame_166 : decode cX9_frame 166 = .ok (.iconst 1, 1) := by decide +kernel
theorem dX9_frame_167 : decode cX9_frame 167 = .ok (.iadd, 1) := by decide +kernel
theorem dX9_frame_168 : decode cX9_frame 168 = .ok (.iastore, 1) := by decide +kernel
theorem dX9_frame_169 : decode cX9_frame 169 = .ok (.iload 4, 2) := by decide +kernel
theorem dX9_frame_171 : decode cX9_frame 171 = .ok (.iconst 1, 1) := by decide +kernel
theorem dX9_frame_172 : decode cX9_frame 172 = .ok (.if_icmp .eq 6, 3) := by decide +kernel
theorem dX9_frame_175 : decode cX9_frame 175 = .ok (.goto 32, 3) := by decide +kernel
theorem dX9_frame_178 : decode cX9_frame 178 = .ok (.aload_n 0, 1) := by decide +kernel
theorem dX9_frame_179 : decode cX9_frame 179 = .ok (.aload_n 0, 1) := by decide +kernel
theorem dX9_frame_180 : decode cX9_frame 180 = .ok (.getfield 86, 3) := by decide +kernel
theorem dX9_frame_183 : decode cX9_frame 183 = .ok (.invokevirtual 82, 3) := by decide +kernel
theorem dX9_frame_186 : decode cX9_frame 186 = .ok (.aload_n 0, 1) := by decide +kernel
theorem dX9_frame_187 : decode cX9_frame 187 = .ok (.aload_n 0, 1) := by decide +kernel
theorem dX9_frame_188 : decode cX9_frame 188 = .ok (.getfield 86, 3) := by decide +kernel
theorem dX9_frame_191 : decode cX9_frame 191 = .ok (.iconst 5, 1) := by decide +kernel
theorem dX9_frame_192 : decode cX9_frame 192 = .ok (.iconst 1, 1) := by decide +kernel
theorem dX9_frame_193 : decode cX9_frame 193 = .ok (.invokevirtual 52, 3) := by decide +kernel
theorem dX9_frame_196 : decode cX9_frame 196 = .ok (.aload_n 0, 1) := by decide +kernel
theorem dX9_frame_197 : decode cX9_frame 197 = .ok (.aload_n 0, 1) := by decide +kernel
theorem dX9_frame_198 : decode cX9_frame 198 = .ok (.getfield 86, 3) := by decide +kernel
theorem dX9_frame_201 : decode cX9_frame 201 = .ok (.invokevirtual 114, 3) := by decide +kernel
theorem dX9_frame_204 : decode cX9_frame 204 = .ok (.iinc 2 1, 3) := by decide +kernel
theorem dX9_frame_207 : decode cX9_frame 207 = .ok (.iinc 3 1, 3) := by decide +kernel
theorem dX9_frame_210 : decode cX9_frame 210 = .ok (.goto (-109), 3) := by decide +kernel
theorem dX9_frame_213 : decode cX9_frame 213 = .ok (.sipush 239, 3) := by decide +kernel
theorem dX9_frame_216 : decode cX9_frame 216 = .ok (.aload_n 0, 1) := by decide +kernel
theorem dX9_frame_217 : decode cX9_frame 217 = .ok (.getfield 7, 3) := by decide +kernel
theorem dX9_frame_220 : decode cX9_frame 220 = .ok (.bipush 9, 2) := by decide +kernel
theorem dX9_frame_222 : decode cX9_frame 222 = .ok (.iaload, 1) := by decide +kernel
theorem dX9_frame_223 : decode cX9_frame 223 = .ok (.imul, 1) := by decide +kernel
theorem dX9_frame_224 : decode cX9_frame 224 = .ok (.bipush 100, 2) := by decide +kernel
theorem dX9_frame_226 : decode cX9_frame 226 = .ok (.idiv, 1) := by decide +kernel
theorem dX9_frame_227 : decode cX9_frame 227 = .ok (.istore_n 3, 1) := by decide +kernel
theorem dX9_frame_228 : decode cX9_frame 228 = .ok (.aload_n 0, 1) := by decide +kernel
theorem dX9_frame_229 : decode cX9_frame 229 = .ok (.getfield 7, 3) := by decide +kernel
theorem dX9_frame_232 : decode cX9_frame 232 = .ok (.bipush 10, 2) := by decide +kernel
theorem dX9_frame_234 : decode cX9_frame 234 = .ok (.iload_n 3, 1) := by decide +kernel
theorem dX9_frame_235 : decode cX9_frame 235 = .ok (.iconst 1, 1) := by decide +kernel
theorem dX9_frame_236 : decode cX9_frame 236 = .ok (.if_icmp .ge 7, 3) := by decide +kernel
theorem dX9_frame_239 : decode cX9_frame 239 = .ok (.iconst 1, 1) := by decide +kernel
theorem dX9_frame_240 : decode cX9_frame 240 = .ok (.goto 15, 3) := by decide +kernel
theorem dX9_frame_243 : decode cX9_frame 243 = .ok (.iload_n 3, 1) := by decide +kernel
theorem dX9_frame_244 : decode cX9_frame 244 = .ok (.bipush 64, 2) := by decide +kernel
theorem dX9_frame_246 : decode cX9_frame 246 = .ok (.if_icmp .le 8, 3) := by decide +kernel
theorem dX9_frame_249 : decode cX9_frame 249 = .ok (.bipush 64, 2) := by decide +kernel
theorem dX9_frame_251 : decode cX9_frame 251 = .ok (.goto 4, 3) := by decide +kernel
theorem dX9_frame_254 : decode cX9_frame 254 = .ok (.iload_n 3, 1) := by decide +kernel
theorem dX9_frame_255 : decode cX9_frame 255 = .ok (.iastore, 1) := by decide +kernel
theorem dX9_frame_256 : decode cX9_frame 256 = .ok (.iload_n 2, 1) := by decide +kernel
theorem dX9_frame_257 : decode cX9_frame 257 = .ok (.ireturn, 1) := by decide +kernel
theorem dX9_heard_0 : decode cX9_heard 0 = .ok (.iload_n 1, 1) := by decide +kernel
theorem dX9_heard_1 : decode cX9_heard 1 = .ok (.iconst 4, 1) := by decide +kernel
theorem dX9_heard_2 : decode cX9_heard 2 = .ok (.invokestatic 36, 3) := by decide +kernel
theorem dX9_heard_5 : decode cX9_heard 5 = .ok (.ifCond .eq 15, 3) := by decide +kernel
theorem dX9_heard_8 : decode cX9_heard 8 = .ok (.aload_n 0, 1) := by decide +kernel
theorem dX9_heard_9 : decode cX9_heard 9 = .ok (.getfield 7, 3) := by decide +kernel
theorem dX9_heard_12 : decode cX9_heard 12 = .ok (.bipush 7, 2) := by decide +kernel
theorem dX9_heard_14 : decode cX9_heard 14 = .ok (.iload_n 1, 1) := by decide +kernel
theorem dX9_heard_15 : decode cX9_heard 15 = .ok (.iadd, 1) := by decide +kernel
theorem dX9_heard_16 : decode cX9_heard 16 = .ok (.iaload, 1) := by decide +kernel
theorem dX9_heard_17 : decode cX9_heard 17 = .ok (.goto 4, 3) := by decide +kernel
theorem dX9_heard_20 : decode cX9_heard 20 = .ok (.iconst (-1), 1) := by decide +kernel
theorem dX9_heard_21 : decode cX9_heard 21 = .ok (.ireturn, 1) := by decide +kernel
theorem dX9_found_0 : decode cX9_found 0 = .ok (.iload_n 1, 1) := by decide +kernel
theorem dX9_found_1 : decode cX9_found 1 = .ok (.aload_n 0, 1) := by decide +kernel
theorem dX9_found_2 : decode cX9_found 2 = .ok (.getfield 7, 3) := by decide +kernel
theorem dX9_found_5 : decode cX9_found 5 = .ok (.bipush 15, 2) := by decide +kernel
theorem dX9_found_7 : decode cX9_found 7 = .ok (.iaload, 1) := by decide +kernel
theorem dX9_found_8 : decode cX9_found 8 = .ok (.invokestatic 36, 3) := by decide +kernel
theorem dX9_found_11 : decode cX9_found 11 = .ok (.ifCond .eq 15, 3) := by decide +kernel
theorem dX9_found_14 : decode cX9_found 14 = .ok (.aload_n 0, 1) := by decide +kernel
theorem dX9_found_15 : decode cX9_found 15 = .ok (.getfield 7, 3) := by decide +kernel
theorem dX9_found_18 : decode cX9_found 18 = .ok (.bipush 100, 2) := by decide +kernel
theorem dX9_found_20 : decode cX9_found 20 = .ok (.iload_n 1, 1) := by decide +kernel
theorem dX9_found_21 : decode cX9_found 21 = .ok (.iadd, 1) := by decide +kernel
theorem dX9_found_22 : decode cX9_found 22 = .ok (.iaload, 1) := by decide +kernel
theorem dX9_found_23 : decode cX9_found 23 = .ok (.goto 4, 3) := by decide +kernel
theorem dX9_found_26 : decode cX9_found 26 = .ok (.iconst (-1), 1) := by decide +kernel
theorem dX9_found_27 : decode cX9_found 27 = .ok (.ireturn, 1) := by decide +kernel
theorem dX9_cost_0 : decode cX9_cost 0 = .ok (.iload_n 1, 1) := by decide +kernel
theorem dX9_cost_1 : decode cX9_cost 1 = .ok (.iconst 4, 1) := by decide +kernel
theorem dX9_cost_2 : decode cX9_cost 2 = .ok (.if_icmp .ne 35, 3) := by decide +kernel
theorem dX9_cost_5 : decode cX9_cost 5 = .ok (.aload_n 0, 1) := by decide +kernel
theorem dX9_cost_6 : decode cX9_cost 6 = .ok (.getfield 7, 3) := by decide +kernel
theorem dX9_cost_9 : decode cX9_cost 9 = .ok (.bipush 11, 2) := by decide +kernel
theorem dX9_cost_11 : decode cX9_cost 11 = .ok (.iaload, 1) := by decide +kernel
theorem dX9_cost_12 : decode cX9_cost 12 = .ok (.aload_n 0, 1) := by decide +kernel
theorem dX9_cost_13 : decode cX9_cost 13 = .ok (.getfield 7, 3) := by decide +kernel
theorem dX9_cost_16 : decode cX9_cost 16 = .ok (.bipush 12, 2) := by decide +kernel
theorem dX9_cost_18 : decode cX9_cost 18 = .ok (.iaload, 1) := by decide +kernel
theorem dX9_cost_19 : decode cX9_cost 19 = .ok (.iadd, 1) := by decide +kernel
theorem dX9_cost_20 : decode cX9_cost 20 = .ok (.aload_n 0, 1) := by decide +kernel
theorem dX9_cost_21 : decode cX9_cost 21 = .ok (.getfield 7, 3) := by decide +kernel
theorem dX9_cost_24 : decode cX9_cost 24 = .ok (.bipush 13, 2) := by decide +kernel
theorem dX9_cost_26 : decode cX9_cost 26 = .ok (.iaload, 1) := by decide +kernel
theorem dX9_cost_27 : decode cX9_cost 27 = .ok (.iadd, 1) := by decide +kernel
theorem dX9_cost_28 : decode cX9_cost 28 = .ok (.aload_n 0, 1) := by decide +kernel
theorem dX9_cost_29 : decode cX9_cost 29 = .ok (.getfield 7, 3) := by decide +kernel
theorem dX9_cost_32 : decode cX9_cost 32 = .ok (.bipush 14, 2) := by decide +kernel
theorem dX9_cost_34 : decode cX9_cost 34 = .ok (.iaload, 1) := by decide +kernel
theorem dX9_cost_35 : decode cX9_cost 35 = .ok (.iadd, 1) := by decide +kernel
theorem dX9_cost_36 : decode cX9_cost 36 = .ok (.ireturn, 1) := by decide +kernel
theorem dX9_cost_37 : decode cX9_cost 37 = .ok (.iload_n 1, 1) := by decide +kernel
theorem dX9_cost_38 : decode cX9_cost 38 = .ok (.iconst 4, 1) := by decide +kernel
theorem dX9_cost_39 : decode cX9_cost 39 = .ok (.invokestatic 36, 3) := by decide +kernel
theorem dX9_cost_42 : decode cX9_cost 42 = .ok (.ifCond .eq 15, 3) := by decide +kernel
theorem dX9_cost_45 : decode cX9_cost 45 = .ok (.aload_n 0, 1) := by decide +kernel
theorem dX9_cost_46 : decode cX9_cost 46 = .ok (.getfield 7, 3) := by decide +kernel
theorem dX9_cost_49 : decode cX9_cost 49 = .ok (.bipush 11, 2) := by decide +kernel
theorem dX9_cost_51 : decode cX9_cost 51 = .ok (.iload_n 1, 1) := by decide +kernel
theorem dX9_cost_52 : decode cX9_cost 52 = .ok (.iadd, 1) := by decide +kernel
theorem dX9_cost_53 : decode cX9_cost 53 = .ok (.iaload, 1) := by decide +kernel
theorem dX9_cost_54 : decode cX9_cost 54 = .ok (.goto 4, 3) := by decide +kernel
theorem dX9_cost_57 : decode cX9_cost 57 = .ok (.iconst (-1), 1) := by decide +kernel
theorem dX9_cost_58 : decode cX9_cost 58 = .ok (.ireturn, 1) := by decide +kernel
theorem dX9_count_0 : decode cX9_count 0 = .ok (.iload_n 1, 1) := by decide +kernel
theorem dX9_count_1 : decode cX9_count 1 = .ok (.tableswitch 69 0 4 #[35, 42, 47, 55, 62], 35) := by decide +kernel
theorem dX9_count_36 : decode cX9_count 36 = .ok (.aload_n 0, 1) := by decide +kernel
theorem dX9_count_37 : decode cX9_count 37 = .ok (.getfield 7, 3) := by decide +kernel
theorem dX9_count_40 : decode cX9_count 40 = .ok (.iconst 0, 1) := by decide +kernel
theorem dX9_count_41 : decode cX9_count 41 = .ok (.iaload, 1) := by decide +kernel
theorem dX9_count_42 : decode cX9_count 42 = .ok (.ireturn, 1) := by decide +kernel
theorem dX9_count_43 : decode cX9_count 43 = .ok (.aload_n 0, 1) := by decide +kernel
theorem dX9_count_44 : decode cX9_count 44 = .ok (.invokevirtual 65, 3) := by decide +kernel
theorem dX9_count_47 : decode cX9_count 47 = .ok (.ireturn, 1) := by decide +kernel
theorem dX9_count_48 : decode cX9_count 48 = .ok (.aload_n 0, 1) := by decide +kernel
theorem dX9_count_49 : decode cX9_count 49 = .ok (.getfield 7, 3) := by decide +kernel
theorem dX9_count_52 : decode cX9_count 52 = .ok (.bipush 15, 2) := by decide +kernel
theorem dX9_count_54 : decode cX9_count 54 = .ok (.iaload, 1) := by decide +kernel
theorem dX9_count_55 : decode cX9_count 55 = .ok (.ireturn, 1) := by decide +kernel
theorem dX9_count_56 : decode cX9_count 56 = .ok (.aload_n 0, 1) := by decide +kernel
theorem dX9_count_57 : decode cX9_count 57 = .ok (.getfield 7, 3) := by decide +kernel
theorem dX9_count_60 : decode cX9_count 60 = .ok (.iconst 4, 1) := by decide +kernel
theorem dX9_count_61 : decode cX9_count 61 = .ok (.iaload, 1) := by decide +kernel
theorem dX9_count_62 : decode cX9_count 62 = .ok (.ireturn, 1) := by decide +kernel
theorem dX9_count_63 : decode cX9_count 63 = .ok (.aload_n 0, 1) := by decide +kernel
theorem dX9_count_64 : decode cX9_count 64 = .ok (.getfield 7, 3) := by decide +kernel
theorem dX9_count_67 : decode cX9_count 67 = .ok (.iconst 5, 1) := by decide +kernel
theorem dX9_count_68 : decode cX9_count 68 = .ok (.iaload, 1) := by decide +kernel
theorem dX9_count_69 : decode cX9_count 69 = .ok (.ireturn, 1) := by decide +kernel
theorem dX9_count_70 : decode cX9_count 70 = .ok (.iconst (-1), 1) := by decide +kernel
theorem dX9_count_71 : decode cX9_count 71 = .ok (.ireturn, 1) := by decide +kernel
theorem dX9_image_0 : decode cX9_image 0 = .ok (.iload_n 1, 1) := by decide +kernel
theorem dX9_image_1 : decode cX9_image 1 = .ok (.iconst 4, 1) := by decide +kernel
theorem dX9_image_2 : decode cX9_image 2 = .ok (.invokestatic 36, 3) := by decide +kernel
theorem dX9_image_5 : decode cX9_image 5 = .ok (.ifCond .ne 5, 3) := by decide +kernel
theorem dX9_image_8 : decode cX9_image 8 = .ok (.iconst 0, 1) := by decide +kernel
theorem dX9_image_9 : decode cX9_image 9 = .ok (.ireturn, 1) := by decide +kernel
theorem dX9_image_10 : decode cX9_image 10 = .ok (.aload_n 0, 1) := by decide +kernel
theorem dX9_image_11 : decode cX9_image 11 = .ok (.getfield 17, 3) := by decide +kernel
theorem dX9_image_14 : decode cX9_image 14 = .ok (.iload_n 1, 1) := by decide +kernel
theorem dX9_image_15 : decode cX9_image 15 = .ok (.iconst 1, 1) := by decide +kernel
theorem dX9_image_16 : decode cX9_image 16 = .ok (.bastore, 1) := by decide +kernel
theorem dX9_image_17 : decode cX9_image 17 = .ok (.iconst 0, 1) := by decide +kernel
theorem dX9_image_18 : decode cX9_image 18 = .ok (.istore_n 2, 1) := by decide +kernel
theorem dX9_image_19 : decode cX9_image 19 = .ok (.iload_n 2, 1) := by decide +kernel
theorem dX9_image_20 : decode cX9_image 20 = .ok (.sipush 540, 3) := by decide +kernel
theorem dX9_image_23 : decode cX9_image 23 = .ok (.if_icmp .ge 29, 3) := by decide +kernel
theorem dX9_image_26 : decode cX9_image 26 = .ok (.aload_n 0, 1) := by decide +kernel
theorem dX9_image_27 : decode cX9_image 27 = .ok (.getfield 7, 3) := by decide +kernel
theorem dX9_image_30 : decode cX9_image 30 = .ok (.sipush 540, 3) := by decide +kernel
theorem dX9_image_33 : decode cX9_image 33 = .ok (.iload_n 1, 1) := by decide +kernel
theorem dX9_image_34 : decode cX9_image 34 = .ok (.iconst 1, 1) := by decide +kernel
theorem dX9_image_35 : decode cX9_image 35 = .ok (.iadd, 1) := by decide +kernel
theorem dX9_image_36 : decode cX9_image 36 = .ok (.imul, 1) := by decide +kernel
theorem dX9_image_37 : decode cX9_image 37 = .ok (.iload_n 2, 1) := by decide +kernel
theorem dX9_image_38 : decode cX9_image 38 = .ok (.iadd, 1) := by decide +kernel
theorem dX9_image_39 : decode cX9_image 39 = .ok (.aload_n 0, 1) := by decide +kernel
theorem dX9_image_40 : decode cX9_image 40 = .ok (.getfield 7, 3) := by decide +kernel
theorem dX9_image_43 : decode cX9_image 43 = .ok (.iload_n 2, 1) := by decide +kernel
theorem dX9_image_44 : decode cX9_image 44 = .ok (.iaload, 1) := by decide +kernel
theorem dX9_image_45 : decode cX9_image 45 = .ok (.iastore, 1) := by decide +kernel
theorem dX9_image_46 : decode cX9_image 46 = .ok (.iinc 2 1, 3) := by decide +kernel
theorem dX9_image_49 : decode cX9_image 49 = .ok (.goto (-30), 3) := by decide +kernel
theorem dX9_image_52 : decode cX9_image 52 = .ok (.iconst 0, 1) := by decide +kernel
theorem dX9_image_53 : decode cX9_image 53 = .ok (.istore_n 2, 1) := by decide +kernel
theorem dX9_image_54 : decode cX9_image 54 = .ok (.iload_n 2, 1) := by decide +kernel
theorem dX9_image_55 : decode cX9_image 55 = .ok (.bipush 124, 2) := by decide +kernel
theorem dX9_image_57 : decode cX9_image 57 = .ok (.if_icmp .ge 28, 3) := by decide +kernel
theorem dX9_image_60 : decode cX9_image 60 = .ok (.aload_n 0, 1) := by decide +kernel
theorem dX9_image_61 : decode cX9_image 61 = .ok (.getfield 13, 3) := by decide +kernel
theorem dX9_image_64 : decode cX9_image 64 = .ok (.bipush 124, 2) := by decide +kernel
theorem dX9_image_66 : decode cX9_image 66 = .ok (.iload_n 1, 1) := by decide +kernel
theorem dX9_image_67 : decode cX9_image 67 = .ok (.iconst 1, 1) := by decide +kernel
theorem dX9_image_68 : decode cX9_image 68 = .ok (.iadd, 1) := by decide +kernel
theorem dX9_image_69 : decode cX9_image 69 = .ok (.imul, 1) := by decide +kernel
theorem dX9_image_70 : decode cX9_image 70 = .ok (.iload_n 2, 1) := by decide +kernel
theorem dX9_image_71 : decode cX9_image 71 = .ok (.iadd, 1) := by decide +kernel
theorem dX9_image_72 : decode cX9_image 72 = .ok (.aload_n 0, 1) := by decide +kernel
theorem dX9_image_73 : decode cX9_image 73 = .ok (.getfield 13, 3) := by decide +kernel
theorem dX9_image_76 : decode cX9_image 76 = .ok (.iload_n 2, 1) := by decide +kernel
theorem dX9_image_77 : decode cX9_image 77 = .ok (.laload, 1) := by decide +kernel
theorem dX9_image_78 : decode cX9_image 78 = .ok (.lastore, 1) := by decide +kernel
theorem dX9_image_79 : decode cX9_image 79 = .ok (.iinc 2 1, 3) := by decide +kernel
theorem dX9_image_82 : decode cX9_image 82 = .ok (.goto (-28), 3) := by decide +kernel
theorem dX9_image_85 : decode cX9_image 85 = .ok (.iconst 1, 1) := by decide +kernel
theorem dX9_image_86 : decode cX9_image 86 = .ok (.ireturn, 1) := by decide +kernel
theorem dX9_again_0 : decode cX9_again 0 = .ok (.iload_n 1, 1) := by decide +kernel
theorem dX9_again_1 : decode cX9_again 1 = .ok (.iconst 4, 1) := by decide +kernel
theorem dX9_again_2 : decode cX9_again 2 = .ok (.invokestatic 36, 3) := by decide +kernel
theorem dX9_again_5 : decode cX9_again 5 = .ok (.ifCond .eq 12, 3) := by decide +kernel
theorem dX9_again_8 : decode cX9_again 8 = .ok (.aload_n 0, 1) := by decide +kernel
theorem dX9_again_9 : decode cX9_again 9 = .ok (.getfield 17, 3) := by decide +kernel
theorem dX9_again_12 : decode cX9_again 12 = .ok (.iload_n 1, 1) := by decide +kernel
theorem dX9_again_13 : decode cX9_again 13 = .ok (.baload, 1) := by decide +kernel
theorem dX9_again_14 : decode cX9_again 14 = .ok (.ifCond .ne 5, 3) := by decide +kernel
theorem dX9_again_17 : decode cX9_again 17 = .ok (.iconst 0, 1) := by decide +kernel
theorem dX9_again_18 : decode cX9_again 18 = .ok (.ireturn, 1) := by decide +kernel
theorem dX9_again_19 : decode cX9_again 19 = .ok (.iconst 0, 1) := by decide +kernel
theorem dX9_again_20 : decode cX9_again 20 = .ok (.istore_n 2, 1) := by decide +kernel
theorem dX9_again_21 : decode cX9_again 21 = .ok (.iload_n 2, 1) := by decide +kernel
theorem dX9_again_22 : decode cX9_again 22 = .ok (.sipush 540, 3) := by decide +kernel
theorem dX9_again_25 : decode cX9_again 25 = .ok (.if_icmp .ge 29, 3) := by decide +kernel
theorem dX9_again_28 : decode cX9_again 28 = .ok (.aload_n 0, 1) := by decide +kernel
theorem dX9_again_29 : decode cX9_again 29 = .ok (.getfield 7, 3) := by decide +kernel
theorem dX9_again_32 : decode cX9_again 32 = .ok (.iload_n 2, 1) := by decide +kernel
theorem dX9_again_33 : decode cX9_again 33 = .ok (.aload_n 0, 1) := by decide +kernel
theorem dX9_again_34 : decode cX9_again 34 = .ok (.getfield 7, 3) := by decide +kernel
theorem dX9_again_37 : decode cX9_again 37 = .ok (.sipush 540, 3) := by decide +kernel
theorem dX9_again_40 : decode cX9_again 40 = .ok (.iload_n 1, 1) := by decide +kernel
theorem dX9_again_41 : decode cX9_again 41 = .ok (.iconst 1, 1) := by decide +kernel
theorem dX9_again_42 : decode cX9_again 42 = .ok (.iadd, 1) := by decide +kernel
theorem dX9_again_43 : decode cX9_again 43 = .ok (.imul, 1) := by decide +kernel
theorem dX9_again_44 : decode cX9_again 44 = .ok (.iload_n 2, 1) := by decide +kernel
theorem dX9_again_45 : decode cX9_again 45 = .ok (.iadd, 1) := by decide +kernel
theorem dX9_again_46 : decode cX9_again 46 = .ok (.iaload, 1) := by decide +kernel
theorem dX9_again_47 : decode cX9_again 47 = .ok (.iastore, 1) := by decide +kernel
theorem dX9_again_48 : decode cX9_again 48 = .ok (.iinc 2 1, 3) := by decide +kernel
theorem dX9_again_51 : decode cX9_again 51 = .ok (.goto (-30), 3) := by decide +kernel
theorem dX9_again_54 : decode cX9_again 54 = .ok (.iconst 0, 1) := by decide +kernel
theorem dX9_again_55 : decode cX9_again 55 = .ok (.istore_n 2, 1) := by decide +kernel
theorem dX9_again_56 : decode cX9_again 56 = .ok (.iload_n 2, 1) := by decide +kernel
theorem dX9_again_57 : decode cX9_again 57 = .ok (.bipush 124, 2) := by decide +kernel
theorem dX9_again_59 : decode cX9_again 59 = .ok (.if_icmp .ge 28, 3) := by decide +kernel
theorem dX9_again_62 : decode cX9_again 62 = .ok (.aload_n 0, 1) := by decide +kernel
theorem dX9_again_63 : decode cX9_again 63 = .ok (.getfield 13, 3) := by decide +kernel
theorem dX9_again_66 : decode cX9_again 66 = .ok (.iload_n 2, 1) := by decide +kernel
theorem dX9_again_67 : decode cX9_again 67 = .ok (.aload_n 0, 1) := by decide +kernel
theorem dX9_again_68 : decode cX9_again 68 = .ok (.getfield 13, 3) := by decide +kernel
theorem dX9_again_71 : decode cX9_again 71 = .ok (.bipush 124, 2) := by decide +kernel
theorem dX9_again_73 : decode cX9_again 73 = .ok (.iload_n 1, 1) := by decide +kernel
theorem dX9_again_74 : decode cX9_again 74 = .ok (.iconst 1, 1) := by decide +kernel
theorem dX9_again_75 : decode cX9_again 75 = .ok (.iadd, 1) := by decide +kernel
theorem dX9_again_76 : decode cX9_again 76 = .ok (.imul, 1) := by decide +kernel
theorem dX9_again_77 : decode cX9_again 77 = .ok (.iload_n 2, 1) := by decide +kernel
theorem dX9_again_78 : decode cX9_again 78 = .ok (.iadd, 1) := by decide +kernel
theorem dX9_again_79 : decode cX9_again 79 = .ok (.laload, 1) := by decide +kernel
theorem dX9_again_80 : decode cX9_again 80 = .ok (.lastore, 1) := by decide +kernel
theorem dX9_again_81 : decode cX9_again 81 = .ok (.iinc 2 1, 3) := by decide +kernel
theorem dX9_again_84 : decode cX9_again 84 = .ok (.goto (-28), 3) := by decide +kernel
theorem dX9_again_87 : decode cX9_again 87 = .ok (.iconst 1, 1) := by decide +kernel
theorem dX9_again_88 : decode cX9_again 88 = .ok (.ireturn, 1) := by decide +kernel
theorem dJ13_bitCount_95d88_0 : decode cJ13_bitCount_95d88 0 = .ok (.lload_n 0, 1) := by decide +kernel
theorem dJ13_bitCount_95d88_1 : decode cJ13_bitCount_95d88 1 = .ok (.lload_n 0, 1) := by decide +kernel
theorem dJ13_bitCount_95d88_2 : decode cJ13_bitCount_95d88 2 = .ok (.iconst 1, 1) := by decide +kernel
theorem dJ13_bitCount_95d88_3 : decode cJ13_bitCount_95d88 3 = .ok (.lushr, 1) := by decide +kernel
theorem dJ13_bitCount_95d88_4 : decode cJ13_bitCount_95d88 4 = .ok (.ldc2_w 314, 3) := by decide +kernel
theorem dJ13_bitCount_95d88_7 : decode cJ13_bitCount_95d88 7 = .ok (.land, 1) := by decide +kernel
theorem dJ13_bitCount_95d88_8 : decode cJ13_bitCount_95d88 8 = .ok (.lsub, 1) := by decide +kernel
theorem dJ13_bitCount_95d88_9 : decode cJ13_bitCount_95d88 9 = .ok (.lstore_n 0, 1) := by decide +kernel
theorem dJ13_bitCount_95d88_10 : decode cJ13_bitCount_95d88 10 = .ok (.lload_n 0, 1) := by decide +kernel
theorem dJ13_bitCount_95d88_11 : decode cJ13_bitCount_95d88 11 = .ok (.ldc2_w 316, 3) := by decide +kernel
theorem dJ13_bitCount_95d88_14 : decode cJ13_bitCount_95d88 14 = .ok (.land, 1) := by decide +kernel
theorem dJ13_bitCount_95d88_15 : decode cJ13_bitCount_95d88 15 = .ok (.lload_n 0, 1) := by decide +kernel
theorem dJ13_bitCount_95d88_16 : decode cJ13_bitCount_95d88 16 = .ok (.iconst 2, 1) := by decide +kernel
theorem dJ13_bitCount_95d88_17 : decode cJ13_bitCount_95d88 17 = .ok (.lushr, 1) := by decide +kernel
theorem dJ13_bitCount_95d88_18 : decode cJ13_bitCount_95d88 18 = .ok (.ldc2_w 316, 3) := by decide +kernel
theorem dJ13_bitCount_95d88_21 : decode cJ13_bitCount_95d88 21 = .ok (.land, 1) := by decide +kernel
theorem dJ13_bitCount_95d88_22 : decode cJ13_bitCount_95d88 22 = .ok (.ladd, 1) := by decide +kernel
theorem dJ13_bitCount_95d88_23 : decode cJ13_bitCount_95d88 23 = .ok (.lstore_n 0, 1) := by decide +kernel
theorem dJ13_bitCount_95d88_24 : decode cJ13_bitCount_95d88 24 = .ok (.lload_n 0, 1) := by decide +kernel
theorem dJ13_bitCount_95d88_25 : decode cJ13_bitCount_95d88 25 = .ok (.lload_n 0, 1) := by decide +kernel
theorem dJ13_bitCount_95d88_26 : decode cJ13_bitCount_95d88 26 = .ok (.iconst 4, 1) := by decide +kernel
theorem dJ13_bitCount_95d88_27 : decode cJ13_bitCount_95d88 27 = .ok (.lushr, 1) := by decide +kernel
theorem dJ13_bitCount_95d88_28 : decode cJ13_bitCount_95d88 28 = .ok (.ladd, 1) := by decide +kernel
theorem dJ13_bitCount_95d88_29 : decode cJ13_bitCount_95d88 29 = .ok (.ldc2_w 318, 3) := by decide +kernel
theorem dJ13_bitCount_95d88_32 : decode cJ13_bitCount_95d88 32 = .ok (.land, 1) := by decide +kernel
theorem dJ13_bitCount_95d88_33 : decode cJ13_bitCount_95d88 33 = .ok (.lstore_n 0, 1) := by decide +kernel
theorem dJ13_bitCount_95d88_34 : decode cJ13_bitCount_95d88 34 = .ok (.lload_n 0, 1) := by decide +kernel
theorem dJ13_bitCount_95d88_35 : decode cJ13_bitCount_95d88 35 = .ok (.lload_n 0, 1) := by decide +kernel
theorem dJ13_bitCount_95d88_36 : decode cJ13_bitCount_95d88 36 = .ok (.bipush 8, 2) := by decide +kernel
theorem dJ13_bitCount_95d88_38 : decode cJ13_bitCount_95d88 38 = .ok (.lushr, 1) := by decide +kernel
theorem dJ13_bitCount_95d88_39 : decode cJ13_bitCount_95d88 39 = .ok (.ladd, 1) := by decide +kernel
theorem dJ13_bitCount_95d88_40 : decode cJ13_bitCount_95d88 40 = .ok (.lstore_n 0, 1) := by decide +kernel
theorem dJ13_bitCount_95d88_41 : decode cJ13_bitCount_95d88 41 = .ok (.lload_n 0, 1) := by decide +kernel
theorem dJ13_bitCount_95d88_42 : decode cJ13_bitCount_95d88 42 = .ok (.lload_n 0, 1) := by decide +kernel
theorem dJ13_bitCount_95d88_43 : decode cJ13_bitCount_95d88 43 = .ok (.bipush 16, 2) := by decide +kernel
theorem dJ13_bitCount_95d88_45 : decode cJ13_bitCount_95d88 45 = .ok (.lushr, 1) := by decide +kernel
theorem dJ13_bitCount_95d88_46 : decode cJ13_bitCount_95d88 46 = .ok (.ladd, 1) := by decide +kernel
theorem dJ13_bitCount_95d88_47 : decode cJ13_bitCount_95d88 47 = .ok (.lstore_n 0, 1) := by decide +kernel
theorem dJ13_bitCount_95d88_48 : decode cJ13_bitCount_95d88 48 = .ok (.lload_n 0, 1) := by decide +kernel
theorem dJ13_bitCount_95d88_49 : decode cJ13_bitCount_95d88 49 = .ok (.lload_n 0, 1) := by decide +kernel
theorem dJ13_bitCount_95d88_50 : decode cJ13_bitCount_95d88 50 = .ok (.bipush 32, 2) := by decide +kernel
theorem dJ13_bitCount_95d88_52 : decode cJ13_bitCount_95d88 52 = .ok (.lushr, 1) := by decide +kernel
theorem dJ13_bitCount_95d88_53 : decode cJ13_bitCount_95d88 53 = .ok (.ladd, 1) := by decide +kernel
theorem dJ13_bitCount_95d88_54 : decode cJ13_bitCount_95d88 54 = .ok (.lstore_n 0, 1) := by decide +kernel
theorem dJ13_bitCount_95d88_55 : decode cJ13_bitCount_95d88 55 = .ok (.lload_n 0, 1) := by decide +kernel
theorem dJ13_bitCount_95d88_56 : decode cJ13_bitCount_95d88 56 = .ok (.l2i, 1) := by decide +kernel
theorem dJ13_bitCount_95d88_57 : decode cJ13_bitCount_95d88 57 = .ok (.bipush 127, 2) := by decide +kernel
theorem dJ13_bitCount_95d88_59 : decode cJ13_bitCount_95d88 59 = .ok (.iand, 1) := by decide +kernel
theorem dJ13_bitCount_95d88_60 : decode cJ13_bitCount_95d88 60 = .ok (.ireturn, 1) := by decide +kernel
theorem dJ9_max_7cf53_0 : decode cJ9_max_7cf53 0 = .ok (.iload_n 0, 1) := by decide +kernel
theorem dJ9_max_7cf53_1 : decode cJ9_max_7cf53 1 = .ok (.iload_n 1, 1) := by decide +kernel
theorem dJ9_max_7cf53_2 : decode cJ9_max_7cf53 2 = .ok (.if_icmp .lt 7, 3) := by decide +kernel
theorem dJ9_max_7cf53_5 : decode cJ9_max_7cf53 5 = .ok (.iload_n 0, 1) := by decide +kernel
theorem dJ9_max_7cf53_6 : decode cJ9_max_7cf53 6 = .ok (.goto 4, 3) := by decide +kernel
theorem dJ9_max_7cf53_9 : decode cJ9_max_7cf53 9 = .ok (.iload_n 1, 1) := by decide +kernel
theorem dJ9_max_7cf53_10 : decode cJ9_max_7cf53 10 = .ok (.ireturn, 1) := by decide +kernel
theorem dJ9_min_7cf53_0 : decode cJ9_min_7cf53 0 = .ok (.iload_n 0, 1) := by decide +kernel
theorem dJ9_min_7cf53_1 : decode cJ9_min_7cf53 1 = .ok (.iload_n 1, 1) := by decide +kernel
theorem dJ9_min_7cf53_2 : decode cJ9_min_7cf53 2 = .ok (.if_icmp .gt 7, 3) := by decide +kernel
theorem dJ9_min_7cf53_5 : decode cJ9_min_7cf53 5 = .ok (.iload_n 0, 1) := by decide +kernel
theorem dJ9_min_7cf53_6 : decode cJ9_min_7cf53 6 = .ok (.goto 4, 3) := by decide +kernel
theorem dJ9_min_7cf53_9 : decode cJ9_min_7cf53 9 = .ok (.iload_n 1, 1) := by decide +kernel
theorem dJ9_min_7cf53_10 : decode cJ9_min_7cf53 10 = .ok (.ireturn, 1) := by decide +kernel
theorem dJ7_fill_d0a16_0 : decode cJ7_fill_d0a16 0 = .ok (.iconst 0, 1) := by decide +kernel
theorem dJ7_fill_d0a16_1 : decode cJ7_fill_d0a16 1 = .ok (.istore_n 3, 1) := by decide +kernel
theorem dJ7_fill_d0a16_2 : decode cJ7_fill_d0a16 2 = .ok (.aload_n 0, 1) := by decide +kernel
theorem dJ7_fill_d0a16_3 : decode cJ7_fill_d0a16 3 = .ok (.arraylength, 1) := by decide +kernel
theorem dJ7_fill_d0a16_4 : decode cJ7_fill_d0a16 4 = .ok (.istore 4, 2) := by decide +kernel
theorem dJ7_fill_d0a16_6 : decode cJ7_fill_d0a16 6 = .ok (.iload_n 3, 1) := by decide +kernel
theorem dJ7_fill_d0a16_7 : decode cJ7_fill_d0a16 7 = .ok (.iload 4, 2) := by decide +kernel
theorem dJ7_fill_d0a16_9 : decode cJ7_fill_d0a16 9 = .ok (.if_icmp .ge 13, 3) := by decide +kernel
theorem dJ7_fill_d0a16_12 : decode cJ7_fill_d0a16 12 = .ok (.aload_n 0, 1) := by decide +kernel
theorem dJ7_fill_d0a16_13 : decode cJ7_fill_d0a16 13 = .ok (.iload_n 3, 1) := by decide +kernel
theorem dJ7_fill_d0a16_14 : decode cJ7_fill_d0a16 14 = .ok (.lload_n 1, 1) := by decide +kernel
theorem dJ7_fill_d0a16_15 : decode cJ7_fill_d0a16 15 = .ok (.lastore, 1) := by decide +kernel
theorem dJ7_fill_d0a16_16 : decode cJ7_fill_d0a16 16 = .ok (.iinc 3 1, 3) := by decide +kernel
theorem dJ7_fill_d0a16_19 : decode cJ7_fill_d0a16 19 = .ok (.goto (-13), 3) := by decide +kernel
theorem dJ7_fill_d0a16_22 : decode cJ7_fill_d0a16 22 = .ok (.return_, 1) := by decide +kernel
theorem dJ7_fill_53178_0 : decode cJ7_fill_53178 0 = .ok (.iconst 0, 1) := by decide +kernel
theorem dJ7_fill_53178_1 : decode cJ7_fill_53178 1 = .ok (.istore_n 2, 1) := by decide +kernel
theorem dJ7_fill_53178_2 : decode cJ7_fill_53178 2 = .ok (.aload_n 0, 1) := by decide +kernel
theorem dJ7_fill_53178_3 : decode cJ7_fill_53178 3 = .ok (.arraylength, 1) := by decide +kernel
theorem dJ7_fill_53178_4 : decode cJ7_fill_53178 4 = .ok (.istore_n 3, 1) := by decide +kernel
theorem dJ7_fill_53178_5 : decode cJ7_fill_53178 5 = .ok (.iload_n 2, 1) := by decide +kernel
theorem dJ7_fill_53178_6 : decode cJ7_fill_53178 6 = .ok (.iload_n 3, 1) := by decide +kernel
theorem dJ7_fill_53178_7 : decode cJ7_fill_53178 7 = .ok (.if_icmp .ge 13, 3) := by decide +kernel
theorem dJ7_fill_53178_10 : decode cJ7_fill_53178 10 = .ok (.aload_n 0, 1) := by decide +kernel
theorem dJ7_fill_53178_11 : decode cJ7_fill_53178 11 = .ok (.iload_n 2, 1) := by decide +kernel
theorem dJ7_fill_53178_12 : decode cJ7_fill_53178 12 = .ok (.iload_n 1, 1) := by decide +kernel
theorem dJ7_fill_53178_13 : decode cJ7_fill_53178 13 = .ok (.iastore, 1) := by decide +kernel
theorem dJ7_fill_53178_14 : decode cJ7_fill_53178 14 = .ok (.iinc 2 1, 3) := by decide +kernel
theorem dJ7_fill_53178_17 : decode cJ7_fill_53178 17 = .ok (.goto (-12), 3) := by decide +kernel
theorem dJ7_fill_53178_20 : decode cJ7_fill_53178 20 = .ok (.return_, 1) := by decide +kernel
abbrev vwCl : List vw_C := [(RX0, TX0, 3), (RX1, TX1, 4), (RX2, TX2, 5), (RX3, TX3, 3), (RX4, TX4, 3), (RX5, TX5, 8), (RX6, TX6, 11), (RX7, TX7, 6), (RX8, TX8, 4), (RX9, TX9, 9)]
