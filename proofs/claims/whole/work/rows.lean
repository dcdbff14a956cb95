section
-- ===== PART A: goes FIRST, ahead of the names: the tables' words, and 'selects' of the private methods out of them =====
/-- a private method of a class that the tables say can be made, by its rows of tables_1 -/
def lw_okq (q : MethodName × Nat) : Prop := (q.1.cls ≠ "java/lang/invoke/MethodHandle" ∧ q.1.cls ≠ "java/lang/invoke/VarHandle") ∧ Cond.instantiable q.1.cls q.2 ∈ tables_1 ∧ Cond.privateMethod q.1 ∈ tables_1 ∧ Cond.instanceMethod q.1 ∈ tables_1
theorem lw_p0 : lw_okq (⟨"RollCall$Tags", "isTaken", "(J)Z"⟩, 11) := ⟨⟨by decide +kernel, by decide +kernel⟩, List.mem_of_getElem? (i := 30) (by decide +kernel), List.mem_of_getElem? (i := 273) (by decide +kernel), List.mem_of_getElem? (i := 274) (by decide +kernel)⟩
theorem lw_p1 : lw_okq (⟨"RollCall$Tags", "isOfGroup", "(J)Z"⟩, 11) := ⟨⟨by decide +kernel, by decide +kernel⟩, List.mem_of_getElem? (i := 30) (by decide +kernel), List.mem_of_getElem? (i := 280) (by decide +kernel), List.mem_of_getElem? (i := 281) (by decide +kernel)⟩
theorem lw_p2 : lw_okq (⟨"RollCall$Tags", "noteOnes", "(IJ)V"⟩, 11) := ⟨⟨by decide +kernel, by decide +kernel⟩, List.mem_of_getElem? (i := 30) (by decide +kernel), List.mem_of_getElem? (i := 284) (by decide +kernel), List.mem_of_getElem? (i := 285) (by decide +kernel)⟩
theorem lw_p3 : lw_okq (⟨"RollCall", "hearSlot", "(J)I"⟩, 4) := ⟨⟨by decide +kernel, by decide +kernel⟩, List.mem_of_getElem? (i := 16) (by decide +kernel), List.mem_of_getElem? (i := 410) (by decide +kernel), List.mem_of_getElem? (i := 411) (by decide +kernel)⟩
theorem lw_p4 : lw_okq (⟨"RollCall", "audibleOf", "(J)J"⟩, 4) := ⟨⟨by decide +kernel, by decide +kernel⟩, List.mem_of_getElem? (i := 16) (by decide +kernel), List.mem_of_getElem? (i := 414) (by decide +kernel), List.mem_of_getElem? (i := 415) (by decide +kernel)⟩
theorem lw_p5 : lw_okq (⟨"RollCall$Pile", "add", "(JI)V"⟩, 3) := ⟨⟨by decide +kernel, by decide +kernel⟩, List.mem_of_getElem? (i := 97) (by decide +kernel), List.mem_of_getElem? (i := 437) (by decide +kernel), List.mem_of_getElem? (i := 438) (by decide +kernel)⟩
theorem lw_p6 : lw_okq (⟨"RollCall", "admitCrowd", "(J)V"⟩, 4) := ⟨⟨by decide +kernel, by decide +kernel⟩, List.mem_of_getElem? (i := 16) (by decide +kernel), List.mem_of_getElem? (i := 466) (by decide +kernel), List.mem_of_getElem? (i := 467) (by decide +kernel)⟩
theorem lw_p7 : lw_okq (⟨"RollCall", "drawCounters", "(J)V"⟩, 4) := ⟨⟨by decide +kernel, by decide +kernel⟩, List.mem_of_getElem? (i := 16) (by decide +kernel), List.mem_of_getElem? (i := 520) (by decide +kernel), List.mem_of_getElem? (i := 521) (by decide +kernel)⟩
theorem lw_p8 : lw_okq (⟨"RollCall", "findAndTire", "(I)V"⟩, 4) := ⟨⟨by decide +kernel, by decide +kernel⟩, List.mem_of_getElem? (i := 16) (by decide +kernel), List.mem_of_getElem? (i := 539) (by decide +kernel), List.mem_of_getElem? (i := 540) (by decide +kernel)⟩
theorem lw_p9 : lw_okq (⟨"RollCall", "drawSlots", "(I)V"⟩, 4) := ⟨⟨by decide +kernel, by decide +kernel⟩, List.mem_of_getElem? (i := 16) (by decide +kernel), List.mem_of_getElem? (i := 555) (by decide +kernel), List.mem_of_getElem? (i := 556) (by decide +kernel)⟩
theorem lw_p10 : lw_okq (⟨"RollCallModel", "sets", "(III)V"⟩, 9) := ⟨⟨by decide +kernel, by decide +kernel⟩, List.mem_of_getElem? (i := 647) (by decide +kernel), List.mem_of_getElem? (i := 699) (by decide +kernel), List.mem_of_getElem? (i := 700) (by decide +kernel)⟩
theorem lw_p11 : lw_okq (⟨"RollCallModel", "isTag", "(I)Z"⟩, 9) := ⟨⟨by decide +kernel, by decide +kernel⟩, List.mem_of_getElem? (i := 647) (by decide +kernel), List.mem_of_getElem? (i := 707) (by decide +kernel), List.mem_of_getElem? (i := 708) (by decide +kernel)⟩
theorem lw_p12 : lw_okq (⟨"RollCallModel", "of", "(II)I"⟩, 9) := ⟨⟨by decide +kernel, by decide +kernel⟩, List.mem_of_getElem? (i := 647) (by decide +kernel), List.mem_of_getElem? (i := 720) (by decide +kernel), List.mem_of_getElem? (i := 721) (by decide +kernel)⟩
theorem lw_p13 : lw_okq (⟨"RollCallModel", "listens", "(I)Z"⟩, 9) := ⟨⟨by decide +kernel, by decide +kernel⟩, List.mem_of_getElem? (i := 647) (by decide +kernel), List.mem_of_getElem? (i := 724) (by decide +kernel), List.mem_of_getElem? (i := 725) (by decide +kernel)⟩
theorem lw_p14 : lw_okq (⟨"RollCallModel", "listening", "()I"⟩, 9) := ⟨⟨by decide +kernel, by decide +kernel⟩, List.mem_of_getElem? (i := 647) (by decide +kernel), List.mem_of_getElem? (i := 736) (by decide +kernel), List.mem_of_getElem? (i := 737) (by decide +kernel)⟩
theorem lw_p15 : lw_okq (⟨"RollCallModel", "allIn", "()V"⟩, 9) := ⟨⟨by decide +kernel, by decide +kernel⟩, List.mem_of_getElem? (i := 647) (by decide +kernel), List.mem_of_getElem? (i := 744) (by decide +kernel), List.mem_of_getElem? (i := 745) (by decide +kernel)⟩
def lw_privs_1 : List (MethodName × Nat) := [(⟨"RollCall$Tags", "isTaken", "(J)Z"⟩, 11), (⟨"RollCall$Tags", "isOfGroup", "(J)Z"⟩, 11), (⟨"RollCall$Tags", "noteOnes", "(IJ)V"⟩, 11), (⟨"RollCall", "hearSlot", "(J)I"⟩, 4), (⟨"RollCall", "audibleOf", "(J)J"⟩, 4), (⟨"RollCall$Pile", "add", "(JI)V"⟩, 3), (⟨"RollCall", "admitCrowd", "(J)V"⟩, 4), (⟨"RollCall", "drawCounters", "(J)V"⟩, 4), (⟨"RollCall", "findAndTire", "(I)V"⟩, 4), (⟨"RollCall", "drawSlots", "(I)V"⟩, 4), (⟨"RollCallModel", "sets", "(III)V"⟩, 9), (⟨"RollCallModel", "isTag", "(I)Z"⟩, 9), (⟨"RollCallModel", "of", "(II)I"⟩, 9), (⟨"RollCallModel", "listens", "(I)Z"⟩, 9), (⟨"RollCallModel", "listening", "()I"⟩, 9), (⟨"RollCallModel", "allIn", "()V"⟩, 9)]
theorem lw_r1 : ∀ q ∈ lw_privs_1, lw_okq q := List.forall_mem_cons.mpr ⟨lw_p0, List.forall_mem_cons.mpr ⟨lw_p1, List.forall_mem_cons.mpr ⟨lw_p2, List.forall_mem_cons.mpr ⟨lw_p3, List.forall_mem_cons.mpr ⟨lw_p4, List.forall_mem_cons.mpr ⟨lw_p5, List.forall_mem_cons.mpr ⟨lw_p6, List.forall_mem_cons.mpr ⟨lw_p7, List.forall_mem_cons.mpr ⟨lw_p8, List.forall_mem_cons.mpr ⟨lw_p9, List.forall_mem_cons.mpr ⟨lw_p10, List.forall_mem_cons.mpr ⟨lw_p11, List.forall_mem_cons.mpr ⟨lw_p12, List.forall_mem_cons.mpr ⟨lw_p13, List.forall_mem_cons.mpr ⟨lw_p14, List.forall_mem_cons.mpr ⟨lw_p15, fun _ h => absurd h List.not_mem_nil⟩⟩⟩⟩⟩⟩⟩⟩⟩⟩⟩⟩⟩⟩⟩⟩
theorem lw_p16 : lw_okq (⟨"RollCallModel", "oneIn", "()I"⟩, 9) := ⟨⟨by decide +kernel, by decide +kernel⟩, List.mem_of_getElem? (i := 647) (by decide +kernel), List.mem_of_getElem? (i := 748) (by decide +kernel), List.mem_of_getElem? (i := 749) (by decide +kernel)⟩
theorem lw_p17 : lw_okq (⟨"RollCallModel", "tellers", "(II)I"⟩, 9) := ⟨⟨by decide +kernel, by decide +kernel⟩, List.mem_of_getElem? (i := 647) (by decide +kernel), List.mem_of_getElem? (i := 752) (by decide +kernel), List.mem_of_getElem? (i := 753) (by decide +kernel)⟩
theorem lw_p18 : lw_okq (⟨"RollCallModel", "goesOn", "(II)V"⟩, 9) := ⟨⟨by decide +kernel, by decide +kernel⟩, List.mem_of_getElem? (i := 647) (by decide +kernel), List.mem_of_getElem? (i := 756) (by decide +kernel), List.mem_of_getElem? (i := 757) (by decide +kernel)⟩
theorem lw_p19 : lw_okq (⟨"RollCallModel", "finds", "(I)V"⟩, 9) := ⟨⟨by decide +kernel, by decide +kernel⟩, List.mem_of_getElem? (i := 647) (by decide +kernel), List.mem_of_getElem? (i := 760) (by decide +kernel), List.mem_of_getElem? (i := 761) (by decide +kernel)⟩
theorem lw_p20 : lw_okq (⟨"RollCallModel", "called", "(JI)V"⟩, 9) := ⟨⟨by decide +kernel, by decide +kernel⟩, List.mem_of_getElem? (i := 647) (by decide +kernel), List.mem_of_getElem? (i := 776) (by decide +kernel), List.mem_of_getElem? (i := 777) (by decide +kernel)⟩
theorem lw_p21 : lw_okq (⟨"RollCallModel", "counted", "()I"⟩, 9) := ⟨⟨by decide +kernel, by decide +kernel⟩, List.mem_of_getElem? (i := 647) (by decide +kernel), List.mem_of_getElem? (i := 783) (by decide +kernel), List.mem_of_getElem? (i := 784) (by decide +kernel)⟩
theorem lw_p22 : lw_okq (⟨"RollCallModel", "slot", "()I"⟩, 9) := ⟨⟨by decide +kernel, by decide +kernel⟩, List.mem_of_getElem? (i := 647) (by decide +kernel), List.mem_of_getElem? (i := 787) (by decide +kernel), List.mem_of_getElem? (i := 788) (by decide +kernel)⟩
theorem lw_p23 : lw_okq (⟨"RollCallModel", "piles", "(JI)V"⟩, 9) := ⟨⟨by decide +kernel, by decide +kernel⟩, List.mem_of_getElem? (i := 647) (by decide +kernel), List.mem_of_getElem? (i := 799) (by decide +kernel), List.mem_of_getElem? (i := 800) (by decide +kernel)⟩
theorem lw_p24 : lw_okq (⟨"RollCallModel", "splits", "(I)Z"⟩, 9) := ⟨⟨by decide +kernel, by decide +kernel⟩, List.mem_of_getElem? (i := 647) (by decide +kernel), List.mem_of_getElem? (i := 815) (by decide +kernel), List.mem_of_getElem? (i := 816) (by decide +kernel)⟩
theorem lw_p25 : lw_okq (⟨"RollCallModel", "draw", "(II)I"⟩, 9) := ⟨⟨by decide +kernel, by decide +kernel⟩, List.mem_of_getElem? (i := 647) (by decide +kernel), List.mem_of_getElem? (i := 823) (by decide +kernel), List.mem_of_getElem? (i := 824) (by decide +kernel)⟩
theorem lw_p26 : lw_okq (⟨"RollCallModel", "sleeps", "(I)V"⟩, 9) := ⟨⟨by decide +kernel, by decide +kernel⟩, List.mem_of_getElem? (i := 647) (by decide +kernel), List.mem_of_getElem? (i := 828) (by decide +kernel), List.mem_of_getElem? (i := 829) (by decide +kernel)⟩
def lw_privs_2 : List (MethodName × Nat) := [(⟨"RollCallModel", "oneIn", "()I"⟩, 9), (⟨"RollCallModel", "tellers", "(II)I"⟩, 9), (⟨"RollCallModel", "goesOn", "(II)V"⟩, 9), (⟨"RollCallModel", "finds", "(I)V"⟩, 9), (⟨"RollCallModel", "called", "(JI)V"⟩, 9), (⟨"RollCallModel", "counted", "()I"⟩, 9), (⟨"RollCallModel", "slot", "()I"⟩, 9), (⟨"RollCallModel", "piles", "(JI)V"⟩, 9), (⟨"RollCallModel", "splits", "(I)Z"⟩, 9), (⟨"RollCallModel", "draw", "(II)I"⟩, 9), (⟨"RollCallModel", "sleeps", "(I)V"⟩, 9)]
theorem lw_r2 : ∀ q ∈ lw_privs_2, lw_okq q := List.forall_mem_cons.mpr ⟨lw_p16, List.forall_mem_cons.mpr ⟨lw_p17, List.forall_mem_cons.mpr ⟨lw_p18, List.forall_mem_cons.mpr ⟨lw_p19, List.forall_mem_cons.mpr ⟨lw_p20, List.forall_mem_cons.mpr ⟨lw_p21, List.forall_mem_cons.mpr ⟨lw_p22, List.forall_mem_cons.mpr ⟨lw_p23, List.forall_mem_cons.mpr ⟨lw_p24, List.forall_mem_cons.mpr ⟨lw_p25, List.forall_mem_cons.mpr ⟨lw_p26, fun _ h => absurd h List.not_mem_nil⟩⟩⟩⟩⟩⟩⟩⟩⟩⟩⟩
def lw_privs : List (MethodName × Nat) := lw_privs_1 ++ (lw_privs_2)
def lw_tbl : List Cond := k2_sels lw_privs ++ tables_1
theorem lw_privs_ok : ∀ q ∈ lw_privs, lw_okq q := by
  show ∀ q ∈ lw_privs_1 ++ (lw_privs_2), lw_okq q
  exact List.forall_mem_append.mpr ⟨lw_r1, lw_r2⟩
/-- the streams that the claim lets the run draw from -/
abbrev lw_cs : List Choice := [Jvm.Choice.named "NaN.bits"]
theorem lw_bits : nanBits ∈ lw_cs := by first | decide | exact List.mem_cons_self | simp [lw_cs, nanBits]
end
section
def RX0 : String := "RollCall$Counters"
def TX0 : u_T := fun k => match k with
  | 0 => ("RollCall$Counters", "values", "[I", true)
  | 1 => ("RollCall$Counters", "holders", "J", false)
  | _ => ("RollCall$Counters", "callers", "I", false)
def tyX0 : Nat → FieldType := fun k => match k with
  | 0 => .array .int
  | 1 => .long
  | _ => .int
abbrev wsX00 : List Cond := u_ws RX0 TX0 3
theorem nmX0 : ∀ a, a < 3 → ∀ b, b < 3 → a ≠ b → (TX0 a).2.1 ≠ (TX0 b).2.1 := by decide +kernel
theorem tyX0_ok : ∀ k, k < 3 → parseFieldDescriptor (TX0 k).2.2.1 = some (tyX0 k) := by decide +kernel
abbrev cX0_init : ByteArray := prog_2_method_1_code
def yX0_init : MethodName := ⟨RX0, "<init>", "()V"⟩
abbrev cX0_start : ByteArray := prog_2_method_2_code
def yX0_start : MethodName := ⟨RX0, "start", "(J)V"⟩
abbrev cX0_isUnderWay : ByteArray := prog_2_method_3_code
def yX0_isUnderWay : MethodName := ⟨RX0, "isUnderWay", "()Z"⟩
abbrev cX0_of : ByteArray := prog_2_method_4_code
def yX0_of : MethodName := ⟨RX0, "of", "(I)I"⟩
abbrev cX0_put : ByteArray := prog_2_method_5_code
def yX0_put : MethodName := ⟨RX0, "put", "(II)V"⟩
abbrev cX0_release : ByteArray := prog_2_method_6_code
def yX0_release : MethodName := ⟨RX0, "release", "(I)V"⟩
abbrev cX0_atZero : ByteArray := prog_2_method_7_code
def yX0_atZero : MethodName := ⟨RX0, "atZero", "(J)J"⟩
abbrev cX0_shift : ByteArray := prog_2_method_8_code
def yX0_shift : MethodName := ⟨RX0, "shift", "(JI)V"⟩
abbrev cX0_copyFrom : ByteArray := prog_2_method_9_code
def yX0_copyFrom : MethodName := ⟨RX0, "copyFrom", "(LRollCall$Counters;)V"⟩
def RX1 : String := "RollCall$Crowds"
def TX1 : u_T := fun k => match k with
  | 0 => ("RollCall$Crowds", "present", "[J", true)
  | 1 => ("RollCall$Crowds", "next", "[J", true)
  | 2 => ("RollCall$Crowds", "nextSize", "I", false)
  | _ => ("RollCall$Crowds", "size", "I", false)
def tyX1 : Nat → FieldType := fun k => match k with
  | 0 => .array .long
  | 1 => .array .long
  | 2 => .int
  | _ => .int
abbrev wsX10 : List Cond := u_ws RX1 TX1 4
theorem nmX1 : ∀ a, a < 4 → ∀ b, b < 4 → a ≠ b → (TX1 a).2.1 ≠ (TX1 b).2.1 := by decide +kernel
theorem tyX1_ok : ∀ k, k < 4 → parseFieldDescriptor (TX1 k).2.2.1 = some (tyX1 k) := by decide +kernel
abbrev cX1_init : ByteArray := prog_3_method_1_code
def yX1_init : MethodName := ⟨RX1, "<init>", "()V"⟩
abbrev cX1_admit : ByteArray := prog_3_method_2_code
def yX1_admit : MethodName := ⟨RX1, "admit", "(J)V"⟩
abbrev cX1_at : ByteArray := prog_3_method_3_code
def yX1_at : MethodName := ⟨RX1, "at", "(I)J"⟩
abbrev cX1_turn : ByteArray := prog_3_method_4_code
def yX1_turn : MethodName := ⟨RX1, "turn", "()V"⟩
def RX2 : String := "RollCall$Frames"
def TX2 : u_T := fun k => match k with
  | 0 => ("RollCall$Frames", "foundInOne", "J", false)
  | 1 => ("RollCall$Frames", "quiets", "I", false)
  | 2 => ("RollCall$Frames", "alones", "I", false)
  | 3 => ("RollCall$Frames", "collisions", "I", false)
  | _ => ("RollCall$Frames", "guess", "I", false)
def tyX2 : Nat → FieldType := fun k => match k with
  | 0 => .long
  | 1 => .int
  | 2 => .int
  | 3 => .int
  | _ => .int
abbrev wsX20 : List Cond := u_ws RX2 TX2 5
theorem nmX2 : ∀ a, a < 5 → ∀ b, b < 5 → a ≠ b → (TX2 a).2.1 ≠ (TX2 b).2.1 := by decide +kernel
theorem tyX2_ok : ∀ k, k < 5 → parseFieldDescriptor (TX2 k).2.2.1 = some (tyX2 k) := by decide +kernel
abbrev cX2_init : ByteArray := prog_4_method_1_code
def yX2_init : MethodName := ⟨RX2, "<init>", "()V"⟩
abbrev cX2_startOne : ByteArray := prog_4_method_2_code
def yX2_startOne : MethodName := ⟨RX2, "startOne", "()V"⟩
abbrev cX2_note : ByteArray := prog_4_method_3_code
def yX2_note : MethodName := ⟨RX2, "note", "(I)V"⟩
abbrev cX2_guessNext : ByteArray := prog_4_method_4_code
def yX2_guessNext : MethodName := ⟨RX2, "guessNext", "()V"⟩
abbrev cX2_copyFrom : ByteArray := prog_4_method_5_code
def yX2_copyFrom : MethodName := ⟨RX2, "copyFrom", "(LRollCall$Frames;)V"⟩
def RX3 : String := "RollCall$Passes"
def TX3 : u_T := fun k => match k with
  | 0 => ("RollCall$Passes", "lastFork", "I", false)
  | 1 => ("RollCall$Passes", "inRow", "I", false)
  | _ => ("RollCall$Passes", "latestName", "J", false)
def tyX3 : Nat → FieldType := fun k => match k with
  | 0 => .int
  | 1 => .int
  | _ => .long
abbrev wsX30 : List Cond := u_ws RX3 TX3 3
theorem nmX3 : ∀ a, a < 3 → ∀ b, b < 3 → a ≠ b → (TX3 a).2.1 ≠ (TX3 b).2.1 := by decide +kernel
theorem tyX3_ok : ∀ k, k < 3 → parseFieldDescriptor (TX3 k).2.2.1 = some (tyX3 k) := by decide +kernel
abbrev cX3_init : ByteArray := prog_5_method_1_code
def yX3_init : MethodName := ⟨RX3, "<init>", "()V"⟩
abbrev cX3_wayIsOneAt : ByteArray := prog_5_method_2_code
def yX3_wayIsOneAt : MethodName := ⟨RX3, "wayIsOneAt", "(I)Z"⟩
abbrev cX3_goOnFrom : ByteArray := prog_5_method_3_code
def yX3_goOnFrom : MethodName := ⟨RX3, "goOnFrom", "(IJ)V"⟩
abbrev cX3_endRow : ByteArray := prog_5_method_4_code
def yX3_endRow : MethodName := ⟨RX3, "endRow", "()V"⟩
abbrev cX3_copyFrom : ByteArray := prog_5_method_5_code
def yX3_copyFrom : MethodName := ⟨RX3, "copyFrom", "(LRollCall$Passes;)V"⟩
def RX4 : String := "RollCall$Pile"
def TX4 : u_T := fun k => match k with
  | 0 => ("RollCall$Pile", "rows", "[J", true)
  | 1 => ("RollCall$Pile", "lengths", "[I", true)
  | _ => ("RollCall$Pile", "size", "I", false)
def tyX4 : Nat → FieldType := fun k => match k with
  | 0 => .array .long
  | 1 => .array .int
  | _ => .int
abbrev wsX40 : List Cond := u_ws RX4 TX4 3
theorem nmX4 : ∀ a, a < 3 → ∀ b, b < 3 → a ≠ b → (TX4 a).2.1 ≠ (TX4 b).2.1 := by decide +kernel
theorem tyX4_ok : ∀ k, k < 3 → parseFieldDescriptor (TX4 k).2.2.1 = some (tyX4 k) := by decide +kernel
abbrev cX4_init : ByteArray := prog_6_method_1_code
def yX4_init : MethodName := ⟨RX4, "<init>", "()V"⟩
abbrev cX4_startAnew : ByteArray := prog_6_method_2_code
def yX4_startAnew : MethodName := ⟨RX4, "startAnew", "()V"⟩
abbrev cX4_topRow : ByteArray := prog_6_method_3_code
def yX4_topRow : MethodName := ⟨RX4, "topRow", "()J"⟩
abbrev cX4_topLength : ByteArray := prog_6_method_4_code
def yX4_topLength : MethodName := ⟨RX4, "topLength", "()I"⟩
abbrev cX4_dropTop : ByteArray := prog_6_method_5_code
def yX4_dropTop : MethodName := ⟨RX4, "dropTop", "()V"⟩
abbrev cX4_addBoth : ByteArray := prog_6_method_6_code
def yX4_addBoth : MethodName := ⟨RX4, "addBoth", "(JI)V"⟩
abbrev cX4_add : ByteArray := prog_6_method_7_code
def yX4_add : MethodName := ⟨RX4, "add", "(JI)V"⟩
abbrev cX4_copyFrom : ByteArray := prog_6_method_8_code
def yX4_copyFrom : MethodName := ⟨RX4, "copyFrom", "(LRollCall$Pile;)V"⟩
def RX5 : String := "RollCall$State"
def TX5 : u_T := fun k => match k with
  | 0 => ("RollCall$State", "tags", "LRollCall$Tags;", true)
  | 1 => ("RollCall$State", "passes", "LRollCall$Passes;", true)
  | 2 => ("RollCall$State", "pile", "LRollCall$Pile;", true)
  | 3 => ("RollCall$State", "counters", "LRollCall$Counters;", true)
  | 4 => ("RollCall$State", "frames", "LRollCall$Frames;", true)
  | 5 => ("RollCall$State", "tally", "LRollCall$Tally;", true)
  | 6 => ("RollCall$State", "wireKind", "I", false)
  | _ => ("RollCall$State", "aloneTag", "I", false)
def tyX5 : Nat → FieldType := fun k => match k with
  | 0 => .object "RollCall$Tags"
  | 1 => .object "RollCall$Passes"
  | 2 => .object "RollCall$Pile"
  | 3 => .object "RollCall$Counters"
  | 4 => .object "RollCall$Frames"
  | 5 => .object "RollCall$Tally"
  | 6 => .int
  | _ => .int
abbrev wsX50 : List Cond := u_ws RX5 TX5 8
theorem nmX5 : ∀ a, a < 8 → ∀ b, b < 8 → a ≠ b → (TX5 a).2.1 ≠ (TX5 b).2.1 := by decide +kernel
theorem tyX5_ok : ∀ k, k < 8 → parseFieldDescriptor (TX5 k).2.2.1 = some (tyX5 k) := by decide +kernel
abbrev cX5_init : ByteArray := prog_7_method_1_code
def yX5_init : MethodName := ⟨RX5, "<init>", "()V"⟩
abbrev cX5_copyFrom : ByteArray := prog_7_method_2_code
def yX5_copyFrom : MethodName := ⟨RX5, "copyFrom", "(LRollCall$State;)V"⟩
def RX6 : String := "RollCall$Tags"
def TX6 : u_T := fun k => match k with
  | 0 => ("RollCall$Tags", "kinds", "[I", true)
  | 1 => ("RollCall$Tags", "names", "[J", true)
  | 2 => ("RollCall$Tags", "seeds", "[I", true)
  | 3 => ("RollCall$Tags", "ones", "[J", true)
  | 4 => ("RollCall$Tags", "ofKind", "[J", true)
  | 5 => ("RollCall$Tags", "size", "I", false)
  | 6 => ("RollCall$Tags", "there", "J", false)
  | 7 => ("RollCall$Tags", "awake", "J", false)
  | 8 => ("RollCall$Tags", "grouped", "J", false)
  | 9 => ("RollCall$Tags", "groupMask", "J", false)
  | _ => ("RollCall$Tags", "groupBits", "J", false)
def tyX6 : Nat → FieldType := fun k => match k with
  | 0 => .array .int
  | 1 => .array .long
  | 2 => .array .int
  | 3 => .array .long
  | 4 => .array .long
  | 5 => .int
  | 6 => .long
  | 7 => .long
  | 8 => .long
  | 9 => .long
  | _ => .long
abbrev wsX60 : List Cond := u_ws RX6 TX6 11
theorem nmX6 : ∀ a, a < 11 → ∀ b, b < 11 → a ≠ b → (TX6 a).2.1 ≠ (TX6 b).2.1 := by decide +kernel
theorem tyX6_ok : ∀ k, k < 11 → parseFieldDescriptor (TX6 k).2.2.1 = some (tyX6 k) := by decide +kernel
abbrev cX6_init : ByteArray := prog_8_method_1_code
def yX6_init : MethodName := ⟨RX6, "<init>", "()V"⟩
abbrev cX6_has : ByteArray := prog_8_method_2_code
def yX6_has : MethodName := ⟨RX6, "has", "(I)Z"⟩
abbrev cX6_add : ByteArray := prog_8_method_3_code
def yX6_add : MethodName := ⟨RX6, "add", "(IJI)I"⟩
abbrev cX6_noteOnes : ByteArray := prog_8_method_4_code
def yX6_noteOnes : MethodName := ⟨RX6, "noteOnes", "(IJ)V"⟩
abbrev cX6_isTaken : ByteArray := prog_8_method_5_code
def yX6_isTaken : MethodName := ⟨RX6, "isTaken", "(J)Z"⟩
abbrev cX6_isOfGroup : ByteArray := prog_8_method_6_code
def yX6_isOfGroup : MethodName := ⟨RX6, "isOfGroup", "(J)Z"⟩
abbrev cX6_regroup : ByteArray := prog_8_method_7_code
def yX6_regroup : MethodName := ⟨RX6, "regroup", "(JJ)V"⟩
abbrev cX6_setThere : ByteArray := prog_8_method_8_code
def yX6_setThere : MethodName := ⟨RX6, "setThere", "(IZ)Z"⟩
abbrev cX6_setAwake : ByteArray := prog_8_method_9_code
def yX6_setAwake : MethodName := ⟨RX6, "setAwake", "(IZ)Z"⟩
abbrev cX6_tire : ByteArray := prog_8_method_10_code
def yX6_tire : MethodName := ⟨RX6, "tire", "(I)V"⟩
abbrev cX6_listening : ByteArray := prog_8_method_11_code
def yX6_listening : MethodName := ⟨RX6, "listening", "()J"⟩
abbrev cX6_asked : ByteArray := prog_8_method_12_code
def yX6_asked : MethodName := ⟨RX6, "asked", "()J"⟩
abbrev cX6_slotted : ByteArray := prog_8_method_13_code
def yX6_slotted : MethodName := ⟨RX6, "slotted", "()J"⟩
abbrev cX6_splitting : ByteArray := prog_8_method_14_code
def yX6_splitting : MethodName := ⟨RX6, "splitting", "()J"⟩
abbrev cX6_tellingOne : ByteArray := prog_8_method_15_code
def yX6_tellingOne : MethodName := ⟨RX6, "tellingOne", "(JI)J"⟩
abbrev cX6_beginningWith : ByteArray := prog_8_method_16_code
def yX6_beginningWith : MethodName := ⟨RX6, "beginningWith", "(JI)J"⟩
abbrev cX6_draw : ByteArray := prog_8_method_17_code
def yX6_draw : MethodName := ⟨RX6, "draw", "(II)I"⟩
abbrev cX6_copyFrom : ByteArray := prog_8_method_18_code
def yX6_copyFrom : MethodName := ⟨RX6, "copyFrom", "(LRollCall$Tags;)V"⟩
def RX7 : String := "RollCall$Tally"
def TX7 : u_T := fun k => match k with
  | 0 => ("RollCall$Tally", "foundTags", "[I", true)
  | 1 => ("RollCall$Tally", "foundSize", "I", false)
  | 2 => ("RollCall$Tally", "quietSlots", "I", false)
  | 3 => ("RollCall$Tally", "aloneSlots", "I", false)
  | 4 => ("RollCall$Tally", "collisionSlots", "I", false)
  | _ => ("RollCall$Tally", "passSlots", "I", false)
def tyX7 : Nat → FieldType := fun k => match k with
  | 0 => .array .int
  | 1 => .int
  | 2 => .int
  | 3 => .int
  | 4 => .int
  | _ => .int
abbrev wsX70 : List Cond := u_ws RX7 TX7 6
theorem nmX7 : ∀ a, a < 6 → ∀ b, b < 6 → a ≠ b → (TX7 a).2.1 ≠ (TX7 b).2.1 := by decide +kernel
theorem tyX7_ok : ∀ k, k < 6 → parseFieldDescriptor (TX7 k).2.2.1 = some (tyX7 k) := by decide +kernel
abbrev cX7_init : ByteArray := prog_9_method_1_code
def yX7_init : MethodName := ⟨RX7, "<init>", "()V"⟩
abbrev cX7_addFound : ByteArray := prog_9_method_2_code
def yX7_addFound : MethodName := ⟨RX7, "addFound", "(I)V"⟩
abbrev cX7_foundAt : ByteArray := prog_9_method_3_code
def yX7_foundAt : MethodName := ⟨RX7, "foundAt", "(I)I"⟩
abbrev cX7_timesFound : ByteArray := prog_9_method_4_code
def yX7_timesFound : MethodName := ⟨RX7, "timesFound", "(I)I"⟩
abbrev cX7_addSlot : ByteArray := prog_9_method_5_code
def yX7_addSlot : MethodName := ⟨RX7, "addSlot", "(I)V"⟩
abbrev cX7_addPassSlots : ByteArray := prog_9_method_6_code
def yX7_addPassSlots : MethodName := ⟨RX7, "addPassSlots", "(I)V"⟩
abbrev cX7_allSlots : ByteArray := prog_9_method_7_code
def yX7_allSlots : MethodName := ⟨RX7, "allSlots", "()I"⟩
abbrev cX7_copyFrom : ByteArray := prog_9_method_8_code
def yX7_copyFrom : MethodName := ⟨RX7, "copyFrom", "(LRollCall$Tally;)V"⟩
def RX8 : String := "RollCall"
def TX8 : u_T := fun k => match k with
  | 0 => ("RollCall", "now", "LRollCall$State;", true)
  | 1 => ("RollCall", "images", "[LRollCall$State;", true)
  | 2 => ("RollCall", "slotSpeakers", "[J", true)
  | _ => ("RollCall", "crowds", "LRollCall$Crowds;", true)
def tyX8 : Nat → FieldType := fun k => match k with
  | 0 => .object "RollCall$State"
  | 1 => .array (.object "RollCall$State")
  | 2 => .array .long
  | _ => .object "RollCall$Crowds"
abbrev wsX80 : List Cond := u_ws RX8 TX8 4
theorem nmX8 : ∀ a, a < 4 → ∀ b, b < 4 → a ≠ b → (TX8 a).2.1 ≠ (TX8 b).2.1 := by decide +kernel
theorem tyX8_ok : ∀ k, k < 4 → parseFieldDescriptor (TX8 k).2.2.1 = some (tyX8 k) := by decide +kernel
abbrev cX8_init : ByteArray := prog_1_method_1_code
def yX8_init : MethodName := ⟨RX8, "<init>", "()V"⟩
abbrev cX8_wire : ByteArray := prog_1_method_2_code
def yX8_wire : MethodName := ⟨RX8, "wire", "(I)Z"⟩
abbrev cX8_tag : ByteArray := prog_1_method_3_code
def yX8_tag : MethodName := ⟨RX8, "tag", "(IJI)I"⟩
abbrev cX8_name : ByteArray := prog_1_method_4_code
def yX8_name : MethodName := ⟨RX8, "name", "(I)J"⟩
abbrev cX8_isName : ByteArray := prog_1_method_5_code
def yX8_isName : MethodName := ⟨RX8, "isName", "(J)Z"⟩
abbrev cX8_tell : ByteArray := prog_1_method_6_code
def yX8_tell : MethodName := ⟨RX8, "tell", "(II)I"⟩
abbrev cX8_act : ByteArray := prog_1_method_7_code
def yX8_act : MethodName := ⟨RX8, "act", "(II)Z"⟩
abbrev cX8_group : ByteArray := prog_1_method_8_code
def yX8_group : MethodName := ⟨RX8, "group", "(JJ)I"⟩
abbrev cX8_pass : ByteArray := prog_1_method_9_code
def yX8_pass : MethodName := ⟨RX8, "pass", "()I"⟩
abbrev cX8_fork : ByteArray := prog_1_method_10_code
def yX8_fork : MethodName := ⟨RX8, "fork", "(I)I"⟩
abbrev cX8_verify : ByteArray := prog_1_method_11_code
def yX8_verify : MethodName := ⟨RX8, "verify", "(J)Z"⟩
abbrev cX8_ask : ByteArray := prog_1_method_12_code
def yX8_ask : MethodName := ⟨RX8, "ask", "(JI)I"⟩
abbrev cX8_alone : ByteArray := prog_1_method_13_code
def yX8_alone : MethodName := ⟨RX8, "alone", "()I"⟩
abbrev cX8_descend : ByteArray := prog_1_method_14_code
def yX8_descend : MethodName := ⟨RX8, "descend", "()V"⟩
abbrev cX8_step : ByteArray := prog_1_method_15_code
def yX8_step : MethodName := ⟨RX8, "step", "()I"⟩
abbrev cX8_nodes : ByteArray := prog_1_method_16_code
def yX8_nodes : MethodName := ⟨RX8, "nodes", "()I"⟩
abbrev cX8_begin : ByteArray := prog_1_method_17_code
def yX8_begin : MethodName := ⟨RX8, "begin", "()I"⟩
abbrev cX8_split : ByteArray := prog_1_method_18_code
def yX8_split : MethodName := ⟨RX8, "split", "()I"⟩
abbrev cX8_frames : ByteArray := prog_1_method_19_code
def yX8_frames : MethodName := ⟨RX8, "frames", "()V"⟩
abbrev cX8_frame : ByteArray := prog_1_method_20_code
def yX8_frame : MethodName := ⟨RX8, "frame", "(I)I"⟩
abbrev cX8_heard : ByteArray := prog_1_method_21_code
def yX8_heard : MethodName := ⟨RX8, "heard", "(I)I"⟩
abbrev cX8_found : ByteArray := prog_1_method_22_code
def yX8_found : MethodName := ⟨RX8, "found", "(I)I"⟩
abbrev cX8_cost : ByteArray := prog_1_method_23_code
def yX8_cost : MethodName := ⟨RX8, "cost", "(I)I"⟩
abbrev cX8_count : ByteArray := prog_1_method_24_code
def yX8_count : MethodName := ⟨RX8, "count", "(I)I"⟩
abbrev cX8_image : ByteArray := prog_1_method_25_code
def yX8_image : MethodName := ⟨RX8, "image", "(I)Z"⟩
abbrev cX8_again : ByteArray := prog_1_method_26_code
def yX8_again : MethodName := ⟨RX8, "again", "(I)Z"⟩
abbrev cX8_hearSlot : ByteArray := prog_1_method_27_code
def yX8_hearSlot : MethodName := ⟨RX8, "hearSlot", "(J)I"⟩
abbrev cX8_audibleOf : ByteArray := prog_1_method_28_code
def yX8_audibleOf : MethodName := ⟨RX8, "audibleOf", "(J)J"⟩
abbrev cX8_admitCrowd : ByteArray := prog_1_method_29_code
def yX8_admitCrowd : MethodName := ⟨RX8, "admitCrowd", "(J)V"⟩
abbrev cX8_findAndTire : ByteArray := prog_1_method_30_code
def yX8_findAndTire : MethodName := ⟨RX8, "findAndTire", "(I)V"⟩
abbrev cX8_drawCounters : ByteArray := prog_1_method_31_code
def yX8_drawCounters : MethodName := ⟨RX8, "drawCounters", "(J)V"⟩
abbrev cX8_drawSlots : ByteArray := prog_1_method_32_code
def yX8_drawSlots : MethodName := ⟨RX8, "drawSlots", "(I)V"⟩
abbrev cX8_kindOfSlot : ByteArray := prog_1_method_33_code
def yX8_kindOfSlot : MethodName := ⟨RX8, "kindOfSlot", "(J)I"⟩
abbrev cX8_setOf : ByteArray := prog_1_method_34_code
def yX8_setOf : MethodName := ⟨RX8, "setOf", "(I)J"⟩
abbrev cX8_isIn : ByteArray := prog_1_method_35_code
def yX8_isIn : MethodName := ⟨RX8, "isIn", "(JI)Z"⟩
abbrev cX8_firstOf : ByteArray := prog_1_method_36_code
def yX8_firstOf : MethodName := ⟨RX8, "firstOf", "(J)I"⟩
abbrev cX8_oneIf : ByteArray := prog_1_method_37_code
def yX8_oneIf : MethodName := ⟨RX8, "oneIf", "(Z)I"⟩
abbrev cX8_isOneAt : ByteArray := prog_1_method_38_code
def yX8_isOneAt : MethodName := ⟨RX8, "isOneAt", "(JI)Z"⟩
abbrev cX8_sumOf : ByteArray := prog_1_method_39_code
def yX8_sumOf : MethodName := ⟨RX8, "sumOf", "(J)I"⟩
def RX9 : String := "RollCallModel"
def TX9 : u_T := fun k => match k with
  | 0 => ("RollCallModel", "all", "[I", true)
  | 1 => ("RollCallModel", "wide", "[J", true)
  | 2 => ("RollCallModel", "has", "[Z", true)
  | 3 => ("RollCallModel", "in", "[Z", true)
  | 4 => ("RollCallModel", "speaks", "[Z", true)
  | 5 => ("RollCallModel", "lone", "I", false)
  | 6 => ("RollCallModel", "later", "[J", true)
  | 7 => ("RollCallModel", "laterSize", "[I", true)
  | _ => ("RollCallModel", "drawn", "[I", true)
def tyX9 : Nat → FieldType := fun k => match k with
  | 0 => .array .int
  | 1 => .array .long
  | 2 => .array .boolean
  | 3 => .array .boolean
  | 4 => .array .boolean
  | 5 => .int
  | 6 => .array .long
  | 7 => .array .int
  | _ => .array .int
abbrev wsX90 : List Cond := u_ws RX9 TX9 9
theorem nmX9 : ∀ a, a < 9 → ∀ b, b < 9 → a ≠ b → (TX9 a).2.1 ≠ (TX9 b).2.1 := by decide +kernel
theorem tyX9_ok : ∀ k, k < 9 → parseFieldDescriptor (TX9 k).2.2.1 = some (tyX9 k) := by decide +kernel
abbrev cX9_init : ByteArray := prog_11_method_1_code
def yX9_init : MethodName := ⟨RX9, "<init>", "()V"⟩
abbrev cX9_isIn : ByteArray := prog_11_method_2_code
def yX9_isIn : MethodName := ⟨RX9, "isIn", "(II)Z"⟩
abbrev cX9_isTag : ByteArray := prog_11_method_3_code
def yX9_isTag : MethodName := ⟨RX9, "isTag", "(I)Z"⟩
abbrev cX9_of : ByteArray := prog_11_method_4_code
def yX9_of : MethodName := ⟨RX9, "of", "(II)I"⟩
abbrev cX9_sets : ByteArray := prog_11_method_5_code
def yX9_sets : MethodName := ⟨RX9, "sets", "(III)V"⟩
abbrev cX9_bitOf : ByteArray := prog_11_method_6_code
def yX9_bitOf : MethodName := ⟨RX9, "bitOf", "(JI)I"⟩
abbrev cX9_sumOf : ByteArray := prog_11_method_7_code
def yX9_sumOf : MethodName := ⟨RX9, "sumOf", "(J)I"⟩
abbrev cX9_listens : ByteArray := prog_11_method_8_code
def yX9_listens : MethodName := ⟨RX9, "listens", "(I)Z"⟩
abbrev cX9_wire : ByteArray := prog_11_method_9_code
def yX9_wire : MethodName := ⟨RX9, "wire", "(I)Z"⟩
abbrev cX9_tag : ByteArray := prog_11_method_10_code
def yX9_tag : MethodName := ⟨RX9, "tag", "(IJI)I"⟩
abbrev cX9_name : ByteArray := prog_11_method_11_code
def yX9_name : MethodName := ⟨RX9, "name", "(I)J"⟩
abbrev cX9_isName : ByteArray := prog_11_method_12_code
def yX9_isName : MethodName := ⟨RX9, "isName", "(J)Z"⟩
abbrev cX9_tell : ByteArray := prog_11_method_13_code
def yX9_tell : MethodName := ⟨RX9, "tell", "(II)I"⟩
abbrev cX9_act : ByteArray := prog_11_method_14_code
def yX9_act : MethodName := ⟨RX9, "act", "(II)Z"⟩
abbrev cX9_listening : ByteArray := prog_11_method_15_code
def yX9_listening : MethodName := ⟨RX9, "listening", "()I"⟩
abbrev cX9_group : ByteArray := prog_11_method_16_code
def yX9_group : MethodName := ⟨RX9, "group", "(JJ)I"⟩
abbrev cX9_finds : ByteArray := prog_11_method_17_code
def yX9_finds : MethodName := ⟨RX9, "finds", "(I)V"⟩
abbrev cX9_allIn : ByteArray := prog_11_method_18_code
def yX9_allIn : MethodName := ⟨RX9, "allIn", "()V"⟩
abbrev cX9_tellers : ByteArray := prog_11_method_19_code
def yX9_tellers : MethodName := ⟨RX9, "tellers", "(II)I"⟩
abbrev cX9_goesOn : ByteArray := prog_11_method_20_code
def yX9_goesOn : MethodName := ⟨RX9, "goesOn", "(II)V"⟩
abbrev cX9_oneIn : ByteArray := prog_11_method_21_code
def yX9_oneIn : MethodName := ⟨RX9, "oneIn", "()I"⟩
abbrev cX9_pass : ByteArray := prog_11_method_22_code
def yX9_pass : MethodName := ⟨RX9, "pass", "()I"⟩
abbrev cX9_fork : ByteArray := prog_11_method_23_code
def yX9_fork : MethodName := ⟨RX9, "fork", "(I)I"⟩
abbrev cX9_verify : ByteArray := prog_11_method_24_code
def yX9_verify : MethodName := ⟨RX9, "verify", "(J)Z"⟩
abbrev cX9_slot : ByteArray := prog_11_method_25_code
def yX9_slot : MethodName := ⟨RX9, "slot", "()I"⟩
abbrev cX9_counted : ByteArray := prog_11_method_26_code
def yX9_counted : MethodName := ⟨RX9, "counted", "()I"⟩
abbrev cX9_begins : ByteArray := prog_11_method_27_code
def yX9_begins : MethodName := ⟨RX9, "begins", "(JJI)Z"⟩
abbrev cX9_called : ByteArray := prog_11_method_28_code
def yX9_called : MethodName := ⟨RX9, "called", "(JI)V"⟩
abbrev cX9_ask : ByteArray := prog_11_method_29_code
def yX9_ask : MethodName := ⟨RX9, "ask", "(JI)I"⟩
abbrev cX9_alone : ByteArray := prog_11_method_30_code
def yX9_alone : MethodName := ⟨RX9, "alone", "()I"⟩
abbrev cX9_piles : ByteArray := prog_11_method_31_code
def yX9_piles : MethodName := ⟨RX9, "piles", "(JI)V"⟩
abbrev cX9_descend : ByteArray := prog_11_method_32_code
def yX9_descend : MethodName := ⟨RX9, "descend", "()V"⟩
abbrev cX9_step : ByteArray := prog_11_method_33_code
def yX9_step : MethodName := ⟨RX9, "step", "()I"⟩
abbrev cX9_nodes : ByteArray := prog_11_method_34_code
def yX9_nodes : MethodName := ⟨RX9, "nodes", "()I"⟩
abbrev cX9_splits : ByteArray := prog_11_method_35_code
def yX9_splits : MethodName := ⟨RX9, "splits", "(I)Z"⟩
abbrev cX9_begin : ByteArray := prog_11_method_36_code
def yX9_begin : MethodName := ⟨RX9, "begin", "()I"⟩
abbrev cX9_draw : ByteArray := prog_11_method_37_code
def yX9_draw : MethodName := ⟨RX9, "draw", "(II)I"⟩
abbrev cX9_sleeps : ByteArray := prog_11_method_38_code
def yX9_sleeps : MethodName := ⟨RX9, "sleeps", "(I)V"⟩
abbrev cX9_split : ByteArray := prog_11_method_39_code
def yX9_split : MethodName := ⟨RX9, "split", "()I"⟩
abbrev cX9_frames : ByteArray := prog_11_method_40_code
def yX9_frames : MethodName := ⟨RX9, "frames", "()V"⟩
abbrev cX9_frame : ByteArray := prog_11_method_41_code
def yX9_frame : MethodName := ⟨RX9, "frame", "(I)I"⟩
abbrev cX9_heard : ByteArray := prog_11_method_42_code
def yX9_heard : MethodName := ⟨RX9, "heard", "(I)I"⟩
abbrev cX9_found : ByteArray := prog_11_method_43_code
def yX9_found : MethodName := ⟨RX9, "found", "(I)I"⟩
abbrev cX9_cost : ByteArray := prog_11_method_44_code
def yX9_cost : MethodName := ⟨RX9, "cost", "(I)I"⟩
abbrev cX9_count : ByteArray := prog_11_method_45_code
def yX9_count : MethodName := ⟨RX9, "count", "(I)I"⟩
abbrev cX9_image : ByteArray := prog_11_method_46_code
def yX9_image : MethodName := ⟨RX9, "image", "(I)Z"⟩
abbrev cX9_again : ByteArray := prog_11_method_47_code
def yX9_again : MethodName := ⟨RX9, "again", "(I)Z"⟩
def RJ13 : String := "java/lang/Long"
def TJ13 : u_T := fun k => match k with
  | _ => ("", "", "", false)
def tyJ13 : Nat → FieldType := fun k => match k with
  | _ => .int
abbrev cJ13_bitCount_95d88 : ByteArray := prog_12_method_50_code
def yJ13_bitCount_95d88 : MethodName := ⟨RJ13, "bitCount", "(J)I"⟩
def RJ9 : String := "java/lang/Math"
def TJ9 : u_T := fun k => match k with
  | _ => ("", "", "", false)
def tyJ9 : Nat → FieldType := fun k => match k with
  | _ => .int
abbrev cJ9_max_7cf53 : ByteArray := prog_13_method_65_code
def yJ9_max_7cf53 : MethodName := ⟨RJ9, "max", "(II)I"⟩
abbrev cJ9_min_7cf53 : ByteArray := prog_13_method_69_code
def yJ9_min_7cf53 : MethodName := ⟨RJ9, "min", "(II)I"⟩
def RJ10 : String := "java/lang/System"
def TJ10 : u_T := fun k => match k with
  | _ => ("", "", "", false)
def tyJ10 : Nat → FieldType := fun k => match k with
  | _ => .int
def RJ7 : String := "java/util/Arrays"
def TJ7 : u_T := fun k => match k with
  | _ => ("", "", "", false)
def tyJ7 : Nat → FieldType := fun k => match k with
  | _ => .int
abbrev cJ7_fill_d0a16 : ByteArray := prog_15_method_101_code
def yJ7_fill_d0a16 : MethodName := ⟨RJ7, "fill", "([JJ)V"⟩
abbrev cJ7_fill_53178 : ByteArray := prog_15_method_103_code
def yJ7_fill_53178 : MethodName := ⟨RJ7, "fill", "([II)V"⟩
def RL : String := "RollCallLaw"
abbrev cL_law : ByteArray := code
def yL_law : MethodName := ⟨RL, "law", "([I)Z"⟩
theorem dX0_init_0 : decode cX0_init 0 = .ok (.aload_n 0, 1) := by decide +kernel
theorem dX0_init_1 : decode cX0_init 1 = .ok (.invokespecial 3, 3) := by decide +kernel
theorem dX0_init_4 : decode cX0_init 4 = .ok (.aload_n 0, 1) := by decide +kernel
theorem dX0_init_5 : decode cX0_init 5 = .ok (.bipush 40, 2) := by decide +kernel
theorem dX0_init_7 : decode cX0_init 7 = .ok (.newarray .int, 2) := by decide +kernel
theorem dX0_init_9 : decode cX0_init 9 = .ok (.putfield 9, 3) := by decide +kernel
theorem dX0_init_12 : decode cX0_init 12 = .ok (.aload_n 0, 1) := by decide +kernel
theorem dX0_init_13 : decode cX0_init 13 = .ok (.iconst (-1), 1) := by decide +kernel
theorem dX0_init_14 : decode cX0_init 14 = .ok (.putfield 15, 3) := by decide +kernel
theorem dX0_init_17 : decode cX0_init 17 = .ok (.return_, 1) := by decide +kernel
theorem dX0_start_0 : decode cX0_start 0 = .ok (.aload_n 0, 1) := by decide +kernel
theorem dX0_start_1 : decode cX0_start 1 = .ok (.getfield 9, 3) := by decide +kernel
theorem dX0_start_4 : decode cX0_start 4 = .ok (.iconst 0, 1) := by decide +kernel
theorem dX0_start_5 : decode cX0_start 5 = .ok (.invokestatic 19, 3) := by decide +kernel
theorem dX0_start_8 : decode cX0_start 8 = .ok (.aload_n 0, 1) := by decide +kernel
theorem dX0_start_9 : decode cX0_start 9 = .ok (.lload_n 1, 1) := by decide +kernel
theorem dX0_start_10 : decode cX0_start 10 = .ok (.putfield 25, 3) := by decide +kernel
theorem dX0_start_13 : decode cX0_start 13 = .ok (.aload_n 0, 1) := by decide +kernel
theorem dX0_start_14 : decode cX0_start 14 = .ok (.iconst 0, 1) := by decide +kernel
theorem dX0_start_15 : decode cX0_start 15 = .ok (.putfield 15, 3) := by decide +kernel
theorem dX0_start_18 : decode cX0_start 18 = .ok (.return_, 1) := by decide +kernel
theorem dX0_isUnderWay_0 : decode cX0_isUnderWay 0 = .ok (.aload_n 0, 1) := by decide +kernel
theorem dX0_isUnderWay_1 : decode cX0_isUnderWay 1 = .ok (.getfield 15, 3) := by decide +kernel
theorem dX0_isUnderWay_4 : decode cX0_isUnderWay 4 = .ok (.ifCond .lt 7, 3) := by decide +kernel
theorem dX0_isUnderWay_7 : decode cX0_isUnderWay 7 = .ok (.iconst 1, 1) := by decide +kernel
theorem dX0_isUnderWay_8 : decode cX0_isUnderWay 8 = .ok (.goto 4, 3) := by decide +kernel
theorem dX0_isUnderWay_11 : decode cX0_isUnderWay 11 = .ok (.iconst 0, 1) := by decide +kernel
theorem dX0_isUnderWay_12 : decode cX0_isUnderWay 12 = .ok (.ireturn, 1) := by decide +kernel
theorem dX0_of_0 : decode cX0_of 0 = .ok (.iload_n 1, 1) := by decide +kernel
theorem dX0_of_1 : decode cX0_of 1 = .ok (.ifCond .lt 29, 3) := by decide +kernel
theorem dX0_of_4 : decode cX0_of 4 = .ok (.iload_n 1, 1) := by decide +kernel
theorem dX0_of_5 : decode cX0_of 5 = .ok (.bipush 40, 2) := by decide +kernel
theorem dX0_of_7 : decode cX0_of 7 = .ok (.if_icmp .ge 23, 3) := by decide +kernel
theorem dX0_of_10 : decode cX0_of 10 = .ok (.aload_n 0, 1) := by decide +kernel
theorem dX0_of_11 : decode cX0_of 11 = .ok (.getfield 25, 3) := by decide +kernel
theorem dX0_of_14 : decode cX0_of 14 = .ok (.iload_n 1, 1) := by decide +kernel
theorem dX0_of_15 : decode cX0_of 15 = .ok (.invokestatic 29, 3) := by decide +kernel
theorem dX0_of_18 : decode cX0_of 18 = .ok (.ifCond .eq 12, 3) := by decide +kernel
theorem dX0_of_21 : decode cX0_of 21 = .ok (.aload_n 0, 1) := by decide +kernel
theorem dX0_of_22 : decode cX0_of 22 = .ok (.getfield 9, 3) := by decide +kernel
theorem dX0_of_25 : decode cX0_of 25 = .ok (.iload_n 1, 1) := by decide +kernel
theorem dX0_of_26 : decode cX0_of 26 = .ok (.iaload, 1) := by decide +kernel
theorem dX0_of_27 : decode cX0_of 27 = .ok (.goto 4, 3) := by decide +kernel
theorem dX0_of_30 : decode cX0_of 30 = .ok (.iconst (-1), 1) := by decide +kernel
theorem dX0_of_31 : decode cX0_of 31 = .ok (.ireturn, 1) := by decide +kernel
theorem dX0_put_0 : decode cX0_put 0 = .ok (.iload_n 1, 1) := by decide +kernel
theorem dX0_put_1 : decode cX0_put 1 = .ok (.ifCond .lt 16, 3) := by decide +kernel
theorem dX0_put_4 : decode cX0_put 4 = .ok (.iload_n 1, 1) := by decide +kernel
theorem dX0_put_5 : decode cX0_put 5 = .ok (.bipush 40, 2) := by decide +kernel
theorem dX0_put_7 : decode cX0_put 7 = .ok (.if_icmp .ge 10, 3) := by decide +kernel
theorem dX0_put_10 : decode cX0_put 10 = .ok (.aload_n 0, 1) := by decide +kernel
theorem dX0_put_11 : decode cX0_put 11 = .ok (.getfield 9, 3) := by decide +kernel
theorem dX0_put_14 : decode cX0_put 14 = .ok (.iload_n 1, 1) := by decide +kernel
theorem dX0_put_15 : decode cX0_put 15 = .ok (.iload_n 2, 1) := by decide +kernel
theorem dX0_put_16 : decode cX0_put 16 = .ok (.iastore, 1) := by decide +kernel
theorem dX0_put_17 : decode cX0_put 17 = .ok (.return_, 1) := by decide +kernel
theorem dX0_release_0 : decode cX0_release 0 = .ok (.aload_n 0, 1) := by decide +kernel
theorem dX0_release_1 : decode cX0_release 1 = .ok (.dup, 1) := by decide +kernel
theorem dX0_release_2 : decode cX0_release 2 = .ok (.getfield 25, 3) := by decide +kernel
theorem dX0_release_5 : decode cX0_release 5 = .ok (.iload_n 1, 1) := by decide +kernel
theorem dX0_release_6 : decode cX0_release 6 = .ok (.invokestatic 33, 3) := by decide +kernel
theorem dX0_release_9 : decode cX0_release 9 = .ok (.ldc2_w 37, 3) := by decide +kernel
theorem dX0_release_12 : decode cX0_release 12 = .ok (.lxor, 1) := by decide +kernel
theorem dX0_release_13 : decode cX0_release 13 = .ok (.land, 1) := by decide +kernel
theorem dX0_release_14 : decode cX0_release 14 = .ok (.putfield 25, 3) := by decide +kernel
theorem dX0_release_17 : decode cX0_release 17 = .ok (.return_, 1) := by decide +kernel
theorem dX0_atZero_0 : decode cX0_atZero 0 = .ok (.lconst 0, 1) := by decide +kernel
theorem dX0_atZero_1 : decode cX0_atZero 1 = .ok (.lstore_n 3, 1) := by decide +kernel
theorem dX0_atZero_2 : decode cX0_atZero 2 = .ok (.iconst 0, 1) := by decide +kernel
theorem dX0_atZero_3 : decode cX0_atZero 3 = .ok (.istore 5, 2) := by decide +kernel
theorem dX0_atZero_5 : decode cX0_atZero 5 = .ok (.iload 5, 2) := by decide +kernel
theorem dX0_atZero_7 : decode cX0_atZero 7 = .ok (.bipush 40, 2) := by decide +kernel
theorem dX0_atZero_9 : decode cX0_atZero 9 = .ok (.if_icmp .ge 41, 3) := by decide +kernel
theorem dX0_atZero_12 : decode cX0_atZero 12 = .ok (.lload_n 1, 1) := by decide +kernel
theorem dX0_atZero_13 : decode cX0_atZero 13 = .ok (.aload_n 0, 1) := by decide +kernel
theorem dX0_atZero_14 : decode cX0_atZero 14 = .ok (.getfield 25, 3) := by decide +kernel
theorem dX0_atZero_17 : decode cX0_atZero 17 = .ok (.land, 1) := by decide +kernel
theorem dX0_atZero_18 : decode cX0_atZero 18 = .ok (.iload 5, 2) := by decide +kernel
theorem dX0_atZero_20 : decode cX0_atZero 20 = .ok (.invokestatic 29, 3) := by decide +kernel
theorem dX0_atZero_23 : decode cX0_atZero 23 = .ok (.ifCond .eq 21, 3) := by decide +kernel
theorem dX0_atZero_26 : decode cX0_atZero 26 = .ok (.aload_n 0, 1) := by decide +kernel
theorem dX0_atZero_27 : decode cX0_atZero 27 = .ok (.getfield 9, 3) := by decide +kernel
theorem dX0_atZero_30 : decode cX0_atZero 30 = .ok (.iload 5, 2) := by decide +kernel
theorem dX0_atZero_32 : decode cX0_atZero 32 = .ok (.iaload, 1) := by decide +kernel
theorem dX0_atZero_33 : decode cX0_atZero 33 = .ok (.ifCond .ne 11, 3) := by decide +kernel
theorem dX0_atZero_36 : decode cX0_atZero 36 = .ok (.lload_n 3, 1) := by decide +kernel
theorem dX0_atZero_37 : decode cX0_atZero 37 = .ok (.iload 5, 2) := by decide +kernel
theorem dX0_atZero_39 : decode cX0_atZero 39 = .ok (.invokestatic 33, 3) := by decide +kernel
theorem dX0_atZero_42 : decode cX0_atZero 42 = .ok (.lor, 1) := by decide +kernel
theorem dX0_atZero_43 : decode cX0_atZero 43 = .ok (.lstore_n 3, 1) := by decide +kernel
theorem dX0_atZero_44 : decode cX0_atZero 44 = .ok (.iinc 5 1, 3) := by decide +kernel
theorem dX0_atZero_47 : decode cX0_atZero 47 = .ok (.goto (-42), 3) := by decide +kernel
theorem dX0_atZero_50 : decode cX0_atZero 50 = .ok (.lload_n 3, 1) := by decide +kernel
theorem dX0_atZero_51 : decode cX0_atZero 51 = .ok (.lreturn, 1) := by decide +kernel
theorem dX0_shift_0 : decode cX0_shift 0 = .ok (.iconst 0, 1) := by decide +kernel
theorem dX0_shift_1 : decode cX0_shift 1 = .ok (.istore 4, 2) := by decide +kernel
theorem dX0_shift_3 : decode cX0_shift 3 = .ok (.iload 4, 2) := by decide +kernel
theorem dX0_shift_5 : decode cX0_shift 5 = .ok (.bipush 40, 2) := by decide +kernel
theorem dX0_shift_7 : decode cX0_shift 7 = .ok (.if_icmp .ge 43, 3) := by decide +kernel
theorem dX0_shift_10 : decode cX0_shift 10 = .ok (.lload_n 1, 1) := by decide +kernel
theorem dX0_shift_11 : decode cX0_shift 11 = .ok (.aload_n 0, 1) := by decide +kernel
theorem dX0_shift_12 : decode cX0_shift 12 = .ok (.getfield 25, 3) := by decide +kernel
theorem dX0_shift_15 : decode cX0_shift 15 = .ok (.land, 1) := by decide +kernel
theorem dX0_shift_16 : decode cX0_shift 16 = .ok (.iload 4, 2) := by decide +kernel
theorem dX0_shift_18 : decode cX0_shift 18 = .ok (.invokestatic 29, 3) := by decide +kernel
theorem dX0_shift_21 : decode cX0_shift 21 = .ok (.ifCond .eq 23, 3) := by decide +kernel
theorem dX0_shift_24 : decode cX0_shift 24 = .ok (.aload_n 0, 1) := by decide +kernel
theorem dX0_shift_25 : decode cX0_shift 25 = .ok (.getfield 9, 3) := by decide +kernel
theorem dX0_shift_28 : decode cX0_shift 28 = .ok (.iload 4, 2) := by decide +kernel
theorem dX0_shift_30 : decode cX0_shift 30 = .ok (.iconst 0, 1) := by decide +kernel
theorem dX0_shift_31 : decode cX0_shift 31 = .ok (.aload_n 0, 1) := by decide +kernel
theorem dX0_shift_32 : decode cX0_shift 32 = .ok (.getfield 9, 3) := by decide +kernel
theorem dX0_shift_35 : decode cX0_shift 35 = .ok (.iload 4, 2) := by decide +kernel
theorem dX0_shift_37 : decode cX0_shift 37 = .ok (.iaload, 1) := by decide +kernel
theorem dX0_shift_38 : decode cX0_shift 38 = .ok (.iload_n 3, 1) := by decide +kernel
theorem dX0_shift_39 : decode cX0_shift 39 = .ok (.iadd, 1) := by decide +kernel
theorem dX0_shift_40 : decode cX0_shift 40 = .ok (.invokestatic 39, 3) := by decide +kernel
theorem dX0_shift_43 : decode cX0_shift 43 = .ok (.iastore, 1) := by decide +kernel
theorem dX0_shift_44 : decode cX0_shift 44 = .ok (.iinc 4 1, 3) := by decide +kernel
theorem dX0_shift_47 : decode cX0_shift 47 = .ok (.goto (-44), 3) := by decide +kernel
theorem dX0_shift_50 : decode cX0_shift 50 = .ok (.aload_n 0, 1) := by decide +kernel
theorem dX0_shift_51 : decode cX0_shift 51 = .ok (.dup, 1) := by decide +kernel
theorem dX0_shift_52 : decode cX0_shift 52 = .ok (.getfield 15, 3) := by decide +kernel
theorem dX0_shift_55 : decode cX0_shift 55 = .ok (.iload_n 3, 1) := by decide +kernel
theorem dX0_shift_56 : decode cX0_shift 56 = .ok (.iadd, 1) := by decide +kernel
theorem dX0_shift_57 : decode cX0_shift 57 = .ok (.putfield 15, 3) := by decide +kernel
theorem dX0_shift_60 : decode cX0_shift 60 = .ok (.return_, 1) := by decide +kernel
theorem dX0_copyFrom_0 : decode cX0_copyFrom 0 = .ok (.aload_n 1, 1) := by decide +kernel
theorem dX0_copyFrom_1 : decode cX0_copyFrom 1 = .ok (.getfield 9, 3) := by decide +kernel
theorem dX0_copyFrom_4 : decode cX0_copyFrom 4 = .ok (.iconst 0, 1) := by decide +kernel
theorem dX0_copyFrom_5 : decode cX0_copyFrom 5 = .ok (.aload_n 0, 1) := by decide +kernel
theorem dX0_copyFrom_6 : decode cX0_copyFrom 6 = .ok (.getfield 9, 3) := by decide +kernel
theorem dX0_copyFrom_9 : decode cX0_copyFrom 9 = .ok (.iconst 0, 1) := by decide +kernel
theorem dX0_copyFrom_10 : decode cX0_copyFrom 10 = .ok (.bipush 40, 2) := by decide +kernel
theorem dX0_copyFrom_12 : decode cX0_copyFrom 12 = .ok (.invokestatic 45, 3) := by decide +kernel
theorem dX0_copyFrom_15 : decode cX0_copyFrom 15 = .ok (.aload_n 0, 1) := by decide +kernel
theorem dX0_copyFrom_16 : decode cX0_copyFrom 16 = .ok (.aload_n 1, 1) := by decide +kernel
theorem dX0_copyFrom_17 : decode cX0_copyFrom 17 = .ok (.getfield 25, 3) := by decide +kernel
theorem dX0_copyFrom_20 : decode cX0_copyFrom 20 = .ok (.putfield 25, 3) := by decide +kernel
theorem dX0_copyFrom_23 : decode cX0_copyFrom 23 = .ok (.aload_n 0, 1) := by decide +kernel
theorem dX0_copyFrom_24 : decode cX0_copyFrom 24 = .ok (.aload_n 1, 1) := by decide +kernel
theorem dX0_copyFrom_25 : decode cX0_copyFrom 25 = .ok (.getfield 15, 3) := by decide +kernel
theorem dX0_copyFrom_28 : decode cX0_copyFrom 28 = .ok (.putfield 15, 3) := by decide +kernel
theorem dX0_copyFrom_31 : decode cX0_copyFrom 31 = .ok (.return_, 1) := by decide +kernel
theorem dX1_init_0 : decode cX1_init 0 = .ok (.aload_n 0, 1) := by decide +kernel
theorem dX1_init_1 : decode cX1_init 1 = .ok (.invokespecial 3, 3) := by decide +kernel
theorem dX1_init_4 : decode cX1_init 4 = .ok (.aload_n 0, 1) := by decide +kernel
theorem dX1_init_5 : decode cX1_init 5 = .ok (.bipush 20, 2) := by decide +kernel
theorem dX1_init_7 : decode cX1_init 7 = .ok (.newarray .long, 2) := by decide +kernel
theorem dX1_init_9 : decode cX1_init 9 = .ok (.putfield 9, 3) := by decide +kernel
theorem dX1_init_12 : decode cX1_init 12 = .ok (.aload_n 0, 1) := by decide +kernel
theorem dX1_init_13 : decode cX1_init 13 = .ok (.bipush 20, 2) := by decide +kernel
theorem dX1_init_15 : decode cX1_init 15 = .ok (.newarray .long, 2) := by decide +kernel
theorem dX1_init_17 : decode cX1_init 17 = .ok (.putfield 15, 3) := by decide +kernel
theorem dX1_init_20 : decode cX1_init 20 = .ok (.return_, 1) := by decide +kernel
theorem dX1_admit_0 : decode cX1_admit 0 = .ok (.aload_n 0, 1) := by decide +kernel
theorem dX1_admit_1 : decode cX1_admit 1 = .ok (.getfield 18, 3) := by decide +kernel
theorem dX1_admit_4 : decode cX1_admit 4 = .ok (.bipush 20, 2) := by decide +kernel
theorem dX1_admit_6 : decode cX1_admit 6 = .ok (.if_icmp .ge 23, 3) := by decide +kernel
theorem dX1_admit_9 : decode cX1_admit 9 = .ok (.aload_n 0, 1) := by decide +kernel
theorem dX1_admit_10 : decode cX1_admit 10 = .ok (.getfield 15, 3) := by decide +kernel
theorem dX1_admit_13 : decode cX1_admit 13 = .ok (.aload_n 0, 1) := by decide +kernel
theorem dX1_admit_14 : decode cX1_admit 14 = .ok (.getfield 18, 3) := by decide +kernel
theorem dX1_admit_17 : decode cX1_admit 17 = .ok (.lload_n 1, 1) := by decide +kernel
theorem dX1_admit_18 : decode cX1_admit 18 = .ok (.lastore, 1) := by decide +kernel
theorem dX1_admit_19 : decode cX1_admit 19 = .ok (.aload_n 0, 1) := by decide +kernel
theorem dX1_admit_20 : decode cX1_admit 20 = .ok (.dup, 1) := by decide +kernel
theorem dX1_admit_21 : decode cX1_admit 21 = .ok (.getfield 18, 3) := by decide +kernel
theorem dX1_admit_24 : decode cX1_admit 24 = .ok (.iconst 1, 1) := by decide +kernel
theorem dX1_admit_25 : decode cX1_admit 25 = .ok (.iadd, 1) := by decide +kernel
theorem dX1_admit_26 : decode cX1_admit 26 = .ok (.putfield 18, 3) := by decide +kernel
theorem dX1_admit_29 : decode cX1_admit 29 = .ok (.return_, 1) := by decide +kernel
theorem dX1_at_0 : decode cX1_at 0 = .ok (.iload_n 1, 1) := by decide +kernel
theorem dX1_at_1 : decode cX1_at 1 = .ok (.ifCond .lt 20, 3) := by decide +kernel
theorem dX1_at_4 : decode cX1_at 4 = .ok (.iload_n 1, 1) := by decide +kernel
theorem dX1_at_5 : decode cX1_at 5 = .ok (.aload_n 0, 1) := by decide +kernel
theorem dX1_at_6 : decode cX1_at 6 = .ok (.getfield 22, 3) := by decide +kernel
theorem dX1_at_9 : decode cX1_at 9 = .ok (.if_icmp .ge 12, 3) := by decide +kernel
theorem dX1_at_12 : decode cX1_at 12 = .ok (.aload_n 0, 1) := by decide +kernel
theorem dX1_at_13 : decode cX1_at 13 = .ok (.getfield 9, 3) := by decide +kernel
theorem dX1_at_16 : decode cX1_at 16 = .ok (.iload_n 1, 1) := by decide +kernel
theorem dX1_at_17 : decode cX1_at 17 = .ok (.laload, 1) := by decide +kernel
theorem dX1_at_18 : decode cX1_at 18 = .ok (.goto 4, 3) := by decide +kernel
theorem dX1_at_21 : decode cX1_at 21 = .ok (.lconst 0, 1) := by decide +kernel
theorem dX1_at_22 : decode cX1_at 22 = .ok (.lreturn, 1) := by decide +kernel
theorem dX1_turn_0 : decode cX1_turn 0 = .ok (.aload_n 0, 1) := by decide +kernel
theorem dX1_turn_1 : decode cX1_turn 1 = .ok (.getfield 15, 3) := by decide +kernel
theorem dX1_turn_4 : decode cX1_turn 4 = .ok (.iconst 0, 1) := by decide +kernel
theorem dX1_turn_5 : decode cX1_turn 5 = .ok (.aload_n 0, 1) := by decide +kernel
theorem dX1_turn_6 : decode cX1_turn 6 = .ok (.getfield 9, 3) := by decide +kernel
theorem dX1_turn_9 : decode cX1_turn 9 = .ok (.iconst 0, 1) := by decide +kernel
theorem dX1_turn_10 : decode cX1_turn 10 = .ok (.aload_n 0, 1) := by decide +kernel
theorem dX1_turn_11 : decode cX1_turn 11 = .ok (.getfield 18, 3) := by decide +kernel
theorem dX1_turn_14 : decode cX1_turn 14 = .ok (.invokestatic 25, 3) := by decide +kernel
theorem dX1_turn_17 : decode cX1_turn 17 = .ok (.aload_n 0, 1) := by decide +kernel
theorem dX1_turn_18 : decode cX1_turn 18 = .ok (.aload_n 0, 1) := by decide +kernel
theorem dX1_turn_19 : decode cX1_turn 19 = .ok (.getfield 18, 3) := by decide +kernel
theorem dX1_turn_22 : decode cX1_turn 22 = .ok (.putfield 22, 3) := by decide +kernel
theorem dX1_turn_25 : decode cX1_turn 25 = .ok (.aload_n 0, 1) := by decide +kernel
theorem dX1_turn_26 : decode cX1_turn 26 = .ok (.iconst 0, 1) := by decide +kernel
theorem dX1_turn_27 : decode cX1_turn 27 = .ok (.putfield 18, 3) := by decide +kernel
theorem dX1_turn_30 : decode cX1_turn 30 = .ok (.return_, 1) := by decide +kernel
theorem dX2_init_0 : decode cX2_init 0 = .ok (.aload_n 0, 1) := by decide +kernel
theorem dX2_init_1 : decode cX2_init 1 = .ok (.invokespecial 3, 3) := by decide +kernel
theorem dX2_init_4 : decode cX2_init 4 = .ok (.return_, 1) := by decide +kernel
theorem dX2_startOne_0 : decode cX2_startOne 0 = .ok (.aload_n 0, 1) := by decide +kernel
theorem dX2_startOne_1 : decode cX2_startOne 1 = .ok (.iconst 0, 1) := by decide +kernel
theorem dX2_startOne_2 : decode cX2_startOne 2 = .ok (.putfield 9, 3) := by decide +kernel
theorem dX2_startOne_5 : decode cX2_startOne 5 = .ok (.aload_n 0, 1) := by decide +kernel
theorem dX2_startOne_6 : decode cX2_startOne 6 = .ok (.iconst 0, 1) := by decide +kernel
theorem dX2_startOne_7 : decode cX2_startOne 7 = .ok (.putfield 15, 3) := by decide +kernel
theorem dX2_startOne_10 : decode cX2_startOne 10 = .ok (.aload_n 0, 1) := by decide +kernel
theorem dX2_startOne_11 : decode cX2_startOne 11 = .ok (.iconst 0, 1) := by decide +kernel
theorem dX2_startOne_12 : decode cX2_startOne 12 = .ok (.putfield 18, 3) := by decide +kernel
theorem dX2_startOne_15 : decode cX2_startOne 15 = .ok (.return_, 1) := by decide +kernel
theorem dX2_note_0 : decode cX2_note 0 = .ok (.iload_n 1, 1) := by decide +kernel
theorem dX2_note_1 : decode cX2_note 1 = .ok (.ifCond .ne 16, 3) := by decide +kernel
theorem dX2_note_4 : decode cX2_note 4 = .ok (.aload_n 0, 1) := by decide +kernel
theorem dX2_note_5 : decode cX2_note 5 = .ok (.dup, 1) := by decide +kernel
theorem dX2_note_6 : decode cX2_note 6 = .ok (.getfield 9, 3) := by decide +kernel
theorem dX2_note_9 : decode cX2_note 9 = .ok (.iconst 1, 1) := by decide +kernel
theorem dX2_note_10 : decode cX2_note 10 = .ok (.iadd, 1) := by decide +kernel
theorem dX2_note_11 : decode cX2_note 11 = .ok (.putfield 9, 3) := by decide +kernel
theorem dX2_note_14 : decode cX2_note 14 = .ok (.goto 31, 3) := by decide +kernel
theorem dX2_note_17 : decode cX2_note 17 = .ok (.iload_n 1, 1) := by decide +kernel
theorem dX2_note_18 : decode cX2_note 18 = .ok (.iconst 1, 1) := by decide +kernel
theorem dX2_note_19 : decode cX2_note 19 = .ok (.if_icmp .ne 16, 3) := by decide +kernel
theorem dX2_note_22 : decode cX2_note 22 = .ok (.aload_n 0, 1) := by decide +kernel
theorem dX2_note_23 : decode cX2_note 23 = .ok (.dup, 1) := by decide +kernel
theorem dX2_note_24 : decode cX2_note 24 = .ok (.getfield 15, 3) := by decide +kernel
theorem dX2_note_27 : decode cX2_note 27 = .ok (.iconst 1, 1) := by decide +kernel
theorem dX2_note_28 : decode cX2_note 28 = .ok (.iadd, 1) := by decide +kernel
theorem dX2_note_29 : decode cX2_note 29 = .ok (.putfield 15, 3) := by decide +kernel
theorem dX2_note_32 : decode cX2_note 32 = .ok (.goto 13, 3) := by decide +kernel
theorem dX2_note_35 : decode cX2_note 35 = .ok (.aload_n 0, 1) := by decide +kernel
theorem dX2_note_36 : decode cX2_note 36 = .ok (.dup, 1) := by decide +kernel
theorem dX2_note_37 : decode cX2_note 37 = .ok (.getfield 18, 3) := by decide +kernel
theorem dX2_note_40 : decode cX2_note 40 = .ok (.iconst 1, 1) := by decide +kernel
theorem dX2_note_41 : decode cX2_note 41 = .ok (.iadd, 1) := by decide +kernel
theorem dX2_note_42 : decode cX2_note 42 = .ok (.putfield 18, 3) := by decide +kernel
theorem dX2_note_45 : decode cX2_note 45 = .ok (.return_, 1) := by decide +kernel
theorem dX2_guessNext_0 : decode cX2_guessNext 0 = .ok (.ldc 21, 2) := by decide +kernel
theorem dX2_guessNext_2 : decode cX2_guessNext 2 = .ok (.aload_n 0, 1) := by decide +kernel
theorem dX2_guessNext_3 : decode cX2_guessNext 3 = .ok (.getfield 18, 3) := by decide +kernel
theorem dX2_guessNext_6 : decode cX2_guessNext 6 = .ok (.i2f, 1) := by decide +kernel
theorem dX2_guessNext_7 : decode cX2_guessNext 7 = .ok (.fmul, 1) := by decide +kernel
theorem dX2_guessNext_8 : decode cX2_guessNext 8 = .ok (.f2i, 1) := by decide +kernel
theorem dX2_guessNext_9 : decode cX2_guessNext 9 = .ok (.istore_n 1, 1) := by decide +kernel
theorem dX2_guessNext_10 : decode cX2_guessNext 10 = .ok (.aload_n 0, 1) := by decide +kernel
theorem dX2_guessNext_11 : decode cX2_guessNext 11 = .ok (.iconst 1, 1) := by decide +kernel
theorem dX2_guessNext_12 : decode cX2_guessNext 12 = .ok (.bipush 64, 2) := by decide +kernel
theorem dX2_guessNext_14 : decode cX2_guessNext 14 = .ok (.iload_n 1, 1) := by decide +kernel
theorem dX2_guessNext_15 : decode cX2_guessNext 15 = .ok (.invokestatic 22, 3) := by decide +kernel
theorem dX2_guessNext_18 : decode cX2_guessNext 18 = .ok (.invokestatic 28, 3) := by decide +kernel
theorem dX2_guessNext_21 : decode cX2_guessNext 21 = .ok (.putfield 31, 3) := by decide +kernel
theorem dX2_guessNext_24 : decode cX2_guessNext 24 = .ok (.return_, 1) := by decide +kernel
theorem dX2_copyFrom_0 : decode cX2_copyFrom 0 = .ok (.aload_n 0, 1) := by decide +kernel
theorem dX2_copyFrom_1 : decode cX2_copyFrom 1 = .ok (.aload_n 1, 1) := by decide +kernel
theorem dX2_copyFrom_2 : decode cX2_copyFrom 2 = .ok (.getfield 34, 3) := by decide +kernel
theorem dX2_copyFrom_5 : decode cX2_copyFrom 5 = .ok (.putfield 34, 3) := by decide +kernel
theorem dX2_copyFrom_8 : decode cX2_copyFrom 8 = .ok (.aload_n 0, 1) := by decide +kernel
theorem dX2_copyFrom_9 : decode cX2_copyFrom 9 = .ok (.aload_n 1, 1) := by decide +kernel
theorem dX2_copyFrom_10 : decode cX2_copyFrom 10 = .ok (.getfield 9, 3) := by decide +kernel
theorem dX2_copyFrom_13 : decode cX2_copyFrom 13 = .ok (.putfield 9, 3) := by decide +kernel
theorem dX2_copyFrom_16 : decode cX2_copyFrom 16 = .ok (.aload_n 0, 1) := by decide +kernel
theorem dX2_copyFrom_17 : decode cX2_copyFrom 17 = .ok (.aload_n 1, 1) := by decide +kernel
theorem dX2_copyFrom_18 : decode cX2_copyFrom 18 = .ok (.getfield 15, 3) := by decide +kernel
theorem dX2_copyFrom_21 : decode cX2_copyFrom 21 = .ok (.putfield 15, 3) := by decide +kernel
theorem dX2_copyFrom_24 : decode cX2_copyFrom 24 = .ok (.aload_n 0, 1) := by decide +kernel
theorem dX2_copyFrom_25 : decode cX2_copyFrom 25 = .ok (.aload_n 1, 1) := by decide +kernel
theorem dX2_copyFrom_26 : decode cX2_copyFrom 26 = .ok (.getfield 18, 3) := by decide +kernel
theorem dX2_copyFrom_29 : decode cX2_copyFrom 29 = .ok (.putfield 18, 3) := by decide +kernel
theorem dX2_copyFrom_32 : decode cX2_copyFrom 32 = .ok (.aload_n 0, 1) := by decide +kernel
theorem dX2_copyFrom_33 : decode cX2_copyFrom 33 = .ok (.aload_n 1, 1) := by decide +kernel
theorem dX2_copyFrom_34 : decode cX2_copyFrom 34 = .ok (.getfield 31, 3) := by decide +kernel
theorem dX2_copyFrom_37 : decode cX2_copyFrom 37 = .ok (.putfield 31, 3) := by decide +kernel
theorem dX2_copyFrom_40 : decode cX2_copyFrom 40 = .ok (.return_, 1) := by decide +kernel
theorem dX3_init_0 : decode cX3_init 0 = .ok (.aload_n 0, 1) := by decide +kernel
theorem dX3_init_1 : decode cX3_init 1 = .ok (.invokespecial 3, 3) := by decide +kernel
theorem dX3_init_4 : decode cX3_init 4 = .ok (.aload_n 0, 1) := by decide +kernel
theorem dX3_init_5 : decode cX3_init 5 = .ok (.iconst (-1), 1) := by decide +kernel
theorem dX3_init_6 : decode cX3_init 6 = .ok (.putfield 9, 3) := by decide +kernel
theorem dX3_init_9 : decode cX3_init 9 = .ok (.return_, 1) := by decide +kernel
theorem dX3_wayIsOneAt_0 : decode cX3_wayIsOneAt 0 = .ok (.iload_n 1, 1) := by decide +kernel
theorem dX3_wayIsOneAt_1 : decode cX3_wayIsOneAt 1 = .ok (.aload_n 0, 1) := by decide +kernel
theorem dX3_wayIsOneAt_2 : decode cX3_wayIsOneAt 2 = .ok (.getfield 9, 3) := by decide +kernel
theorem dX3_wayIsOneAt_5 : decode cX3_wayIsOneAt 5 = .ok (.if_icmp .ge 12, 3) := by decide +kernel
theorem dX3_wayIsOneAt_8 : decode cX3_wayIsOneAt 8 = .ok (.aload_n 0, 1) := by decide +kernel
theorem dX3_wayIsOneAt_9 : decode cX3_wayIsOneAt 9 = .ok (.getfield 15, 3) := by decide +kernel
theorem dX3_wayIsOneAt_12 : decode cX3_wayIsOneAt 12 = .ok (.iload_n 1, 1) := by decide +kernel
theorem dX3_wayIsOneAt_13 : decode cX3_wayIsOneAt 13 = .ok (.invokestatic 19, 3) := by decide +kernel
theorem dX3_wayIsOneAt_16 : decode cX3_wayIsOneAt 16 = .ok (.ireturn, 1) := by decide +kernel
theorem dX3_wayIsOneAt_17 : decode cX3_wayIsOneAt 17 = .ok (.iload_n 1, 1) := by decide +kernel
theorem dX3_wayIsOneAt_18 : decode cX3_wayIsOneAt 18 = .ok (.aload_n 0, 1) := by decide +kernel
theorem dX3_wayIsOneAt_19 : decode cX3_wayIsOneAt 19 = .ok (.getfield 9, 3) := by decide +kernel
theorem dX3_wayIsOneAt_22 : decode cX3_wayIsOneAt 22 = .ok (.if_icmp .ne 7, 3) := by decide +kernel
theorem dX3_wayIsOneAt_25 : decode cX3_wayIsOneAt 25 = .ok (.iconst 1, 1) := by decide +kernel
theorem dX3_wayIsOneAt_26 : decode cX3_wayIsOneAt 26 = .ok (.goto 4, 3) := by decide +kernel
theorem dX3_wayIsOneAt_29 : decode cX3_wayIsOneAt 29 = .ok (.iconst 0, 1) := by decide +kernel
theorem dX3_wayIsOneAt_30 : decode cX3_wayIsOneAt 30 = .ok (.ireturn, 1) := by decide +kernel
theorem dX3_goOnFrom_0 : decode cX3_goOnFrom 0 = .ok (.iload_n 1, 1) := by decide +kernel
theorem dX3_goOnFrom_1 : decode cX3_goOnFrom 1 = .ok (.iconst (-1), 1) := by decide +kernel
theorem dX3_goOnFrom_2 : decode cX3_goOnFrom 2 = .ok (.if_icmp .ne 8, 3) := by decide +kernel
theorem dX3_goOnFrom_5 : decode cX3_goOnFrom 5 = .ok (.aload_n 0, 1) := by decide +kernel
theorem dX3_goOnFrom_6 : decode cX3_goOnFrom 6 = .ok (.invokevirtual 23, 3) := by decide +kernel
theorem dX3_goOnFrom_9 : decode cX3_goOnFrom 9 = .ok (.return_, 1) := by decide +kernel
theorem dX3_goOnFrom_10 : decode cX3_goOnFrom 10 = .ok (.aload_n 0, 1) := by decide +kernel
theorem dX3_goOnFrom_11 : decode cX3_goOnFrom 11 = .ok (.iload_n 1, 1) := by decide +kernel
theorem dX3_goOnFrom_12 : decode cX3_goOnFrom 12 = .ok (.putfield 9, 3) := by decide +kernel
theorem dX3_goOnFrom_15 : decode cX3_goOnFrom 15 = .ok (.aload_n 0, 1) := by decide +kernel
theorem dX3_goOnFrom_16 : decode cX3_goOnFrom 16 = .ok (.lload_n 2, 1) := by decide +kernel
theorem dX3_goOnFrom_17 : decode cX3_goOnFrom 17 = .ok (.putfield 15, 3) := by decide +kernel
theorem dX3_goOnFrom_20 : decode cX3_goOnFrom 20 = .ok (.aload_n 0, 1) := by decide +kernel
theorem dX3_goOnFrom_21 : decode cX3_goOnFrom 21 = .ok (.dup, 1) := by decide +kernel
theorem dX3_goOnFrom_22 : decode cX3_goOnFrom 22 = .ok (.getfield 26, 3) := by decide +kernel
theorem dX3_goOnFrom_25 : decode cX3_goOnFrom 25 = .ok (.iconst 1, 1) := by decide +kernel
theorem dX3_goOnFrom_26 : decode cX3_goOnFrom 26 = .ok (.iadd, 1) := by decide +kernel
theorem dX3_goOnFrom_27 : decode cX3_goOnFrom 27 = .ok (.putfield 26, 3) := by decide +kernel
theorem dX3_goOnFrom_30 : decode cX3_goOnFrom 30 = .ok (.return_, 1) := by decide +kernel
theorem dX3_endRow_0 : decode cX3_endRow 0 = .ok (.aload_n 0, 1) := by decide +kernel
theorem dX3_endRow_1 : decode cX3_endRow 1 = .ok (.iconst (-1), 1) := by decide +kernel
theorem dX3_endRow_2 : decode cX3_endRow 2 = .ok (.putfield 9, 3) := by decide +kernel
theorem dX3_endRow_5 : decode cX3_endRow 5 = .ok (.aload_n 0, 1) := by decide +kernel
theorem dX3_endRow_6 : decode cX3_endRow 6 = .ok (.iconst 0, 1) := by decide +kernel
theorem dX3_endRow_7 : decode cX3_endRow 7 = .ok (.putfield 26, 3) := by decide +kernel
theorem dX3_endRow_10 : decode cX3_endRow 10 = .ok (.return_, 1) := by decide +kernel
theorem dX3_copyFrom_0 : decode cX3_copyFrom 0 = .ok (.aload_n 0, 1) := by decide +kernel
theorem dX3_copyFrom_1 : decode cX3_copyFrom 1 = .ok (.aload_n 1, 1) := by decide +kernel
theorem dX3_copyFrom_2 : decode cX3_copyFrom 2 = .ok (.getfield 9, 3) := by decide +kernel
theorem dX3_copyFrom_5 : decode cX3_copyFrom 5 = .ok (.putfield 9, 3) := by decide +kernel
theorem dX3_copyFrom_8 : decode cX3_copyFrom 8 = .ok (.aload_n 0, 1) := by decide +kernel
theorem dX3_copyFrom_9 : decode cX3_copyFrom 9 = .ok (.aload_n 1, 1) := by decide +kernel
theorem dX3_copyFrom_10 : decode cX3_copyFrom 10 = .ok (.getfield 26, 3) := by decide +kernel
theorem dX3_copyFrom_13 : decode cX3_copyFrom 13 = .ok (.putfield 26, 3) := by decide +kernel
theorem dX3_copyFrom_16 : decode cX3_copyFrom 16 = .ok (.aload_n 0, 1) := by decide +kernel
theorem dX3_copyFrom_17 : decode cX3_copyFrom 17 = .ok (.aload_n 1, 1) := by decide +kernel
theorem dX3_copyFrom_18 : decode cX3_copyFrom 18 = .ok (.getfield 15, 3) := by decide +kernel
theorem dX3_copyFrom_21 : decode cX3_copyFrom 21 = .ok (.putfield 15, 3) := by decide +kernel
theorem dX3_copyFrom_24 : decode cX3_copyFrom 24 = .ok (.return_, 1) := by decide +kernel
theorem dX4_init_0 : decode cX4_init 0 = .ok (.aload_n 0, 1) := by decide +kernel
theorem dX4_init_1 : decode cX4_init 1 = .ok (.invokespecial 3, 3) := by decide +kernel
theorem dX4_init_4 : decode cX4_init 4 = .ok (.aload_n 0, 1) := by decide +kernel
theorem dX4_init_5 : decode cX4_init 5 = .ok (.bipush 65, 2) := by decide +kernel
theorem dX4_init_7 : decode cX4_init 7 = .ok (.newarray .long, 2) := by decide +kernel
theorem dX4_init_9 : decode cX4_init 9 = .ok (.putfield 11, 3) := by decide +kernel
theorem dX4_init_12 : decode cX4_init 12 = .ok (.aload_n 0, 1) := by decide +kernel
theorem dX4_init_13 : decode cX4_init 13 = .ok (.bipush 65, 2) := by decide +kernel
theorem dX4_init_15 : decode cX4_init 15 = .ok (.newarray .int, 2) := by decide +kernel
theorem dX4_init_17 : decode cX4_init 17 = .ok (.putfield 15, 3) := by decide +kernel
theorem dX4_init_20 : decode cX4_init 20 = .ok (.return_, 1) := by decide +kernel
theorem dX4_startAnew_0 : decode cX4_startAnew 0 = .ok (.aload_n 0, 1) := by decide +kernel
theorem dX4_startAnew_1 : decode cX4_startAnew 1 = .ok (.iconst 0, 1) := by decide +kernel
theorem dX4_startAnew_2 : decode cX4_startAnew 2 = .ok (.putfield 19, 3) := by decide +kernel
theorem dX4_startAnew_5 : decode cX4_startAnew 5 = .ok (.aload_n 0, 1) := by decide +kernel
theorem dX4_startAnew_6 : decode cX4_startAnew 6 = .ok (.lconst 0, 1) := by decide +kernel
theorem dX4_startAnew_7 : decode cX4_startAnew 7 = .ok (.iconst 0, 1) := by decide +kernel
theorem dX4_startAnew_8 : decode cX4_startAnew 8 = .ok (.invokevirtual 23, 3) := by decide +kernel
theorem dX4_startAnew_11 : decode cX4_startAnew 11 = .ok (.return_, 1) := by decide +kernel
theorem dX4_topRow_0 : decode cX4_topRow 0 = .ok (.aload_n 0, 1) := by decide +kernel
theorem dX4_topRow_1 : decode cX4_topRow 1 = .ok (.getfield 19, 3) := by decide +kernel
theorem dX4_topRow_4 : decode cX4_topRow 4 = .ok (.ifCond .le 17, 3) := by decide +kernel
theorem dX4_topRow_7 : decode cX4_topRow 7 = .ok (.aload_n 0, 1) := by decide +kernel
theorem dX4_topRow_8 : decode cX4_topRow 8 = .ok (.getfield 11, 3) := by decide +kernel
theorem dX4_topRow_11 : decode cX4_topRow 11 = .ok (.aload_n 0, 1) := by decide +kernel
theorem dX4_topRow_12 : decode cX4_topRow 12 = .ok (.getfield 19, 3) := by decide +kernel
theorem dX4_topRow_15 : decode cX4_topRow 15 = .ok (.iconst 1, 1) := by decide +kernel
theorem dX4_topRow_16 : decode cX4_topRow 16 = .ok (.isub, 1) := by decide +kernel
theorem dX4_topRow_17 : decode cX4_topRow 17 = .ok (.laload, 1) := by decide +kernel
theorem dX4_topRow_18 : decode cX4_topRow 18 = .ok (.goto 4, 3) := by decide +kernel
theorem dX4_topRow_21 : decode cX4_topRow 21 = .ok (.lconst 0, 1) := by decide +kernel
theorem dX4_topRow_22 : decode cX4_topRow 22 = .ok (.lreturn, 1) := by decide +kernel
theorem dX4_topLength_0 : decode cX4_topLength 0 = .ok (.aload_n 0, 1) := by decide +kernel
theorem dX4_topLength_1 : decode cX4_topLength 1 = .ok (.getfield 19, 3) := by decide +kernel
theorem dX4_topLength_4 : decode cX4_topLength 4 = .ok (.ifCond .le 17, 3) := by decide +kernel
theorem dX4_topLength_7 : decode cX4_topLength 7 = .ok (.aload_n 0, 1) := by decide +kernel
theorem dX4_topLength_8 : decode cX4_topLength 8 = .ok (.getfield 15, 3) := by decide +kernel
theorem dX4_topLength_11 : decode cX4_topLength 11 = .ok (.aload_n 0, 1) := by decide +kernel
theorem dX4_topLength_12 : decode cX4_topLength 12 = .ok (.getfield 19, 3) := by decide +kernel
theorem dX4_topLength_15 : decode cX4_topLength 15 = .ok (.iconst 1, 1) := by decide +kernel
theorem dX4_topLength_16 : decode cX4_topLength 16 = .ok (.isub, 1) := by decide +kernel
theorem dX4_topLength_17 : decode cX4_topLength 17 = .ok (.iaload, 1) := by decide +kernel
theorem dX4_topLength_18 : decode cX4_topLength 18 = .ok (.goto 4, 3) := by decide +kernel
theorem dX4_topLength_21 : decode cX4_topLength 21 = .ok (.iconst 0, 1) := by decide +kernel
theorem dX4_topLength_22 : decode cX4_topLength 22 = .ok (.ireturn, 1) := by decide +kernel
theorem dX4_dropTop_0 : decode cX4_dropTop 0 = .ok (.aload_n 0, 1) := by decide +kernel
theorem dX4_dropTop_1 : decode cX4_dropTop 1 = .ok (.getfield 19, 3) := by decide +kernel
theorem dX4_dropTop_4 : decode cX4_dropTop 4 = .ok (.ifCond .le 13, 3) := by decide +kernel
theorem dX4_dropTop_7 : decode cX4_dropTop 7 = .ok (.aload_n 0, 1) := by decide +kernel
theorem dX4_dropTop_8 : decode cX4_dropTop 8 = .ok (.dup, 1) := by decide +kernel
theorem dX4_dropTop_9 : decode cX4_dropTop 9 = .ok (.getfield 19, 3) := by decide +kernel
theorem dX4_dropTop_12 : decode cX4_dropTop 12 = .ok (.iconst 1, 1) := by decide +kernel
theorem dX4_dropTop_13 : decode cX4_dropTop 13 = .ok (.isub, 1) := by decide +kernel
theorem dX4_dropTop_14 : decode cX4_dropTop 14 = .ok (.putfield 19, 3) := by decide +kernel
theorem dX4_dropTop_17 : decode cX4_dropTop 17 = .ok (.return_, 1) := by decide +kernel
theorem dX4_addBoth_0 : decode cX4_addBoth 0 = .ok (.iload_n 3, 1) := by decide +kernel
theorem dX4_addBoth_1 : decode cX4_addBoth 1 = .ok (.bipush 64, 2) := by decide +kernel
theorem dX4_addBoth_3 : decode cX4_addBoth 3 = .ok (.if_icmp .ge 26, 3) := by decide +kernel
theorem dX4_addBoth_6 : decode cX4_addBoth 6 = .ok (.aload_n 0, 1) := by decide +kernel
theorem dX4_addBoth_7 : decode cX4_addBoth 7 = .ok (.lload_n 1, 1) := by decide +kernel
theorem dX4_addBoth_8 : decode cX4_addBoth 8 = .ok (.lconst 1, 1) := by decide +kernel
theorem dX4_addBoth_9 : decode cX4_addBoth 9 = .ok (.bipush 63, 2) := by decide +kernel
theorem dX4_addBoth_11 : decode cX4_addBoth 11 = .ok (.iload_n 3, 1) := by decide +kernel
theorem dX4_addBoth_12 : decode cX4_addBoth 12 = .ok (.isub, 1) := by decide +kernel
theorem dX4_addBoth_13 : decode cX4_addBoth 13 = .ok (.lshl, 1) := by decide +kernel
theorem dX4_addBoth_14 : decode cX4_addBoth 14 = .ok (.lor, 1) := by decide +kernel
theorem dX4_addBoth_15 : decode cX4_addBoth 15 = .ok (.iload_n 3, 1) := by decide +kernel
theorem dX4_addBoth_16 : decode cX4_addBoth 16 = .ok (.iconst 1, 1) := by decide +kernel
theorem dX4_addBoth_17 : decode cX4_addBoth 17 = .ok (.iadd, 1) := by decide +kernel
theorem dX4_addBoth_18 : decode cX4_addBoth 18 = .ok (.invokevirtual 23, 3) := by decide +kernel
theorem dX4_addBoth_21 : decode cX4_addBoth 21 = .ok (.aload_n 0, 1) := by decide +kernel
theorem dX4_addBoth_22 : decode cX4_addBoth 22 = .ok (.lload_n 1, 1) := by decide +kernel
theorem dX4_addBoth_23 : decode cX4_addBoth 23 = .ok (.iload_n 3, 1) := by decide +kernel
theorem dX4_addBoth_24 : decode cX4_addBoth 24 = .ok (.iconst 1, 1) := by decide +kernel
theorem dX4_addBoth_25 : decode cX4_addBoth 25 = .ok (.iadd, 1) := by decide +kernel
theorem dX4_addBoth_26 : decode cX4_addBoth 26 = .ok (.invokevirtual 23, 3) := by decide +kernel
theorem dX4_addBoth_29 : decode cX4_addBoth 29 = .ok (.return_, 1) := by decide +kernel
theorem dX4_add_0 : decode cX4_add 0 = .ok (.aload_n 0, 1) := by decide +kernel
theorem dX4_add_1 : decode cX4_add 1 = .ok (.getfield 19, 3) := by decide +kernel
theorem dX4_add_4 : decode cX4_add 4 = .ok (.bipush 65, 2) := by decide +kernel
theorem dX4_add_6 : decode cX4_add 6 = .ok (.if_icmp .ge 33, 3) := by decide +kernel
theorem dX4_add_9 : decode cX4_add 9 = .ok (.aload_n 0, 1) := by decide +kernel
theorem dX4_add_10 : decode cX4_add 10 = .ok (.getfield 11, 3) := by decide +kernel
theorem dX4_add_13 : decode cX4_add 13 = .ok (.aload_n 0, 1) := by decide +kernel
theorem dX4_add_14 : decode cX4_add 14 = .ok (.getfield 19, 3) := by decide +kernel
theorem dX4_add_17 : decode cX4_add 17 = .ok (.lload_n 1, 1) := by decide +kernel
theorem dX4_add_18 : decode cX4_add 18 = .ok (.lastore, 1) := by decide +kernel
theorem dX4_add_19 : decode cX4_add 19 = .ok (.aload_n 0, 1) := by decide +kernel
theorem dX4_add_20 : decode cX4_add 20 = .ok (.getfield 15, 3) := by decide +kernel
theorem dX4_add_23 : decode cX4_add 23 = .ok (.aload_n 0, 1) := by decide +kernel
theorem dX4_add_24 : decode cX4_add 24 = .ok (.getfield 19, 3) := by decide +kernel
theorem dX4_add_27 : decode cX4_add 27 = .ok (.iload_n 3, 1) := by decide +kernel
theorem dX4_add_28 : decode cX4_add 28 = .ok (.iastore, 1) := by decide +kernel
theorem dX4_add_29 : decode cX4_add 29 = .ok (.aload_n 0, 1) := by decide +kernel
theorem dX4_add_30 : decode cX4_add 30 = .ok (.dup, 1) := by decide +kernel
theorem dX4_add_31 : decode cX4_add 31 = .ok (.getfield 19, 3) := by decide +kernel
theorem dX4_add_34 : decode cX4_add 34 = .ok (.iconst 1, 1) := by decide +kernel
theorem dX4_add_35 : decode cX4_add 35 = .ok (.iadd, 1) := by decide +kernel
theorem dX4_add_36 : decode cX4_add 36 = .ok (.putfield 19, 3) := by decide +kernel
theorem dX4_add_39 : decode cX4_add 39 = .ok (.return_, 1) := by decide +kernel
theorem dX4_copyFrom_0 : decode cX4_copyFrom 0 = .ok (.aload_n 1, 1) := by decide +kernel
theorem dX4_copyFrom_1 : decode cX4_copyFrom 1 = .ok (.getfield 11, 3) := by decide +kernel
theorem dX4_copyFrom_4 : decode cX4_copyFrom 4 = .ok (.iconst 0, 1) := by decide +kernel
theorem dX4_copyFrom_5 : decode cX4_copyFrom 5 = .ok (.aload_n 0, 1) := by decide +kernel
theorem dX4_copyFrom_6 : decode cX4_copyFrom 6 = .ok (.getfield 11, 3) := by decide +kernel
theorem dX4_copyFrom_9 : decode cX4_copyFrom 9 = .ok (.iconst 0, 1) := by decide +kernel
theorem dX4_copyFrom_10 : decode cX4_copyFrom 10 = .ok (.bipush 65, 2) := by decide +kernel
theorem dX4_copyFrom_12 : decode cX4_copyFrom 12 = .ok (.invokestatic 27, 3) := by decide +kernel
theorem dX4_copyFrom_15 : decode cX4_copyFrom 15 = .ok (.aload_n 1, 1) := by decide +kernel
theorem dX4_copyFrom_16 : decode cX4_copyFrom 16 = .ok (.getfield 15, 3) := by decide +kernel
theorem dX4_copyFrom_19 : decode cX4_copyFrom 19 = .ok (.iconst 0, 1) := by decide +kernel
theorem dX4_copyFrom_20 : decode cX4_copyFrom 20 = .ok (.aload_n 0, 1) := by decide +kernel
theorem dX4_copyFrom_21 : decode cX4_copyFrom 21 = .ok (.getfield 15, 3) := by decide +kernel
theorem dX4_copyFrom_24 : decode cX4_copyFrom 24 = .ok (.iconst 0, 1) := by decide +kernel
theorem dX4_copyFrom_25 : decode cX4_copyFrom 25 = .ok (.bipush 65, 2) := by decide +kernel
theorem dX4_copyFrom_27 : decode cX4_copyFrom 27 = .ok (.invokestatic 27, 3) := by decide +kernel
theorem dX4_copyFrom_30 : decode cX4_copyFrom 30 = .ok (.aload_n 0, 1) := by decide +kernel
theorem dX4_copyFrom_31 : decode cX4_copyFrom 31 = .ok (.aload_n 1, 1) := by decide +kernel
theorem dX4_copyFrom_32 : decode cX4_copyFrom 32 = .ok (.getfield 19, 3) := by decide +kernel
theorem dX4_copyFrom_35 : decode cX4_copyFrom 35 = .ok (.putfield 19, 3) := by decide +kernel
theorem dX4_copyFrom_38 : decode cX4_copyFrom 38 = .ok (.return_, 1) := by decide +kernel
theorem dX5_init_0 : decode cX5_init 0 = .ok (.aload_n 0, 1) := by decide +kernel
theorem dX5_init_1 : decode cX5_init 1 = .ok (.invokespecial 3, 3) := by decide +kernel
theorem dX5_init_4 : decode cX5_init 4 = .ok (.aload_n 0, 1) := by decide +kernel
theorem dX5_init_5 : decode cX5_init 5 = .ok (.new 9, 3) := by decide +kernel
theorem dX5_init_8 : decode cX5_init 8 = .ok (.dup, 1) := by decide +kernel
theorem dX5_init_9 : decode cX5_init 9 = .ok (.invokespecial 11, 3) := by decide +kernel
theorem dX5_init_12 : decode cX5_init 12 = .ok (.putfield 12, 3) := by decide +kernel
theorem dX5_init_15 : decode cX5_init 15 = .ok (.aload_n 0, 1) := by decide +kernel
theorem dX5_init_16 : decode cX5_init 16 = .ok (.new 18, 3) := by decide +kernel
theorem dX5_init_19 : decode cX5_init 19 = .ok (.dup, 1) := by decide +kernel
theorem dX5_init_20 : decode cX5_init 20 = .ok (.invokespecial 20, 3) := by decide +kernel
theorem dX5_init_23 : decode cX5_init 23 = .ok (.putfield 21, 3) := by decide +kernel
theorem dX5_init_26 : decode cX5_init 26 = .ok (.aload_n 0, 1) := by decide +kernel
theorem dX5_init_27 : decode cX5_init 27 = .ok (.new 25, 3) := by decide +kernel
theorem dX5_init_30 : decode cX5_init 30 = .ok (.dup, 1) := by decide +kernel
theorem dX5_init_31 : decode cX5_init 31 = .ok (.invokespecial 27, 3) := by decide +kernel
theorem dX5_init_34 : decode cX5_init 34 = .ok (.putfield 28, 3) := by decide +kernel
theorem dX5_init_37 : decode cX5_init 37 = .ok (.aload_n 0, 1) := by decide +kernel
theorem dX5_init_38 : decode cX5_init 38 = .ok (.new 32, 3) := by decide +kernel
theorem dX5_init_41 : decode cX5_init 41 = .ok (.dup, 1) := by decide +kernel
theorem dX5_init_42 : decode cX5_init 42 = .ok (.invokespecial 34, 3) := by decide +kernel
theorem dX5_init_45 : decode cX5_init 45 = .ok (.putfield 35, 3) := by decide +kernel
theorem dX5_init_48 : decode cX5_init 48 = .ok (.aload_n 0, 1) := by decide +kernel
theorem dX5_init_49 : decode cX5_init 49 = .ok (.new 39, 3) := by decide +kernel
theorem dX5_init_52 : decode cX5_init 52 = .ok (.dup, 1) := by decide +kernel
theorem dX5_init_53 : decode cX5_init 53 = .ok (.invokespecial 41, 3) := by decide +kernel
theorem dX5_init_56 : decode cX5_init 56 = .ok (.putfield 42, 3) := by decide +kernel
theorem dX5_init_59 : decode cX5_init 59 = .ok (.aload_n 0, 1) := by decide +kernel
theorem dX5_init_60 : decode cX5_init 60 = .ok (.new 46, 3) := by decide +kernel
theorem dX5_init_63 : decode cX5_init 63 = .ok (.dup, 1) := by decide +kernel
theorem dX5_init_64 : decode cX5_init 64 = .ok (.invokespecial 48, 3) := by decide +kernel
theorem dX5_init_67 : decode cX5_init 67 = .ok (.putfield 49, 3) := by decide +kernel
theorem dX5_init_70 : decode cX5_init 70 = .ok (.aload_n 0, 1) := by decide +kernel
theorem dX5_init_71 : decode cX5_init 71 = .ok (.iconst 0, 1) := by decide +kernel
theorem dX5_init_72 : decode cX5_init 72 = .ok (.putfield 53, 3) := by decide +kernel
theorem dX5_init_75 : decode cX5_init 75 = .ok (.aload_n 0, 1) := by decide +kernel
theorem dX5_init_76 : decode cX5_init 76 = .ok (.iconst (-1), 1) := by decide +kernel
theorem dX5_init_77 : decode cX5_init 77 = .ok (.putfield 57, 3) := by decide +kernel
theorem dX5_init_80 : decode cX5_init 80 = .ok (.return_, 1) := by decide +kernel
theorem dX5_copyFrom_0 : decode cX5_copyFrom 0 = .ok (.aload_n 0, 1) := by decide +kernel
theorem dX5_copyFrom_1 : decode cX5_copyFrom 1 = .ok (.getfield 12, 3) := by decide +kernel
theorem dX5_copyFrom_4 : decode cX5_copyFrom 4 = .ok (.aload_n 1, 1) := by decide +kernel
theorem dX5_copyFrom_5 : decode cX5_copyFrom 5 = .ok (.getfield 12, 3) := by decide +kernel
theorem dX5_copyFrom_8 : decode cX5_copyFrom 8 = .ok (.invokevirtual 60, 3) := by decide +kernel
theorem dX5_copyFrom_11 : decode cX5_copyFrom 11 = .ok (.aload_n 0, 1) := by decide +kernel
theorem dX5_copyFrom_12 : decode cX5_copyFrom 12 = .ok (.getfield 21, 3) := by decide +kernel
theorem dX5_copyFrom_15 : decode cX5_copyFrom 15 = .ok (.aload_n 1, 1) := by decide +kernel
theorem dX5_copyFrom_16 : decode cX5_copyFrom 16 = .ok (.getfield 21, 3) := by decide +kernel
theorem dX5_copyFrom_19 : decode cX5_copyFrom 19 = .ok (.invokevirtual 64, 3) := by decide +kernel
theorem dX5_copyFrom_22 : decode cX5_copyFrom 22 = .ok (.aload_n 0, 1) := by decide +kernel
theorem dX5_copyFrom_23 : decode cX5_copyFrom 23 = .ok (.getfield 28, 3) := by decide +kernel
theorem dX5_copyFrom_26 : decode cX5_copyFrom 26 = .ok (.aload_n 1, 1) := by decide +kernel
theorem dX5_copyFrom_27 : decode cX5_copyFrom 27 = .ok (.getfield 28, 3) := by decide +kernel
theorem dX5_copyFrom_30 : decode cX5_copyFrom 30 = .ok (.invokevirtual 67, 3) := by decide +kernel
theorem dX5_copyFrom_33 : decode cX5_copyFrom 33 = .ok (.aload_n 0, 1) := by decide +kernel
theorem dX5_copyFrom_34 : decode cX5_copyFrom 34 = .ok (.getfield 35, 3) := by decide +kernel
theorem dX5_copyFrom_37 : decode cX5_copyFrom 37 = .ok (.aload_n 1, 1) := by decide +kernel
theorem dX5_copyFrom_38 : decode cX5_copyFrom 38 = .ok (.getfield 35, 3) := by decide +kernel
theorem dX5_copyFrom_41 : decode cX5_copyFrom 41 = .ok (.invokevirtual 70, 3) := by decide +kernel
theorem dX5_copyFrom_44 : decode cX5_copyFrom 44 = .ok (.aload_n 0, 1) := by decide +kernel
theorem dX5_copyFrom_45 : decode cX5_copyFrom 45 = .ok (.getfield 42, 3) := by decide +kernel
theorem dX5_copyFrom_48 : decode cX5_copyFrom 48 = .ok (.aload_n 1, 1) := by decide +kernel
theorem dX5_copyFrom_49 : decode cX5_copyFrom 49 = .ok (.getfield 42, 3) := by decide +kernel
theorem dX5_copyFrom_52 : decode cX5_copyFrom 52 = .ok (.invokevirtual 73, 3) := by decide +kernel
theorem dX5_copyFrom_55 : decode cX5_copyFrom 55 = .ok (.aload_n 0, 1) := by decide +kernel
theorem dX5_copyFrom_56 : decode cX5_copyFrom 56 = .ok (.getfield 49, 3) := by decide +kernel
theorem dX5_copyFrom_59 : decode cX5_copyFrom 59 = .ok (.aload_n 1, 1) := by decide +kernel
theorem dX5_copyFrom_60 : decode cX5_copyFrom 60 = .ok (.getfield 49, 3) := by decide +kernel
theorem dX5_copyFrom_63 : decode cX5_copyFrom 63 = .ok (.invokevirtual 76, 3) := by decide +kernel
theorem dX5_copyFrom_66 : decode cX5_copyFrom 66 = .ok (.aload_n 0, 1) := by decide +kernel
theorem dX5_copyFrom_67 : decode cX5_copyFrom 67 = .ok (.aload_n 1, 1) := by decide +kernel
theorem dX5_copyFrom_68 : decode cX5_copyFrom 68 = .ok (.getfield 53, 3) := by decide +kernel
theorem dX5_copyFrom_71 : decode cX5_copyFrom 71 = .ok (.putfield 53, 3) := by decide +kernel
theorem dX5_copyFrom_74 : decode cX5_copyFrom 74 = .ok (.aload_n 0, 1) := by decide +kernel
theorem dX5_copyFrom_75 : decode cX5_copyFrom 75 = .ok (.aload_n 1, 1) := by decide +kernel
theorem dX5_copyFrom_76 : decode cX5_copyFrom 76 = .ok (.getfield 57, 3) := by decide +kernel
theorem dX5_copyFrom_79 : decode cX5_copyFrom 79 = .ok (.putfield 57, 3) := by decide +kernel
theorem dX5_copyFrom_82 : decode cX5_copyFrom 82 = .ok (.return_, 1) := by decide +kernel
theorem dX6_init_0 : decode cX6_init 0 = .ok (.aload_n 0, 1) := by decide +kernel
theorem dX6_init_1 : decode cX6_init 1 = .ok (.invokespecial 3, 3) := by decide +kernel
theorem dX6_init_4 : decode cX6_init 4 = .ok (.aload_n 0, 1) := by decide +kernel
theorem dX6_init_5 : decode cX6_init 5 = .ok (.bipush 40, 2) := by decide +kernel
theorem dX6_init_7 : decode cX6_init 7 = .ok (.newarray .int, 2) := by decide +kernel
theorem dX6_init_9 : decode cX6_init 9 = .ok (.putfield 9, 3) := by decide +kernel
theorem dX6_init_12 : decode cX6_init 12 = .ok (.aload_n 0, 1) := by decide +kernel
theorem dX6_init_13 : decode cX6_init 13 = .ok (.bipush 40, 2) := by decide +kernel
theorem dX6_init_15 : decode cX6_init 15 = .ok (.newarray .long, 2) := by decide +kernel
theorem dX6_init_17 : decode cX6_init 17 = .ok (.putfield 15, 3) := by decide +kernel
theorem dX6_init_20 : decode cX6_init 20 = .ok (.aload_n 0, 1) := by decide +kernel
theorem dX6_init_21 : decode cX6_init 21 = .ok (.bipush 40, 2) := by decide +kernel
theorem dX6_init_23 : decode cX6_init 23 = .ok (.newarray .int, 2) := by decide +kernel
theorem dX6_init_25 : decode cX6_init 25 = .ok (.putfield 19, 3) := by decide +kernel
theorem dX6_init_28 : decode cX6_init 28 = .ok (.aload_n 0, 1) := by decide +kernel
theorem dX6_init_29 : decode cX6_init 29 = .ok (.bipush 64, 2) := by decide +kernel
theorem dX6_init_31 : decode cX6_init 31 = .ok (.newarray .long, 2) := by decide +kernel
theorem dX6_init_33 : decode cX6_init 33 = .ok (.putfield 22, 3) := by decide +kernel
theorem dX6_init_36 : decode cX6_init 36 = .ok (.aload_n 0, 1) := by decide +kernel
theorem dX6_init_37 : decode cX6_init 37 = .ok (.bipush 6, 2) := by decide +kernel
theorem dX6_init_39 : decode cX6_init 39 = .ok (.newarray .long, 2) := by decide +kernel
theorem dX6_init_41 : decode cX6_init 41 = .ok (.putfield 25, 3) := by decide +kernel
theorem dX6_init_44 : decode cX6_init 44 = .ok (.return_, 1) := by decide +kernel
theorem dX6_has_0 : decode cX6_has 0 = .ok (.iload_n 1, 1) := by decide +kernel
theorem dX6_has_1 : decode cX6_has 1 = .ok (.ifCond .lt 15, 3) := by decide +kernel
theorem dX6_has_4 : decode cX6_has 4 = .ok (.iload_n 1, 1) := by decide +kernel
theorem dX6_has_5 : decode cX6_has 5 = .ok (.aload_n 0, 1) := by decide +kernel
theorem dX6_has_6 : decode cX6_has 6 = .ok (.getfield 28, 3) := by decide +kernel
theorem dX6_has_9 : decode cX6_has 9 = .ok (.if_icmp .ge 7, 3) := by decide +kernel
theorem dX6_has_12 : decode cX6_has 12 = .ok (.iconst 1, 1) := by decide +kernel
theorem dX6_has_13 : decode cX6_has 13 = .ok (.goto 4, 3) := by decide +kernel
theorem dX6_has_16 : decode cX6_has 16 = .ok (.iconst 0, 1) := by decide +kernel
theorem dX6_has_17 : decode cX6_has 17 = .ok (.ireturn, 1) := by decide +kernel
theorem dX6_add_0 : decode cX6_add 0 = .ok (.aload_n 0, 1) := by decide +kernel
theorem dX6_add_1 : decode cX6_add 1 = .ok (.getfield 28, 3) := by decide +kernel
theorem dX6_add_4 : decode cX6_add 4 = .ok (.bipush 40, 2) := by decide +kernel
theorem dX6_add_6 : decode cX6_add 6 = .ok (.if_icmp .ge 21, 3) := by decide +kernel
theorem dX6_add_9 : decode cX6_add 9 = .ok (.iload_n 1, 1) := by decide +kernel
theorem dX6_add_10 : decode cX6_add 10 = .ok (.ifCond .lt 17, 3) := by decide +kernel
theorem dX6_add_13 : decode cX6_add 13 = .ok (.iload_n 1, 1) := by decide +kernel
theorem dX6_add_14 : decode cX6_add 14 = .ok (.bipush 6, 2) := by decide +kernel
theorem dX6_add_16 : decode cX6_add 16 = .ok (.if_icmp .ge 11, 3) := by decide +kernel
theorem dX6_add_19 : decode cX6_add 19 = .ok (.aload_n 0, 1) := by decide +kernel
theorem dX6_add_20 : decode cX6_add 20 = .ok (.lload_n 2, 1) := by decide +kernel
theorem dX6_add_21 : decode cX6_add 21 = .ok (.invokevirtual 32, 3) := by decide +kernel
theorem dX6_add_24 : decode cX6_add 24 = .ok (.ifCond .eq 5, 3) := by decide +kernel
theorem dX6_add_27 : decode cX6_add 27 = .ok (.iconst (-1), 1) := by decide +kernel
theorem dX6_add_28 : decode cX6_add 28 = .ok (.ireturn, 1) := by decide +kernel
theorem dX6_add_29 : decode cX6_add 29 = .ok (.aload_n 0, 1) := by decide +kernel
theorem dX6_add_30 : decode cX6_add 30 = .ok (.getfield 28, 3) := by decide +kernel
theorem dX6_add_33 : decode cX6_add 33 = .ok (.istore 5, 2) := by decide +kernel
theorem dX6_add_35 : decode cX6_add 35 = .ok (.aload_n 0, 1) := by decide +kernel
theorem dX6_add_36 : decode cX6_add 36 = .ok (.dup, 1) := by decide +kernel
theorem dX6_add_37 : decode cX6_add 37 = .ok (.getfield 28, 3) := by decide +kernel
theorem dX6_add_40 : decode cX6_add 40 = .ok (.iconst 1, 1) := by decide +kernel
theorem dX6_add_41 : decode cX6_add 41 = .ok (.iadd, 1) := by decide +kernel
theorem dX6_add_42 : decode cX6_add 42 = .ok (.putfield 28, 3) := by decide +kernel
theorem dX6_add_45 : decode cX6_add 45 = .ok (.aload_n 0, 1) := by decide +kernel
theorem dX6_add_46 : decode cX6_add 46 = .ok (.getfield 9, 3) := by decide +kernel
theorem dX6_add_49 : decode cX6_add 49 = .ok (.iload 5, 2) := by decide +kernel
theorem dX6_add_51 : decode cX6_add 51 = .ok (.iload_n 1, 1) := by decide +kernel
theorem dX6_add_52 : decode cX6_add 52 = .ok (.iastore, 1) := by decide +kernel
theorem dX6_add_53 : decode cX6_add 53 = .ok (.aload_n 0, 1) := by decide +kernel
theorem dX6_add_54 : decode cX6_add 54 = .ok (.getfield 15, 3) := by decide +kernel
theorem dX6_add_57 : decode cX6_add 57 = .ok (.iload 5, 2) := by decide +kernel
theorem dX6_add_59 : decode cX6_add 59 = .ok (.lload_n 2, 1) := by decide +kernel
theorem dX6_add_60 : decode cX6_add 60 = .ok (.lastore, 1) := by decide +kernel
theorem dX6_add_61 : decode cX6_add 61 = .ok (.aload_n 0, 1) := by decide +kernel
theorem dX6_add_62 : decode cX6_add 62 = .ok (.getfield 19, 3) := by decide +kernel
theorem dX6_add_65 : decode cX6_add 65 = .ok (.iload 5, 2) := by decide +kernel
theorem dX6_add_67 : decode cX6_add 67 = .ok (.iload 4, 2) := by decide +kernel
theorem dX6_add_69 : decode cX6_add 69 = .ok (.iastore, 1) := by decide +kernel
theorem dX6_add_70 : decode cX6_add 70 = .ok (.aload_n 0, 1) := by decide +kernel
theorem dX6_add_71 : decode cX6_add 71 = .ok (.getfield 25, 3) := by decide +kernel
theorem dX6_add_74 : decode cX6_add 74 = .ok (.iload_n 1, 1) := by decide +kernel
theorem dX6_add_75 : decode cX6_add 75 = .ok (.dup2, 1) := by decide +kernel
theorem dX6_add_76 : decode cX6_add 76 = .ok (.laload, 1) := by decide +kernel
theorem dX6_add_77 : decode cX6_add 77 = .ok (.iload 5, 2) := by decide +kernel
theorem dX6_add_79 : decode cX6_add 79 = .ok (.invokestatic 36, 3) := by decide +kernel
theorem dX6_add_82 : decode cX6_add 82 = .ok (.lor, 1) := by decide +kernel
theorem dX6_add_83 : decode cX6_add 83 = .ok (.lastore, 1) := by decide +kernel
theorem dX6_add_84 : decode cX6_add 84 = .ok (.aload_n 0, 1) := by decide +kernel
theorem dX6_add_85 : decode cX6_add 85 = .ok (.dup, 1) := by decide +kernel
theorem dX6_add_86 : decode cX6_add 86 = .ok (.getfield 40, 3) := by decide +kernel
theorem dX6_add_89 : decode cX6_add 89 = .ok (.iload 5, 2) := by decide +kernel
theorem dX6_add_91 : decode cX6_add 91 = .ok (.invokestatic 36, 3) := by decide +kernel
theorem dX6_add_94 : decode cX6_add 94 = .ok (.lor, 1) := by decide +kernel
theorem dX6_add_95 : decode cX6_add 95 = .ok (.putfield 40, 3) := by decide +kernel
theorem dX6_add_98 : decode cX6_add 98 = .ok (.iload_n 1, 1) := by decide +kernel
theorem dX6_add_99 : decode cX6_add 99 = .ok (.iconst 4, 1) := by decide +kernel
theorem dX6_add_100 : decode cX6_add 100 = .ok (.if_icmp .eq 17, 3) := by decide +kernel
theorem dX6_add_103 : decode cX6_add 103 = .ok (.aload_n 0, 1) := by decide +kernel
theorem dX6_add_104 : decode cX6_add 104 = .ok (.dup, 1) := by decide +kernel
theorem dX6_add_105 : decode cX6_add 105 = .ok (.getfield 44, 3) := by decide +kernel
theorem dX6_add_108 : decode cX6_add 108 = .ok (.iload 5, 2) := by decide +kernel
theorem dX6_add_110 : decode cX6_add 110 = .ok (.invokestatic 36, 3) := by decide +kernel
theorem dX6_add_113 : decode cX6_add 113 = .ok (.lor, 1) := by decide +kernel
theorem dX6_add_114 : decode cX6_add 114 = .ok (.putfield 44, 3) := by decide +kernel
theorem dX6_add_117 : decode cX6_add 117 = .ok (.aload_n 0, 1) := by decide +kernel
theorem dX6_add_118 : decode cX6_add 118 = .ok (.lload_n 2, 1) := by decide +kernel
theorem dX6_add_119 : decode cX6_add 119 = .ok (.invokevirtual 47, 3) := by decide +kernel
theorem dX6_add_122 : decode cX6_add 122 = .ok (.ifCond .eq 17, 3) := by decide +kernel
theorem dX6_add_125 : decode cX6_add 125 = .ok (.aload_n 0, 1) := by decide +kernel
theorem dX6_add_126 : decode cX6_add 126 = .ok (.dup, 1) := by decide +kernel
theorem dX6_add_127 : decode cX6_add 127 = .ok (.getfield 50, 3) := by decide +kernel
theorem dX6_add_130 : decode cX6_add 130 = .ok (.iload 5, 2) := by decide +kernel
theorem dX6_add_132 : decode cX6_add 132 = .ok (.invokestatic 36, 3) := by decide +kernel
theorem dX6_add_135 : decode cX6_add 135 = .ok (.lor, 1) := by decide +kernel
theorem dX6_add_136 : decode cX6_add 136 = .ok (.putfield 50, 3) := by decide +kernel
theorem dX6_add_139 : decode cX6_add 139 = .ok (.aload_n 0, 1) := by decide +kernel
theorem dX6_add_140 : decode cX6_add 140 = .ok (.iload 5, 2) := by decide +kernel
theorem dX6_add_142 : decode cX6_add 142 = .ok (.lload_n 2, 1) := by decide +kernel
theorem dX6_add_143 : decode cX6_add 143 = .ok (.invokevirtual 53, 3) := by decide +kernel
theorem dX6_add_146 : decode cX6_add 146 = .ok (.iload 5, 2) := by decide +kernel
theorem dX6_add_148 : decode cX6_add 148 = .ok (.ireturn, 1) := by decide +kernel
theorem dX6_noteOnes_0 : decode cX6_noteOnes 0 = .ok (.iconst 0, 1) := by decide +kernel
theorem dX6_noteOnes_1 : decode cX6_noteOnes 1 = .ok (.istore 4, 2) := by decide +kernel
theorem dX6_noteOnes_3 : decode cX6_noteOnes 3 = .ok (.iload 4, 2) := by decide +kernel
theorem dX6_noteOnes_5 : decode cX6_noteOnes 5 = .ok (.bipush 64, 2) := by decide +kernel
theorem dX6_noteOnes_7 : decode cX6_noteOnes 7 = .ok (.if_icmp .ge 32, 3) := by decide +kernel
theorem dX6_noteOnes_10 : decode cX6_noteOnes 10 = .ok (.lload_n 2, 1) := by decide +kernel
theorem dX6_noteOnes_11 : decode cX6_noteOnes 11 = .ok (.iload 4, 2) := by decide +kernel
theorem dX6_noteOnes_13 : decode cX6_noteOnes 13 = .ok (.invokestatic 57, 3) := by decide +kernel
theorem dX6_noteOnes_16 : decode cX6_noteOnes 16 = .ok (.ifCond .eq 17, 3) := by decide +kernel
theorem dX6_noteOnes_19 : decode cX6_noteOnes 19 = .ok (.aload_n 0, 1) := by decide +kernel
theorem dX6_noteOnes_20 : decode cX6_noteOnes 20 = .ok (.getfield 22, 3) := by decide +kernel
theorem dX6_noteOnes_23 : decode cX6_noteOnes 23 = .ok (.iload 4, 2) := by decide +kernel
theorem dX6_noteOnes_25 : decode cX6_noteOnes 25 = .ok (.dup2, 1) := by decide +kernel
theorem dX6_noteOnes_26 : decode cX6_noteOnes 26 = .ok (.laload, 1) := by decide +kernel
theorem dX6_noteOnes_27 : decode cX6_noteOnes 27 = .ok (.iload_n 1, 1) := by decide +kernel
theorem dX6_noteOnes_28 : decode cX6_noteOnes 28 = .ok (.invokestatic 36, 3) := by decide +kernel
theorem dX6_noteOnes_31 : decode cX6_noteOnes 31 = .ok (.lor, 1) := by decide +kernel
theorem dX6_noteOnes_32 : decode cX6_noteOnes 32 = .ok (.lastore, 1) := by decide +kernel
theorem dX6_noteOnes_33 : decode cX6_noteOnes 33 = .ok (.iinc 4 1, 3) := by decide +kernel
theorem dX6_noteOnes_36 : decode cX6_noteOnes 36 = .ok (.goto (-33), 3) := by decide +kernel
theorem dX6_noteOnes_39 : decode cX6_noteOnes 39 = .ok (.return_, 1) := by decide +kernel
theorem dX6_isTaken_0 : decode cX6_isTaken 0 = .ok (.iconst 0, 1) := by decide +kernel
theorem dX6_isTaken_1 : decode cX6_isTaken 1 = .ok (.istore_n 3, 1) := by decide +kernel
theorem dX6_isTaken_2 : decode cX6_isTaken 2 = .ok (.iload_n 3, 1) := by decide +kernel
theorem dX6_isTaken_3 : decode cX6_isTaken 3 = .ok (.aload_n 0, 1) := by decide +kernel
theorem dX6_isTaken_4 : decode cX6_isTaken 4 = .ok (.getfield 28, 3) := by decide +kernel
theorem dX6_isTaken_7 : decode cX6_isTaken 7 = .ok (.if_icmp .ge 22, 3) := by decide +kernel
theorem dX6_isTaken_10 : decode cX6_isTaken 10 = .ok (.aload_n 0, 1) := by decide +kernel
theorem dX6_isTaken_11 : decode cX6_isTaken 11 = .ok (.getfield 15, 3) := by decide +kernel
theorem dX6_isTaken_14 : decode cX6_isTaken 14 = .ok (.iload_n 3, 1) := by decide +kernel
theorem dX6_isTaken_15 : decode cX6_isTaken 15 = .ok (.laload, 1) := by decide +kernel
theorem dX6_isTaken_16 : decode cX6_isTaken 16 = .ok (.lload_n 1, 1) := by decide +kernel
theorem dX6_isTaken_17 : decode cX6_isTaken 17 = .ok (.lcmp, 1) := by decide +kernel
theorem dX6_isTaken_18 : decode cX6_isTaken 18 = .ok (.ifCond .ne 5, 3) := by decide +kernel
theorem dX6_isTaken_21 : decode cX6_isTaken 21 = .ok (.iconst 1, 1) := by decide +kernel
theorem dX6_isTaken_22 : decode cX6_isTaken 22 = .ok (.ireturn, 1) := by decide +kernel
theorem dX6_isTaken_23 : decode cX6_isTaken 23 = .ok (.iinc 3 1, 3) := by decide +kernel
theorem dX6_isTaken_26 : decode cX6_isTaken 26 = .ok (.goto (-24), 3) := by decide +kernel
theorem dX6_isTaken_29 : decode cX6_isTaken 29 = .ok (.iconst 0, 1) := by decide +kernel
theorem dX6_isTaken_30 : decode cX6_isTaken 30 = .ok (.ireturn, 1) := by decide +kernel
theorem dX6_isOfGroup_0 : decode cX6_isOfGroup 0 = .ok (.lload_n 1, 1) := by decide +kernel
theorem dX6_isOfGroup_1 : decode cX6_isOfGroup 1 = .ok (.aload_n 0, 1) := by decide +kernel
theorem dX6_isOfGroup_2 : decode cX6_isOfGroup 2 = .ok (.getfield 61, 3) := by decide +kernel
theorem dX6_isOfGroup_5 : decode cX6_isOfGroup 5 = .ok (.land, 1) := by decide +kernel
theorem dX6_isOfGroup_6 : decode cX6_isOfGroup 6 = .ok (.aload_n 0, 1) := by decide +kernel
theorem dX6_isOfGroup_7 : decode cX6_isOfGroup 7 = .ok (.getfield 64, 3) := by decide +kernel
theorem dX6_isOfGroup_10 : decode cX6_isOfGroup 10 = .ok (.lcmp, 1) := by decide +kernel
theorem dX6_isOfGroup_11 : decode cX6_isOfGroup 11 = .ok (.ifCond .ne 7, 3) := by decide +kernel
theorem dX6_isOfGroup_14 : decode cX6_isOfGroup 14 = .ok (.iconst 1, 1) := by decide +kernel
theorem dX6_isOfGroup_15 : decode cX6_isOfGroup 15 = .ok (.goto 4, 3) := by decide +kernel
theorem dX6_isOfGroup_18 : decode cX6_isOfGroup 18 = .ok (.iconst 0, 1) := by decide +kernel
theorem dX6_isOfGroup_19 : decode cX6_isOfGroup 19 = .ok (.ireturn, 1) := by decide +kernel
theorem dX6_regroup_0 : decode cX6_regroup 0 = .ok (.aload_n 0, 1) := by decide +kernel
theorem dX6_regroup_1 : decode cX6_regroup 1 = .ok (.lload_n 1, 1) := by decide +kernel
theorem dX6_regroup_2 : decode cX6_regroup 2 = .ok (.putfield 61, 3) := by decide +kernel
theorem dX6_regroup_5 : decode cX6_regroup 5 = .ok (.aload_n 0, 1) := by decide +kernel
theorem dX6_regroup_6 : decode cX6_regroup 6 = .ok (.lload_n 3, 1) := by decide +kernel
theorem dX6_regroup_7 : decode cX6_regroup 7 = .ok (.lload_n 1, 1) := by decide +kernel
theorem dX6_regroup_8 : decode cX6_regroup 8 = .ok (.land, 1) := by decide +kernel
theorem dX6_regroup_9 : decode cX6_regroup 9 = .ok (.putfield 64, 3) := by decide +kernel
theorem dX6_regroup_12 : decode cX6_regroup 12 = .ok (.aload_n 0, 1) := by decide +kernel
theorem dX6_regroup_13 : decode cX6_regroup 13 = .ok (.lconst 0, 1) := by decide +kernel
theorem dX6_regroup_14 : decode cX6_regroup 14 = .ok (.putfield 50, 3) := by decide +kernel
theorem dX6_regroup_17 : decode cX6_regroup 17 = .ok (.iconst 0, 1) := by decide +kernel
theorem dX6_regroup_18 : decode cX6_regroup 18 = .ok (.istore 5, 2) := by decide +kernel
theorem dX6_regroup_20 : decode cX6_regroup 20 = .ok (.iload 5, 2) := by decide +kernel
theorem dX6_regroup_22 : decode cX6_regroup 22 = .ok (.aload_n 0, 1) := by decide +kernel
theorem dX6_regroup_23 : decode cX6_regroup 23 = .ok (.getfield 28, 3) := by decide +kernel
theorem dX6_regroup_26 : decode cX6_regroup 26 = .ok (.if_icmp .ge 37, 3) := by decide +kernel
theorem dX6_regroup_29 : decode cX6_regroup 29 = .ok (.aload_n 0, 1) := by decide +kernel
theorem dX6_regroup_30 : decode cX6_regroup 30 = .ok (.aload_n 0, 1) := by decide +kernel
theorem dX6_regroup_31 : decode cX6_regroup 31 = .ok (.getfield 15, 3) := by decide +kernel
theorem dX6_regroup_34 : decode cX6_regroup 34 = .ok (.iload 5, 2) := by decide +kernel
theorem dX6_regroup_36 : decode cX6_regroup 36 = .ok (.laload, 1) := by decide +kernel
theorem dX6_regroup_37 : decode cX6_regroup 37 = .ok (.invokevirtual 47, 3) := by decide +kernel
theorem dX6_regroup_40 : decode cX6_regroup 40 = .ok (.ifCond .eq 17, 3) := by decide +kernel
theorem dX6_regroup_43 : decode cX6_regroup 43 = .ok (.aload_n 0, 1) := by decide +kernel
theorem dX6_regroup_44 : decode cX6_regroup 44 = .ok (.dup, 1) := by decide +kernel
theorem dX6_regroup_45 : decode cX6_regroup 45 = .ok (.getfield 50, 3) := by decide +kernel
theorem dX6_regroup_48 : decode cX6_regroup 48 = .ok (.iload 5, 2) := by decide +kernel
theorem dX6_regroup_50 : decode cX6_regroup 50 = .ok (.invokestatic 36, 3) := by decide +kernel
theorem dX6_regroup_53 : decode cX6_regroup 53 = .ok (.lor, 1) := by decide +kernel
theorem dX6_regroup_54 : decode cX6_regroup 54 = .ok (.putfield 50, 3) := by decide +kernel
theorem dX6_regroup_57 : decode cX6_regroup 57 = .ok (.iinc 5 1, 3) := by decide +kernel
theorem dX6_regroup_60 : decode cX6_regroup 60 = .ok (.goto (-40), 3) := by decide +kernel
theorem dX6_regroup_63 : decode cX6_regroup 63 = .ok (.return_, 1) := by decide +kernel
theorem dX6_setThere_0 : decode cX6_setThere 0 = .ok (.aload_n 0, 1) := by decide +kernel
theorem dX6_setThere_1 : decode cX6_setThere 1 = .ok (.getfield 40, 3) := by decide +kernel
theorem dX6_setThere_4 : decode cX6_setThere 4 = .ok (.iload_n 1, 1) := by decide +kernel
theorem dX6_setThere_5 : decode cX6_setThere 5 = .ok (.invokestatic 67, 3) := by decide +kernel
theorem dX6_setThere_8 : decode cX6_setThere 8 = .ok (.iload_n 2, 1) := by decide +kernel
theorem dX6_setThere_9 : decode cX6_setThere 9 = .ok (.if_icmp .ne 5, 3) := by decide +kernel
theorem dX6_setThere_12 : decode cX6_setThere 12 = .ok (.iconst 0, 1) := by decide +kernel
theorem dX6_setThere_13 : decode cX6_setThere 13 = .ok (.ireturn, 1) := by decide +kernel
theorem dX6_setThere_14 : decode cX6_setThere 14 = .ok (.aload_n 0, 1) := by decide +kernel
theorem dX6_setThere_15 : decode cX6_setThere 15 = .ok (.dup, 1) := by decide +kernel
theorem dX6_setThere_16 : decode cX6_setThere 16 = .ok (.getfield 40, 3) := by decide +kernel
theorem dX6_setThere_19 : decode cX6_setThere 19 = .ok (.iload_n 1, 1) := by decide +kernel
theorem dX6_setThere_20 : decode cX6_setThere 20 = .ok (.invokestatic 36, 3) := by decide +kernel
theorem dX6_setThere_23 : decode cX6_setThere 23 = .ok (.lxor, 1) := by decide +kernel
theorem dX6_setThere_24 : decode cX6_setThere 24 = .ok (.putfield 40, 3) := by decide +kernel
theorem dX6_setThere_27 : decode cX6_setThere 27 = .ok (.iconst 1, 1) := by decide +kernel
theorem dX6_setThere_28 : decode cX6_setThere 28 = .ok (.ireturn, 1) := by decide +kernel
theorem dX6_setAwake_0 : decode cX6_setAwake 0 = .ok (.aload_n 0, 1) := by decide +kernel
theorem dX6_setAwake_1 : decode cX6_setAwake 1 = .ok (.getfield 44, 3) := by decide +kernel
theorem dX6_setAwake_4 : decode cX6_setAwake 4 = .ok (.iload_n 1, 1) := by decide +kernel
theorem dX6_setAwake_5 : decode cX6_setAwake 5 = .ok (.invokestatic 67, 3) := by decide +kernel
theorem dX6_setAwake_8 : decode cX6_setAwake 8 = .ok (.iload_n 2, 1) := by decide +kernel
theorem dX6_setAwake_9 : decode cX6_setAwake 9 = .ok (.if_icmp .ne 5, 3) := by decide +kernel
theorem dX6_setAwake_12 : decode cX6_setAwake 12 = .ok (.iconst 0, 1) := by decide +kernel
theorem dX6_setAwake_13 : decode cX6_setAwake 13 = .ok (.ireturn, 1) := by decide +kernel
theorem dX6_setAwake_14 : decode cX6_setAwake 14 = .ok (.aload_n 0, 1) := by decide +kernel
theorem dX6_setAwake_15 : decode cX6_setAwake 15 = .ok (.dup, 1) := by decide +kernel
theorem dX6_setAwake_16 : decode cX6_setAwake 16 = .ok (.getfield 44, 3) := by decide +kernel
theorem dX6_setAwake_19 : decode cX6_setAwake 19 = .ok (.iload_n 1, 1) := by decide +kernel
theorem dX6_setAwake_20 : decode cX6_setAwake 20 = .ok (.invokestatic 36, 3) := by decide +kernel
theorem dX6_setAwake_23 : decode cX6_setAwake 23 = .ok (.lxor, 1) := by decide +kernel
theorem dX6_setAwake_24 : decode cX6_setAwake 24 = .ok (.putfield 44, 3) := by decide +kernel
theorem dX6_setAwake_27 : decode cX6_setAwake 27 = .ok (.iconst 1, 1) := by decide +kernel
theorem dX6_setAwake_28 : decode cX6_setAwake 28 = .ok (.ireturn, 1) := by decide +kernel
theorem dX6_tire_0 : decode cX6_tire 0 = .ok (.aload_n 0, 1) := by decide +kernel
theorem dX6_tire_1 : decode cX6_tire 1 = .ok (.dup, 1) := by decide +kernel
theorem dX6_tire_2 : decode cX6_tire 2 = .ok (.getfield 44, 3) := by decide +kernel
theorem dX6_tire_5 : decode cX6_tire 5 = .ok (.iload_n 1, 1) := by decide +kernel
theorem dX6_tire_6 : decode cX6_tire 6 = .ok (.invokestatic 36, 3) := by decide +kernel
theorem dX6_tire_9 : decode cX6_tire 9 = .ok (.aload_n 0, 1) := by decide +kernel
theorem dX6_tire_10 : decode cX6_tire 10 = .ok (.getfield 25, 3) := by decide +kernel
theorem dX6_tire_13 : decode cX6_tire 13 = .ok (.iconst 4, 1) := by decide +kernel
theorem dX6_tire_14 : decode cX6_tire 14 = .ok (.laload, 1) := by decide +kernel
theorem dX6_tire_15 : decode cX6_tire 15 = .ok (.land, 1) := by decide +kernel
theorem dX6_tire_16 : decode cX6_tire 16 = .ok (.ldc2_w 70, 3) := by decide +kernel
theorem dX6_tire_19 : decode cX6_tire 19 = .ok (.lxor, 1) := by decide +kernel
theorem dX6_tire_20 : decode cX6_tire 20 = .ok (.land, 1) := by decide +kernel
theorem dX6_tire_21 : decode cX6_tire 21 = .ok (.putfield 44, 3) := by decide +kernel
theorem dX6_tire_24 : decode cX6_tire 24 = .ok (.return_, 1) := by decide +kernel
theorem dX6_listening_0 : decode cX6_listening 0 = .ok (.aload_n 0, 1) := by decide +kernel
theorem dX6_listening_1 : decode cX6_listening 1 = .ok (.getfield 40, 3) := by decide +kernel
theorem dX6_listening_4 : decode cX6_listening 4 = .ok (.aload_n 0, 1) := by decide +kernel
theorem dX6_listening_5 : decode cX6_listening 5 = .ok (.getfield 44, 3) := by decide +kernel
theorem dX6_listening_8 : decode cX6_listening 8 = .ok (.land, 1) := by decide +kernel
theorem dX6_listening_9 : decode cX6_listening 9 = .ok (.aload_n 0, 1) := by decide +kernel
theorem dX6_listening_10 : decode cX6_listening 10 = .ok (.getfield 50, 3) := by decide +kernel
theorem dX6_listening_13 : decode cX6_listening 13 = .ok (.land, 1) := by decide +kernel
theorem dX6_listening_14 : decode cX6_listening 14 = .ok (.lreturn, 1) := by decide +kernel
theorem dX6_asked_0 : decode cX6_asked 0 = .ok (.aload_n 0, 1) := by decide +kernel
theorem dX6_asked_1 : decode cX6_asked 1 = .ok (.invokevirtual 72, 3) := by decide +kernel
theorem dX6_asked_4 : decode cX6_asked 4 = .ok (.aload_n 0, 1) := by decide +kernel
theorem dX6_asked_5 : decode cX6_asked 5 = .ok (.getfield 25, 3) := by decide +kernel
theorem dX6_asked_8 : decode cX6_asked 8 = .ok (.iconst 0, 1) := by decide +kernel
theorem dX6_asked_9 : decode cX6_asked 9 = .ok (.laload, 1) := by decide +kernel
theorem dX6_asked_10 : decode cX6_asked 10 = .ok (.ldc2_w 70, 3) := by decide +kernel
theorem dX6_asked_13 : decode cX6_asked 13 = .ok (.lxor, 1) := by decide +kernel
theorem dX6_asked_14 : decode cX6_asked 14 = .ok (.land, 1) := by decide +kernel
theorem dX6_asked_15 : decode cX6_asked 15 = .ok (.lreturn, 1) := by decide +kernel
theorem dX6_slotted_0 : decode cX6_slotted 0 = .ok (.aload_n 0, 1) := by decide +kernel
theorem dX6_slotted_1 : decode cX6_slotted 1 = .ok (.invokevirtual 72, 3) := by decide +kernel
theorem dX6_slotted_4 : decode cX6_slotted 4 = .ok (.aload_n 0, 1) := by decide +kernel
theorem dX6_slotted_5 : decode cX6_slotted 5 = .ok (.getfield 25, 3) := by decide +kernel
theorem dX6_slotted_8 : decode cX6_slotted 8 = .ok (.iconst 2, 1) := by decide +kernel
theorem dX6_slotted_9 : decode cX6_slotted 9 = .ok (.laload, 1) := by decide +kernel
theorem dX6_slotted_10 : decode cX6_slotted 10 = .ok (.aload_n 0, 1) := by decide +kernel
theorem dX6_slotted_11 : decode cX6_slotted 11 = .ok (.getfield 25, 3) := by decide +kernel
theorem dX6_slotted_14 : decode cX6_slotted 14 = .ok (.iconst 3, 1) := by decide +kernel
theorem dX6_slotted_15 : decode cX6_slotted 15 = .ok (.laload, 1) := by decide +kernel
theorem dX6_slotted_16 : decode cX6_slotted 16 = .ok (.lor, 1) := by decide +kernel
theorem dX6_slotted_17 : decode cX6_slotted 17 = .ok (.aload_n 0, 1) := by decide +kernel
theorem dX6_slotted_18 : decode cX6_slotted 18 = .ok (.getfield 25, 3) := by decide +kernel
theorem dX6_slotted_21 : decode cX6_slotted 21 = .ok (.iconst 4, 1) := by decide +kernel
theorem dX6_slotted_22 : decode cX6_slotted 22 = .ok (.laload, 1) := by decide +kernel
theorem dX6_slotted_23 : decode cX6_slotted 23 = .ok (.lor, 1) := by decide +kernel
theorem dX6_slotted_24 : decode cX6_slotted 24 = .ok (.aload_n 0, 1) := by decide +kernel
theorem dX6_slotted_25 : decode cX6_slotted 25 = .ok (.getfield 25, 3) := by decide +kernel
theorem dX6_slotted_28 : decode cX6_slotted 28 = .ok (.iconst 5, 1) := by decide +kernel
theorem dX6_slotted_29 : decode cX6_slotted 29 = .ok (.laload, 1) := by decide +kernel
theorem dX6_slotted_30 : decode cX6_slotted 30 = .ok (.lor, 1) := by decide +kernel
theorem dX6_slotted_31 : decode cX6_slotted 31 = .ok (.land, 1) := by decide +kernel
theorem dX6_slotted_32 : decode cX6_slotted 32 = .ok (.lreturn, 1) := by decide +kernel
theorem dX6_splitting_0 : decode cX6_splitting 0 = .ok (.aload_n 0, 1) := by decide +kernel
theorem dX6_splitting_1 : decode cX6_splitting 1 = .ok (.invokevirtual 72, 3) := by decide +kernel
theorem dX6_splitting_4 : decode cX6_splitting 4 = .ok (.aload_n 0, 1) := by decide +kernel
theorem dX6_splitting_5 : decode cX6_splitting 5 = .ok (.getfield 25, 3) := by decide +kernel
theorem dX6_splitting_8 : decode cX6_splitting 8 = .ok (.iconst 3, 1) := by decide +kernel
theorem dX6_splitting_9 : decode cX6_splitting 9 = .ok (.laload, 1) := by decide +kernel
theorem dX6_splitting_10 : decode cX6_splitting 10 = .ok (.aload_n 0, 1) := by decide +kernel
theorem dX6_splitting_11 : decode cX6_splitting 11 = .ok (.getfield 25, 3) := by decide +kernel
theorem dX6_splitting_14 : decode cX6_splitting 14 = .ok (.iconst 4, 1) := by decide +kernel
theorem dX6_splitting_15 : decode cX6_splitting 15 = .ok (.laload, 1) := by decide +kernel
theorem dX6_splitting_16 : decode cX6_splitting 16 = .ok (.lor, 1) := by decide +kernel
theorem dX6_splitting_17 : decode cX6_splitting 17 = .ok (.land, 1) := by decide +kernel
theorem dX6_splitting_18 : decode cX6_splitting 18 = .ok (.lreturn, 1) := by decide +kernel
theorem dX6_tellingOne_0 : decode cX6_tellingOne 0 = .ok (.iload_n 3, 1) := by decide +kernel
theorem dX6_tellingOne_1 : decode cX6_tellingOne 1 = .ok (.ifCond .lt 20, 3) := by decide +kernel
theorem dX6_tellingOne_4 : decode cX6_tellingOne 4 = .ok (.iload_n 3, 1) := by decide +kernel
theorem dX6_tellingOne_5 : decode cX6_tellingOne 5 = .ok (.bipush 64, 2) := by decide +kernel
theorem dX6_tellingOne_7 : decode cX6_tellingOne 7 = .ok (.if_icmp .ge 14, 3) := by decide +kernel
theorem dX6_tellingOne_10 : decode cX6_tellingOne 10 = .ok (.lload_n 1, 1) := by decide +kernel
theorem dX6_tellingOne_11 : decode cX6_tellingOne 11 = .ok (.aload_n 0, 1) := by decide +kernel
theorem dX6_tellingOne_12 : decode cX6_tellingOne 12 = .ok (.getfield 22, 3) := by decide +kernel
theorem dX6_tellingOne_15 : decode cX6_tellingOne 15 = .ok (.iload_n 3, 1) := by decide +kernel
theorem dX6_tellingOne_16 : decode cX6_tellingOne 16 = .ok (.laload, 1) := by decide +kernel
theorem dX6_tellingOne_17 : decode cX6_tellingOne 17 = .ok (.land, 1) := by decide +kernel
theorem dX6_tellingOne_18 : decode cX6_tellingOne 18 = .ok (.goto 4, 3) := by decide +kernel
theorem dX6_tellingOne_21 : decode cX6_tellingOne 21 = .ok (.lconst 0, 1) := by decide +kernel
theorem dX6_tellingOne_22 : decode cX6_tellingOne 22 = .ok (.lreturn, 1) := by decide +kernel
theorem dX6_beginningWith_0 : decode cX6_beginningWith 0 = .ok (.aload_n 0, 1) := by decide +kernel
theorem dX6_beginningWith_1 : decode cX6_beginningWith 1 = .ok (.invokevirtual 76, 3) := by decide +kernel
theorem dX6_beginningWith_4 : decode cX6_beginningWith 4 = .ok (.lstore 4, 2) := by decide +kernel
theorem dX6_beginningWith_6 : decode cX6_beginningWith 6 = .ok (.iconst 0, 1) := by decide +kernel
theorem dX6_beginningWith_7 : decode cX6_beginningWith 7 = .ok (.istore 6, 2) := by decide +kernel
theorem dX6_beginningWith_9 : decode cX6_beginningWith 9 = .ok (.iload 6, 2) := by decide +kernel
theorem dX6_beginningWith_11 : decode cX6_beginningWith 11 = .ok (.iload_n 3, 1) := by decide +kernel
theorem dX6_beginningWith_12 : decode cX6_beginningWith 12 = .ok (.if_icmp .ge 51, 3) := by decide +kernel
theorem dX6_beginningWith_15 : decode cX6_beginningWith 15 = .ok (.lload 4, 2) := by decide +kernel
theorem dX6_beginningWith_17 : decode cX6_beginningWith 17 = .ok (.lconst 0, 1) := by decide +kernel
theorem dX6_beginningWith_18 : decode cX6_beginningWith 18 = .ok (.lcmp, 1) := by decide +kernel
theorem dX6_beginningWith_19 : decode cX6_beginningWith 19 = .ok (.ifCond .eq 44, 3) := by decide +kernel
theorem dX6_beginningWith_22 : decode cX6_beginningWith 22 = .ok (.aload_n 0, 1) := by decide +kernel
theorem dX6_beginningWith_23 : decode cX6_beginningWith 23 = .ok (.lload 4, 2) := by decide +kernel
theorem dX6_beginningWith_25 : decode cX6_beginningWith 25 = .ok (.iload 6, 2) := by decide +kernel
theorem dX6_beginningWith_27 : decode cX6_beginningWith 27 = .ok (.invokevirtual 79, 3) := by decide +kernel
theorem dX6_beginningWith_30 : decode cX6_beginningWith 30 = .ok (.lstore 7, 2) := by decide +kernel
theorem dX6_beginningWith_32 : decode cX6_beginningWith 32 = .ok (.lload_n 1, 1) := by decide +kernel
theorem dX6_beginningWith_33 : decode cX6_beginningWith 33 = .ok (.iload 6, 2) := by decide +kernel
theorem dX6_beginningWith_35 : decode cX6_beginningWith 35 = .ok (.invokestatic 57, 3) := by decide +kernel
theorem dX6_beginningWith_38 : decode cX6_beginningWith 38 = .ok (.ifCond .eq 8, 3) := by decide +kernel
theorem dX6_beginningWith_41 : decode cX6_beginningWith 41 = .ok (.lload 7, 2) := by decide +kernel
theorem dX6_beginningWith_43 : decode cX6_beginningWith 43 = .ok (.goto 12, 3) := by decide +kernel
theorem dX6_beginningWith_46 : decode cX6_beginningWith 46 = .ok (.lload 4, 2) := by decide +kernel
theorem dX6_beginningWith_48 : decode cX6_beginningWith 48 = .ok (.lload 7, 2) := by decide +kernel
theorem dX6_beginningWith_50 : decode cX6_beginningWith 50 = .ok (.ldc2_w 70, 3) := by decide +kernel
theorem dX6_beginningWith_53 : decode cX6_beginningWith 53 = .ok (.lxor, 1) := by decide +kernel
theorem dX6_beginningWith_54 : decode cX6_beginningWith 54 = .ok (.land, 1) := by decide +kernel
theorem dX6_beginningWith_55 : decode cX6_beginningWith 55 = .ok (.lstore 4, 2) := by decide +kernel
theorem dX6_beginningWith_57 : decode cX6_beginningWith 57 = .ok (.iinc 6 1, 3) := by decide +kernel
theorem dX6_beginningWith_60 : decode cX6_beginningWith 60 = .ok (.goto (-51), 3) := by decide +kernel
theorem dX6_beginningWith_63 : decode cX6_beginningWith 63 = .ok (.lload 4, 2) := by decide +kernel
theorem dX6_beginningWith_65 : decode cX6_beginningWith 65 = .ok (.lreturn, 1) := by decide +kernel
theorem dX6_draw_0 : decode cX6_draw 0 = .ok (.aload_n 0, 1) := by decide +kernel
theorem dX6_draw_1 : decode cX6_draw 1 = .ok (.iload_n 1, 1) := by decide +kernel
theorem dX6_draw_2 : decode cX6_draw 2 = .ok (.invokevirtual 83, 3) := by decide +kernel
theorem dX6_draw_5 : decode cX6_draw 5 = .ok (.ifCond .eq 8, 3) := by decide +kernel
theorem dX6_draw_8 : decode cX6_draw 8 = .ok (.iload_n 2, 1) := by decide +kernel
theorem dX6_draw_9 : decode cX6_draw 9 = .ok (.iconst 1, 1) := by decide +kernel
theorem dX6_draw_10 : decode cX6_draw 10 = .ok (.if_icmp .ge 5, 3) := by decide +kernel
theorem dX6_draw_13 : decode cX6_draw 13 = .ok (.iconst 0, 1) := by decide +kernel
theorem dX6_draw_14 : decode cX6_draw 14 = .ok (.ireturn, 1) := by decide +kernel
theorem dX6_draw_15 : decode cX6_draw 15 = .ok (.aload_n 0, 1) := by decide +kernel
theorem dX6_draw_16 : decode cX6_draw 16 = .ok (.getfield 19, 3) := by decide +kernel
theorem dX6_draw_19 : decode cX6_draw 19 = .ok (.iload_n 1, 1) := by decide +kernel
theorem dX6_draw_20 : decode cX6_draw 20 = .ok (.ldc 87, 2) := by decide +kernel
theorem dX6_draw_22 : decode cX6_draw 22 = .ok (.aload_n 0, 1) := by decide +kernel
theorem dX6_draw_23 : decode cX6_draw 23 = .ok (.getfield 19, 3) := by decide +kernel
theorem dX6_draw_26 : decode cX6_draw 26 = .ok (.iload_n 1, 1) := by decide +kernel
theorem dX6_draw_27 : decode cX6_draw 27 = .ok (.iaload, 1) := by decide +kernel
theorem dX6_draw_28 : decode cX6_draw 28 = .ok (.imul, 1) := by decide +kernel
theorem dX6_draw_29 : decode cX6_draw 29 = .ok (.sipush 12345, 3) := by decide +kernel
theorem dX6_draw_32 : decode cX6_draw 32 = .ok (.iadd, 1) := by decide +kernel
theorem dX6_draw_33 : decode cX6_draw 33 = .ok (.iastore, 1) := by decide +kernel
theorem dX6_draw_34 : decode cX6_draw 34 = .ok (.aload_n 0, 1) := by decide +kernel
theorem dX6_draw_35 : decode cX6_draw 35 = .ok (.getfield 19, 3) := by decide +kernel
theorem dX6_draw_38 : decode cX6_draw 38 = .ok (.iload_n 1, 1) := by decide +kernel
theorem dX6_draw_39 : decode cX6_draw 39 = .ok (.iaload, 1) := by decide +kernel
theorem dX6_draw_40 : decode cX6_draw 40 = .ok (.bipush 16, 2) := by decide +kernel
theorem dX6_draw_42 : decode cX6_draw 42 = .ok (.iushr, 1) := by decide +kernel
theorem dX6_draw_43 : decode cX6_draw 43 = .ok (.iload_n 2, 1) := by decide +kernel
theorem dX6_draw_44 : decode cX6_draw 44 = .ok (.irem, 1) := by decide +kernel
theorem dX6_draw_45 : decode cX6_draw 45 = .ok (.ireturn, 1) := by decide +kernel
theorem dX6_copyFrom_0 : decode cX6_copyFrom 0 = .ok (.aload_n 1, 1) := by decide +kernel
theorem dX6_copyFrom_1 : decode cX6_copyFrom 1 = .ok (.getfield 9, 3) := by decide +kernel
theorem dX6_copyFrom_4 : decode cX6_copyFrom 4 = .ok (.iconst 0, 1) := by decide +kernel
theorem dX6_copyFrom_5 : decode cX6_copyFrom 5 = .ok (.aload_n 0, 1) := by decide +kernel
theorem dX6_copyFrom_6 : decode cX6_copyFrom 6 = .ok (.getfield 9, 3) := by decide +kernel
theorem dX6_copyFrom_9 : decode cX6_copyFrom 9 = .ok (.iconst 0, 1) := by decide +kernel
theorem dX6_copyFrom_10 : decode cX6_copyFrom 10 = .ok (.bipush 40, 2) := by decide +kernel
theorem dX6_copyFrom_12 : decode cX6_copyFrom 12 = .ok (.invokestatic 88, 3) := by decide +kernel
theorem dX6_copyFrom_15 : decode cX6_copyFrom 15 = .ok (.aload_n 1, 1) := by decide +kernel
theorem dX6_copyFrom_16 : decode cX6_copyFrom 16 = .ok (.getfield 15, 3) := by decide +kernel
theorem dX6_copyFrom_19 : decode cX6_copyFrom 19 = .ok (.iconst 0, 1) := by decide +kernel
theorem dX6_copyFrom_20 : decode cX6_copyFrom 20 = .ok (.aload_n 0, 1) := by decide +kernel
theorem dX6_copyFrom_21 : decode cX6_copyFrom 21 = .ok (.getfield 15, 3) := by decide +kernel
theorem dX6_copyFrom_24 : decode cX6_copyFrom 24 = .ok (.iconst 0, 1) := by decide +kernel
theorem dX6_copyFrom_25 : decode cX6_copyFrom 25 = .ok (.bipush 40, 2) := by decide +kernel
theorem dX6_copyFrom_27 : decode cX6_copyFrom 27 = .ok (.invokestatic 88, 3) := by decide +kernel
theorem dX6_copyFrom_30 : decode cX6_copyFrom 30 = .ok (.aload_n 1, 1) := by decide +kernel
theorem dX6_copyFrom_31 : decode cX6_copyFrom 31 = .ok (.getfield 19, 3) := by decide +kernel
theorem dX6_copyFrom_34 : decode cX6_copyFrom 34 = .ok (.iconst 0, 1) := by decide +kernel
theorem dX6_copyFrom_35 : decode cX6_copyFrom 35 = .ok (.aload_n 0, 1) := by decide +kernel
theorem dX6_copyFrom_36 : decode cX6_copyFrom 36 = .ok (.getfield 19, 3) := by decide +kernel
theorem dX6_copyFrom_39 : decode cX6_copyFrom 39 = .ok (.iconst 0, 1) := by decide +kernel
theorem dX6_copyFrom_40 : decode cX6_copyFrom 40 = .ok (.bipush 40, 2) := by decide +kernel
theorem dX6_copyFrom_42 : decode cX6_copyFrom 42 = .ok (.invokestatic 88, 3) := by decide +kernel
theorem dX6_copyFrom_45 : decode cX6_copyFrom 45 = .ok (.aload_n 1, 1) := by decide +kernel
theorem dX6_copyFrom_46 : decode cX6_copyFrom 46 = .ok (.getfield 22, 3) := by decide +kernel
theorem dX6_copyFrom_49 : decode cX6_copyFrom 49 = .ok (.iconst 0, 1) := by decide +kernel
theorem dX6_copyFrom_50 : decode cX6_copyFrom 50 = .ok (.aload_n 0, 1) := by decide +kernel
theorem dX6_copyFrom_51 : decode cX6_copyFrom 51 = .ok (.getfield 22, 3) := by decide +kernel
theorem dX6_copyFrom_54 : decode cX6_copyFrom 54 = .ok (.iconst 0, 1) := by decide +kernel
theorem dX6_copyFrom_55 : decode cX6_copyFrom 55 = .ok (.bipush 64, 2) := by decide +kernel
theorem dX6_copyFrom_57 : decode cX6_copyFrom 57 = .ok (.invokestatic 88, 3) := by decide +kernel
theorem dX6_copyFrom_60 : decode cX6_copyFrom 60 = .ok (.aload_n 1, 1) := by decide +kernel
theorem dX6_copyFrom_61 : decode cX6_copyFrom 61 = .ok (.getfield 25, 3) := by decide +kernel
theorem dX6_copyFrom_64 : decode cX6_copyFrom 64 = .ok (.iconst 0, 1) := by decide +kernel
theorem dX6_copyFrom_65 : decode cX6_copyFrom 65 = .ok (.aload_n 0, 1) := by decide +kernel
theorem dX6_copyFrom_66 : decode cX6_copyFrom 66 = .ok (.getfield 25, 3) := by decide +kernel
theorem dX6_copyFrom_69 : decode cX6_copyFrom 69 = .ok (.iconst 0, 1) := by decide +kernel
theorem dX6_copyFrom_70 : decode cX6_copyFrom 70 = .ok (.bipush 6, 2) := by decide +kernel
theorem dX6_copyFrom_72 : decode cX6_copyFrom 72 = .ok (.invokestatic 88, 3) := by decide +kernel
theorem dX6_copyFrom_75 : decode cX6_copyFrom 75 = .ok (.aload_n 0, 1) := by decide +kernel
theorem dX6_copyFrom_76 : decode cX6_copyFrom 76 = .ok (.aload_n 1, 1) := by decide +kernel
theorem dX6_copyFrom_77 : decode cX6_copyFrom 77 = .ok (.getfield 28, 3) := by decide +kernel
theorem dX6_copyFrom_80 : decode cX6_copyFrom 80 = .ok (.putfield 28, 3) := by decide +kernel
theorem dX6_copyFrom_83 : decode cX6_copyFrom 83 = .ok (.aload_n 0, 1) := by decide +kernel
theorem dX6_copyFrom_84 : decode cX6_copyFrom 84 = .ok (.aload_n 1, 1) := by decide +kernel
theorem dX6_copyFrom_85 : decode cX6_copyFrom 85 = .ok (.getfield 40, 3) := by decide +kernel
theorem dX6_copyFrom_88 : decode cX6_copyFrom 88 = .ok (.putfield 40, 3) := by decide +kernel
theorem dX6_copyFrom_91 : decode cX6_copyFrom 91 = .ok (.aload_n 0, 1) := by decide +kernel
theorem dX6_copyFrom_92 : decode cX6_copyFrom 92 = .ok (.aload_n 1, 1) := by decide +kernel
theorem dX6_copyFrom_93 : decode cX6_copyFrom 93 = .ok (.getfield 44, 3) := by decide +kernel
theorem dX6_copyFrom_96 : decode cX6_copyFrom 96 = .ok (.putfield 44, 3) := by decide +kernel
theorem dX6_copyFrom_99 : decode cX6_copyFrom 99 = .ok (.aload_n 0, 1) := by decide +kernel
theorem dX6_copyFrom_100 : decode cX6_copyFrom 100 = .ok (.aload_n 1, 1) := by decide +kernel
theorem dX6_copyFrom_101 : decode cX6_copyFrom 101 = .ok (.getfield 50, 3) := by decide +kernel
theorem dX6_copyFrom_104 : decode cX6_copyFrom 104 = .ok (.putfield 50, 3) := by decide +kernel
theorem dX6_copyFrom_107 : decode cX6_copyFrom 107 = .ok (.aload_n 0, 1) := by decide +kernel
theorem dX6_copyFrom_108 : decode cX6_copyFrom 108 = .ok (.aload_n 1, 1) := by decide +kernel
theorem dX6_copyFrom_109 : decode cX6_copyFrom 109 = .ok (.getfield 61, 3) := by decide +kernel
theorem dX6_copyFrom_112 : decode cX6_copyFrom 112 = .ok (.putfield 61, 3) := by decide +kernel
theorem dX6_copyFrom_115 : decode cX6_copyFrom 115 = .ok (.aload_n 0, 1) := by decide +kernel
theorem dX6_copyFrom_116 : decode cX6_copyFrom 116 = .ok (.aload_n 1, 1) := by decide +kernel
theorem dX6_copyFrom_117 : decode cX6_copyFrom 117 = .ok (.getfield 64, 3) := by decide +kernel
theorem dX6_copyFrom_120 : decode cX6_copyFrom 120 = .ok (.putfield 64, 3) := by decide +kernel
theorem dX6_copyFrom_123 : decode cX6_copyFrom 123 = .ok (.return_, 1) := by decide +kernel
theorem dX7_init_0 : decode cX7_init 0 = .ok (.aload_n 0, 1) := by decide +kernel
theorem dX7_init_1 : decode cX7_init 1 = .ok (.invokespecial 3, 3) := by decide +kernel
theorem dX7_init_4 : decode cX7_init 4 = .ok (.aload_n 0, 1) := by decide +kernel
theorem dX7_init_5 : decode cX7_init 5 = .ok (.sipush 200, 3) := by decide +kernel
theorem dX7_init_8 : decode cX7_init 8 = .ok (.newarray .int, 2) := by decide +kernel
theorem dX7_init_10 : decode cX7_init 10 = .ok (.putfield 9, 3) := by decide +kernel
theorem dX7_init_13 : decode cX7_init 13 = .ok (.return_, 1) := by decide +kernel
theorem dX7_addFound_0 : decode cX7_addFound 0 = .ok (.aload_n 0, 1) := by decide +kernel
theorem dX7_addFound_1 : decode cX7_addFound 1 = .ok (.getfield 15, 3) := by decide +kernel
theorem dX7_addFound_4 : decode cX7_addFound 4 = .ok (.sipush 200, 3) := by decide +kernel
theorem dX7_addFound_7 : decode cX7_addFound 7 = .ok (.if_icmp .ge 23, 3) := by decide +kernel
theorem dX7_addFound_10 : decode cX7_addFound 10 = .ok (.aload_n 0, 1) := by decide +kernel
theorem dX7_addFound_11 : decode cX7_addFound 11 = .ok (.getfield 9, 3) := by decide +kernel
theorem dX7_addFound_14 : decode cX7_addFound 14 = .ok (.aload_n 0, 1) := by decide +kernel
theorem dX7_addFound_15 : decode cX7_addFound 15 = .ok (.getfield 15, 3) := by decide +kernel
theorem dX7_addFound_18 : decode cX7_addFound 18 = .ok (.iload_n 1, 1) := by decide +kernel
theorem dX7_addFound_19 : decode cX7_addFound 19 = .ok (.iastore, 1) := by decide +kernel
theorem dX7_addFound_20 : decode cX7_addFound 20 = .ok (.aload_n 0, 1) := by decide +kernel
theorem dX7_addFound_21 : decode cX7_addFound 21 = .ok (.dup, 1) := by decide +kernel
theorem dX7_addFound_22 : decode cX7_addFound 22 = .ok (.getfield 15, 3) := by decide +kernel
theorem dX7_addFound_25 : decode cX7_addFound 25 = .ok (.iconst 1, 1) := by decide +kernel
theorem dX7_addFound_26 : decode cX7_addFound 26 = .ok (.iadd, 1) := by decide +kernel
theorem dX7_addFound_27 : decode cX7_addFound 27 = .ok (.putfield 15, 3) := by decide +kernel
theorem dX7_addFound_30 : decode cX7_addFound 30 = .ok (.return_, 1) := by decide +kernel
theorem dX7_foundAt_0 : decode cX7_foundAt 0 = .ok (.iload_n 1, 1) := by decide +kernel
theorem dX7_foundAt_1 : decode cX7_foundAt 1 = .ok (.ifCond .lt 20, 3) := by decide +kernel
theorem dX7_foundAt_4 : decode cX7_foundAt 4 = .ok (.iload_n 1, 1) := by decide +kernel
theorem dX7_foundAt_5 : decode cX7_foundAt 5 = .ok (.aload_n 0, 1) := by decide +kernel
theorem dX7_foundAt_6 : decode cX7_foundAt 6 = .ok (.getfield 15, 3) := by decide +kernel
theorem dX7_foundAt_9 : decode cX7_foundAt 9 = .ok (.if_icmp .ge 12, 3) := by decide +kernel
theorem dX7_foundAt_12 : decode cX7_foundAt 12 = .ok (.aload_n 0, 1) := by decide +kernel
theorem dX7_foundAt_13 : decode cX7_foundAt 13 = .ok (.getfield 9, 3) := by decide +kernel
theorem dX7_foundAt_16 : decode cX7_foundAt 16 = .ok (.iload_n 1, 1) := by decide +kernel
theorem dX7_foundAt_17 : decode cX7_foundAt 17 = .ok (.iaload, 1) := by decide +kernel
theorem dX7_foundAt_18 : decode cX7_foundAt 18 = .ok (.goto 4, 3) := by decide +kernel
theorem dX7_foundAt_21 : decode cX7_foundAt 21 = .ok (.iconst (-1), 1) := by decide +kernel
theorem dX7_foundAt_22 : decode cX7_foundAt 22 = .ok (.ireturn, 1) := by decide +kernel
theorem dX7_timesFound_0 : decode cX7_timesFound 0 = .ok (.iconst 0, 1) := by decide +kernel
theorem dX7_timesFound_1 : decode cX7_timesFound 1 = .ok (.istore_n 2, 1) := by decide +kernel
theorem dX7_timesFound_2 : decode cX7_timesFound 2 = .ok (.iconst 0, 1) := by decide +kernel
theorem dX7_timesFound_3 : decode cX7_timesFound 3 = .ok (.istore_n 3, 1) := by decide +kernel
theorem dX7_timesFound_4 : decode cX7_timesFound 4 = .ok (.iload_n 3, 1) := by decide +kernel
theorem dX7_timesFound_5 : decode cX7_timesFound 5 = .ok (.aload_n 0, 1) := by decide +kernel
theorem dX7_timesFound_6 : decode cX7_timesFound 6 = .ok (.getfield 15, 3) := by decide +kernel
theorem dX7_timesFound_9 : decode cX7_timesFound 9 = .ok (.if_icmp .ge 22, 3) := by decide +kernel
theorem dX7_timesFound_12 : decode cX7_timesFound 12 = .ok (.aload_n 0, 1) := by decide +kernel
theorem dX7_timesFound_13 : decode cX7_timesFound 13 = .ok (.getfield 9, 3) := by decide +kernel
theorem dX7_timesFound_16 : decode cX7_timesFound 16 = .ok (.iload_n 3, 1) := by decide +kernel
theorem dX7_timesFound_17 : decode cX7_timesFound 17 = .ok (.iaload, 1) := by decide +kernel
theorem dX7_timesFound_18 : decode cX7_timesFound 18 = .ok (.iload_n 1, 1) := by decide +kernel
theorem dX7_timesFound_19 : decode cX7_timesFound 19 = .ok (.if_icmp .ne 6, 3) := by decide +kernel
theorem dX7_timesFound_22 : decode cX7_timesFound 22 = .ok (.iinc 2 1, 3) := by decide +kernel
theorem dX7_timesFound_25 : decode cX7_timesFound 25 = .ok (.iinc 3 1, 3) := by decide +kernel
theorem dX7_timesFound_28 : decode cX7_timesFound 28 = .ok (.goto (-24), 3) := by decide +kernel
theorem dX7_timesFound_31 : decode cX7_timesFound 31 = .ok (.iload_n 2, 1) := by decide +kernel
theorem dX7_timesFound_32 : decode cX7_timesFound 32 = .ok (.ireturn, 1) := by decide +kernel
theorem dX7_addSlot_0 : decode cX7_addSlot 0 = .ok (.iload_n 1, 1) := by decide +kernel
theorem dX7_addSlot_1 : decode cX7_addSlot 1 = .ok (.ifCond .ne 16, 3) := by decide +kernel
theorem dX7_addSlot_4 : decode cX7_addSlot 4 = .ok (.aload_n 0, 1) := by decide +kernel
theorem dX7_addSlot_5 : decode cX7_addSlot 5 = .ok (.dup, 1) := by decide +kernel
theorem dX7_addSlot_6 : decode cX7_addSlot 6 = .ok (.getfield 19, 3) := by decide +kernel
theorem dX7_addSlot_9 : decode cX7_addSlot 9 = .ok (.iconst 1, 1) := by decide +kernel
theorem dX7_addSlot_10 : decode cX7_addSlot 10 = .ok (.iadd, 1) := by decide +kernel
theorem dX7_addSlot_11 : decode cX7_addSlot 11 = .ok (.putfield 19, 3) := by decide +kernel
theorem dX7_addSlot_14 : decode cX7_addSlot 14 = .ok (.goto 31, 3) := by decide +kernel
theorem dX7_addSlot_17 : decode cX7_addSlot 17 = .ok (.iload_n 1, 1) := by decide +kernel
theorem dX7_addSlot_18 : decode cX7_addSlot 18 = .ok (.iconst 1, 1) := by decide +kernel
theorem dX7_addSlot_19 : decode cX7_addSlot 19 = .ok (.if_icmp .ne 16, 3) := by decide +kernel
theorem dX7_addSlot_22 : decode cX7_addSlot 22 = .ok (.aload_n 0, 1) := by decide +kernel
theorem dX7_addSlot_23 : decode cX7_addSlot 23 = .ok (.dup, 1) := by decide +kernel
theorem dX7_addSlot_24 : decode cX7_addSlot 24 = .ok (.getfield 22, 3) := by decide +kernel
theorem dX7_addSlot_27 : decode cX7_addSlot 27 = .ok (.iconst 1, 1) := by decide +kernel
theorem dX7_addSlot_28 : decode cX7_addSlot 28 = .ok (.iadd, 1) := by decide +kernel
theorem dX7_addSlot_29 : decode cX7_addSlot 29 = .ok (.putfield 22, 3) := by decide +kernel
theorem dX7_addSlot_32 : decode cX7_addSlot 32 = .ok (.goto 13, 3) := by decide +kernel
theorem dX7_addSlot_35 : decode cX7_addSlot 35 = .ok (.aload_n 0, 1) := by decide +kernel
theorem dX7_addSlot_36 : decode cX7_addSlot 36 = .ok (.dup, 1) := by decide +kernel
theorem dX7_addSlot_37 : decode cX7_addSlot 37 = .ok (.getfield 25, 3) := by decide +kernel
theorem dX7_addSlot_40 : decode cX7_addSlot 40 = .ok (.iconst 1, 1) := by decide +kernel
theorem dX7_addSlot_41 : decode cX7_addSlot 41 = .ok (.iadd, 1) := by decide +kernel
theorem dX7_addSlot_42 : decode cX7_addSlot 42 = .ok (.putfield 25, 3) := by decide +kernel
theorem dX7_addSlot_45 : decode cX7_addSlot 45 = .ok (.return_, 1) := by decide +kernel
theorem dX7_addPassSlots_0 : decode cX7_addPassSlots 0 = .ok (.aload_n 0, 1) := by decide +kernel
theorem dX7_addPassSlots_1 : decode cX7_addPassSlots 1 = .ok (.dup, 1) := by decide +kernel
theorem dX7_addPassSlots_2 : decode cX7_addPassSlots 2 = .ok (.getfield 28, 3) := by decide +kernel
theorem dX7_addPassSlots_5 : decode cX7_addPassSlots 5 = .ok (.iconst 1, 1) := by decide +kernel
theorem dX7_addPassSlots_6 : decode cX7_addPassSlots 6 = .ok (.iconst 3, 1) := by decide +kernel
theorem dX7_addPassSlots_7 : decode cX7_addPassSlots 7 = .ok (.iload_n 1, 1) := by decide +kernel
theorem dX7_addPassSlots_8 : decode cX7_addPassSlots 8 = .ok (.imul, 1) := by decide +kernel
theorem dX7_addPassSlots_9 : decode cX7_addPassSlots 9 = .ok (.iadd, 1) := by decide +kernel
theorem dX7_addPassSlots_10 : decode cX7_addPassSlots 10 = .ok (.iadd, 1) := by decide +kernel
theorem dX7_addPassSlots_11 : decode cX7_addPassSlots 11 = .ok (.putfield 28, 3) := by decide +kernel
theorem dX7_addPassSlots_14 : decode cX7_addPassSlots 14 = .ok (.return_, 1) := by decide +kernel
theorem dX7_allSlots_0 : decode cX7_allSlots 0 = .ok (.aload_n 0, 1) := by decide +kernel
theorem dX7_allSlots_1 : decode cX7_allSlots 1 = .ok (.getfield 19, 3) := by decide +kernel
theorem dX7_allSlots_4 : decode cX7_allSlots 4 = .ok (.aload_n 0, 1) := by decide +kernel
theorem dX7_allSlots_5 : decode cX7_allSlots 5 = .ok (.getfield 22, 3) := by decide +kernel
theorem dX7_allSlots_8 : decode cX7_allSlots 8 = .ok (.iadd, 1) := by decide +kernel
theorem dX7_allSlots_9 : decode cX7_allSlots 9 = .ok (.aload_n 0, 1) := by decide +kernel
theorem dX7_allSlots_10 : decode cX7_allSlots 10 = .ok (.getfield 25, 3) := by decide +kernel
theorem dX7_allSlots_13 : decode cX7_allSlots 13 = .ok (.iadd, 1) := by decide +kernel
theorem dX7_allSlots_14 : decode cX7_allSlots 14 = .ok (.aload_n 0, 1) := by decide +kernel
theorem dX7_allSlots_15 : decode cX7_allSlots 15 = .ok (.getfield 28, 3) := by decide +kernel
theorem dX7_allSlots_18 : decode cX7_allSlots 18 = .ok (.iadd, 1) := by decide +kernel
theorem dX7_allSlots_19 : decode cX7_allSlots 19 = .ok (.ireturn, 1) := by decide +kernel
theorem dX7_copyFrom_0 : decode cX7_copyFrom 0 = .ok (.aload_n 1, 1) := by decide +kernel
theorem dX7_copyFrom_1 : decode cX7_copyFrom 1 = .ok (.getfield 9, 3) := by decide +kernel
theorem dX7_copyFrom_4 : decode cX7_copyFrom 4 = .ok (.iconst 0, 1) := by decide +kernel
theorem dX7_copyFrom_5 : decode cX7_copyFrom 5 = .ok (.aload_n 0, 1) := by decide +kernel
theorem dX7_copyFrom_6 : decode cX7_copyFrom 6 = .ok (.getfield 9, 3) := by decide +kernel
theorem dX7_copyFrom_9 : decode cX7_copyFrom 9 = .ok (.iconst 0, 1) := by decide +kernel
theorem dX7_copyFrom_10 : decode cX7_copyFrom 10 = .ok (.sipush 200, 3) := by decide +kernel
theorem dX7_copyFrom_13 : decode cX7_copyFrom 13 = .ok (.invokestatic 31, 3) := by decide +kernel
theorem dX7_copyFrom_16 : decode cX7_copyFrom 16 = .ok (.aload_n 0, 1) := by decide +kernel
theorem dX7_copyFrom_17 : decode cX7_copyFrom 17 = .ok (.aload_n 1, 1) := by decide +kernel
theorem dX7_copyFrom_18 : decode cX7_copyFrom 18 = .ok (.getfield 15, 3) := by decide +kernel
theorem dX7_copyFrom_21 : decode cX7_copyFrom 21 = .ok (.putfield 15, 3) := by decide +kernel
theorem dX7_copyFrom_24 : decode cX7_copyFrom 24 = .ok (.aload_n 0, 1) := by decide +kernel
theorem dX7_copyFrom_25 : decode cX7_copyFrom 25 = .ok (.aload_n 1, 1) := by decide +kernel
theorem dX7_copyFrom_26 : decode cX7_copyFrom 26 = .ok (.getfield 19, 3) := by decide +kernel
theorem dX7_copyFrom_29 : decode cX7_copyFrom 29 = .ok (.putfield 19, 3) := by decide +kernel
theorem dX7_copyFrom_32 : decode cX7_copyFrom 32 = .ok (.aload_n 0, 1) := by decide +kernel
theorem dX7_copyFrom_33 : decode cX7_copyFrom 33 = .ok (.aload_n 1, 1) := by decide +kernel
theorem dX7_copyFrom_34 : decode cX7_copyFrom 34 = .ok (.getfield 22, 3) := by decide +kernel
theorem dX7_copyFrom_37 : decode cX7_copyFrom 37 = .ok (.putfield 22, 3) := by decide +kernel
theorem dX7_copyFrom_40 : decode cX7_copyFrom 40 = .ok (.aload_n 0, 1) := by decide +kernel
theorem dX7_copyFrom_41 : decode cX7_copyFrom 41 = .ok (.aload_n 1, 1) := by decide +kernel
theorem dX7_copyFrom_42 : decode cX7_copyFrom 42 = .ok (.getfield 25, 3) := by decide +kernel
theorem dX7_copyFrom_45 : decode cX7_copyFrom 45 = .ok (.putfield 25, 3) := by decide +kernel
theorem dX7_copyFrom_48 : decode cX7_copyFrom 48 = .ok (.aload_n 0, 1) := by decide +kernel
theorem dX7_copyFrom_49 : decode cX7_copyFrom 49 = .ok (.aload_n 1, 1) := by decide +kernel
theorem dX7_copyFrom_50 : decode cX7_copyFrom 50 = .ok (.getfield 28, 3) := by decide +kernel
theorem dX7_copyFrom_53 : decode cX7_copyFrom 53 = .ok (.putfield 28, 3) := by decide +kernel
theorem dX7_copyFrom_56 : decode cX7_copyFrom 56 = .ok (.return_, 1) := by decide +kernel
theorem dX8_init_0 : decode cX8_init 0 = .ok (.aload_n 0, 1) := by decide +kernel
theorem dX8_init_1 : decode cX8_init 1 = .ok (.invokespecial 3, 3) := by decide +kernel
theorem dX8_init_4 : decode cX8_init 4 = .ok (.aload_n 0, 1) := by decide +kernel
theorem dX8_init_5 : decode cX8_init 5 = .ok (.new 9, 3) := by decide +kernel
theorem dX8_init_8 : decode cX8_init 8 = .ok (.dup, 1) := by decide +kernel
theorem dX8_init_9 : decode cX8_init 9 = .ok (.invokespecial 11, 3) := by decide +kernel
theorem dX8_init_12 : decode cX8_init 12 = .ok (.putfield 12, 3) := by decide +kernel
theorem dX8_init_15 : decode cX8_init 15 = .ok (.aload_n 0, 1) := by decide +kernel
theorem dX8_init_16 : decode cX8_init 16 = .ok (.iconst 4, 1) := by decide +kernel
theorem dX8_init_17 : decode cX8_init 17 = .ok (.anewarray 9, 3) := by decide +kernel
theorem dX8_init_20 : decode cX8_init 20 = .ok (.putfield 16, 3) := by decide +kernel
theorem dX8_init_23 : decode cX8_init 23 = .ok (.aload_n 0, 1) := by decide +kernel
theorem dX8_init_24 : decode cX8_init 24 = .ok (.bipush 64, 2) := by decide +kernel
theorem dX8_init_26 : decode cX8_init 26 = .ok (.newarray .long, 2) := by decide +kernel
theorem dX8_init_28 : decode cX8_init 28 = .ok (.putfield 20, 3) := by decide +kernel
theorem dX8_init_31 : decode cX8_init 31 = .ok (.aload_n 0, 1) := by decide +kernel
theorem dX8_init_32 : decode cX8_init 32 = .ok (.new 24, 3) := by decide +kernel
theorem dX8_init_35 : decode cX8_init 35 = .ok (.dup, 1) := by decide +kernel
theorem dX8_init_36 : decode cX8_init 36 = .ok (.invokespecial 26, 3) := by decide +kernel
theorem dX8_init_39 : decode cX8_init 39 = .ok (.putfield 27, 3) := by decide +kernel
theorem dX8_init_42 : decode cX8_init 42 = .ok (.return_, 1) := by decide +kernel
theorem dX8_wire_0 : decode cX8_wire 0 = .ok (.iload_n 1, 1) := by decide +kernel
theorem dX8_wire_1 : decode cX8_wire 1 = .ok (.ifCond .eq 10, 3) := by decide +kernel
theorem dX8_wire_4 : decode cX8_wire 4 = .ok (.iload_n 1, 1) := by decide +kernel
theorem dX8_wire_5 : decode cX8_wire 5 = .ok (.iconst 1, 1) := by decide +kernel
theorem dX8_wire_6 : decode cX8_wire 6 = .ok (.if_icmp .eq 5, 3) := by decide +kernel
theorem dX8_wire_9 : decode cX8_wire 9 = .ok (.iconst 0, 1) := by decide +kernel
theorem dX8_wire_10 : decode cX8_wire 10 = .ok (.ireturn, 1) := by decide +kernel
theorem dX8_wire_11 : decode cX8_wire 11 = .ok (.aload_n 0, 1) := by decide +kernel
theorem dX8_wire_12 : decode cX8_wire 12 = .ok (.getfield 12, 3) := by decide +kernel
theorem dX8_wire_15 : decode cX8_wire 15 = .ok (.iload_n 1, 1) := by decide +kernel
theorem dX8_wire_16 : decode cX8_wire 16 = .ok (.putfield 31, 3) := by decide +kernel
theorem dX8_wire_19 : decode cX8_wire 19 = .ok (.iconst 1, 1) := by decide +kernel
theorem dX8_wire_20 : decode cX8_wire 20 = .ok (.ireturn, 1) := by decide +kernel
theorem dX8_tag_0 : decode cX8_tag 0 = .ok (.lload_n 2, 1) := by decide +kernel
theorem dX8_tag_1 : decode cX8_tag 1 = .ok (.bipush 8, 2) := by decide +kernel
theorem dX8_tag_3 : decode cX8_tag 3 = .ok (.lshl, 1) := by decide +kernel
theorem dX8_tag_4 : decode cX8_tag 4 = .ok (.lload_n 2, 1) := by decide +kernel
theorem dX8_tag_5 : decode cX8_tag 5 = .ok (.bipush 8, 2) := by decide +kernel
theorem dX8_tag_7 : decode cX8_tag 7 = .ok (.lshl, 1) := by decide +kernel
theorem dX8_tag_8 : decode cX8_tag 8 = .ok (.invokestatic 35, 3) := by decide +kernel
theorem dX8_tag_11 : decode cX8_tag 11 = .ok (.i2l, 1) := by decide +kernel
theorem dX8_tag_12 : decode cX8_tag 12 = .ok (.lor, 1) := by decide +kernel
theorem dX8_tag_13 : decode cX8_tag 13 = .ok (.lstore 5, 2) := by decide +kernel
theorem dX8_tag_15 : decode cX8_tag 15 = .ok (.aload_n 0, 1) := by decide +kernel
theorem dX8_tag_16 : decode cX8_tag 16 = .ok (.getfield 12, 3) := by decide +kernel
theorem dX8_tag_19 : decode cX8_tag 19 = .ok (.getfield 39, 3) := by decide +kernel
theorem dX8_tag_22 : decode cX8_tag 22 = .ok (.iload_n 1, 1) := by decide +kernel
theorem dX8_tag_23 : decode cX8_tag 23 = .ok (.lload 5, 2) := by decide +kernel
theorem dX8_tag_25 : decode cX8_tag 25 = .ok (.iload 4, 2) := by decide +kernel
theorem dX8_tag_27 : decode cX8_tag 27 = .ok (.invokevirtual 43, 3) := by decide +kernel
theorem dX8_tag_30 : decode cX8_tag 30 = .ok (.ireturn, 1) := by decide +kernel
theorem dX8_name_0 : decode cX8_name 0 = .ok (.aload_n 0, 1) := by decide +kernel
theorem dX8_name_1 : decode cX8_name 1 = .ok (.getfield 12, 3) := by decide +kernel
theorem dX8_name_4 : decode cX8_name 4 = .ok (.getfield 39, 3) := by decide +kernel
theorem dX8_name_7 : decode cX8_name 7 = .ok (.iload_n 1, 1) := by decide +kernel
theorem dX8_name_8 : decode cX8_name 8 = .ok (.invokevirtual 49, 3) := by decide +kernel
theorem dX8_name_11 : decode cX8_name 11 = .ok (.ifCond .eq 18, 3) := by decide +kernel
theorem dX8_name_14 : decode cX8_name 14 = .ok (.aload_n 0, 1) := by decide +kernel
theorem dX8_name_15 : decode cX8_name 15 = .ok (.getfield 12, 3) := by decide +kernel
theorem dX8_name_18 : decode cX8_name 18 = .ok (.getfield 39, 3) := by decide +kernel
theorem dX8_name_21 : decode cX8_name 21 = .ok (.getfield 53, 3) := by decide +kernel
theorem dX8_name_24 : decode cX8_name 24 = .ok (.iload_n 1, 1) := by decide +kernel
theorem dX8_name_25 : decode cX8_name 25 = .ok (.laload, 1) := by decide +kernel
theorem dX8_name_26 : decode cX8_name 26 = .ok (.goto 4, 3) := by decide +kernel
theorem dX8_name_29 : decode cX8_name 29 = .ok (.lconst 0, 1) := by decide +kernel
theorem dX8_name_30 : decode cX8_name 30 = .ok (.lreturn, 1) := by decide +kernel
theorem dX8_isName_0 : decode cX8_isName 0 = .ok (.lload_n 1, 1) := by decide +kernel
theorem dX8_isName_1 : decode cX8_isName 1 = .ok (.ldc2_w 56, 3) := by decide +kernel
theorem dX8_isName_4 : decode cX8_isName 4 = .ok (.land, 1) := by decide +kernel
theorem dX8_isName_5 : decode cX8_isName 5 = .ok (.lload_n 1, 1) := by decide +kernel
theorem dX8_isName_6 : decode cX8_isName 6 = .ok (.invokestatic 35, 3) := by decide +kernel
theorem dX8_isName_9 : decode cX8_isName 9 = .ok (.i2l, 1) := by decide +kernel
theorem dX8_isName_10 : decode cX8_isName 10 = .ok (.lcmp, 1) := by decide +kernel
theorem dX8_isName_11 : decode cX8_isName 11 = .ok (.ifCond .ne 7, 3) := by decide +kernel
theorem dX8_isName_14 : decode cX8_isName 14 = .ok (.iconst 1, 1) := by decide +kernel
theorem dX8_isName_15 : decode cX8_isName 15 = .ok (.goto 4, 3) := by decide +kernel
theorem dX8_isName_18 : decode cX8_isName 18 = .ok (.iconst 0, 1) := by decide +kernel
theorem dX8_isName_19 : decode cX8_isName 19 = .ok (.ireturn, 1) := by decide +kernel
theorem dX8_tell_0 : decode cX8_tell 0 = .ok (.aload_n 0, 1) := by decide +kernel
theorem dX8_tell_1 : decode cX8_tell 1 = .ok (.getfield 12, 3) := by decide +kernel
theorem dX8_tell_4 : decode cX8_tell 4 = .ok (.getfield 39, 3) := by decide +kernel
theorem dX8_tell_7 : decode cX8_tell 7 = .ok (.iload_n 1, 1) := by decide +kernel
theorem dX8_tell_8 : decode cX8_tell 8 = .ok (.invokevirtual 49, 3) := by decide +kernel
theorem dX8_tell_11 : decode cX8_tell 11 = .ok (.ifCond .ne 5, 3) := by decide +kernel
theorem dX8_tell_14 : decode cX8_tell 14 = .ok (.iconst (-1), 1) := by decide +kernel
theorem dX8_tell_15 : decode cX8_tell 15 = .ok (.ireturn, 1) := by decide +kernel
theorem dX8_tell_16 : decode cX8_tell 16 = .ok (.iload_n 2, 1) := by decide +kernel
theorem dX8_tell_17 : decode cX8_tell 17 = .ok (.tableswitch 147 0 6 #[43, 56, 74, 92, 110, 122, 135], 43) := by decide +kernel
theorem dX8_tell_60 : decode cX8_tell 60 = .ok (.aload_n 0, 1) := by decide +kernel
theorem dX8_tell_61 : decode cX8_tell 61 = .ok (.getfield 12, 3) := by decide +kernel
theorem dX8_tell_64 : decode cX8_tell 64 = .ok (.getfield 39, 3) := by decide +kernel
theorem dX8_tell_67 : decode cX8_tell 67 = .ok (.getfield 58, 3) := by decide +kernel
theorem dX8_tell_70 : decode cX8_tell 70 = .ok (.iload_n 1, 1) := by decide +kernel
theorem dX8_tell_71 : decode cX8_tell 71 = .ok (.iaload, 1) := by decide +kernel
theorem dX8_tell_72 : decode cX8_tell 72 = .ok (.ireturn, 1) := by decide +kernel
theorem dX8_tell_73 : decode cX8_tell 73 = .ok (.aload_n 0, 1) := by decide +kernel
theorem dX8_tell_74 : decode cX8_tell 74 = .ok (.getfield 12, 3) := by decide +kernel
theorem dX8_tell_77 : decode cX8_tell 77 = .ok (.getfield 39, 3) := by decide +kernel
theorem dX8_tell_80 : decode cX8_tell 80 = .ok (.getfield 62, 3) := by decide +kernel
theorem dX8_tell_83 : decode cX8_tell 83 = .ok (.iload_n 1, 1) := by decide +kernel
theorem dX8_tell_84 : decode cX8_tell 84 = .ok (.invokestatic 66, 3) := by decide +kernel
theorem dX8_tell_87 : decode cX8_tell 87 = .ok (.invokestatic 70, 3) := by decide +kernel
theorem dX8_tell_90 : decode cX8_tell 90 = .ok (.ireturn, 1) := by decide +kernel
theorem dX8_tell_91 : decode cX8_tell 91 = .ok (.aload_n 0, 1) := by decide +kernel
theorem dX8_tell_92 : decode cX8_tell 92 = .ok (.getfield 12, 3) := by decide +kernel
theorem dX8_tell_95 : decode cX8_tell 95 = .ok (.getfield 39, 3) := by decide +kernel
theorem dX8_tell_98 : decode cX8_tell 98 = .ok (.getfield 74, 3) := by decide +kernel
theorem dX8_tell_101 : decode cX8_tell 101 = .ok (.iload_n 1, 1) := by decide +kernel
theorem dX8_tell_102 : decode cX8_tell 102 = .ok (.invokestatic 66, 3) := by decide +kernel
theorem dX8_tell_105 : decode cX8_tell 105 = .ok (.invokestatic 70, 3) := by decide +kernel
theorem dX8_tell_108 : decode cX8_tell 108 = .ok (.ireturn, 1) := by decide +kernel
theorem dX8_tell_109 : decode cX8_tell 109 = .ok (.aload_n 0, 1) := by decide +kernel
theorem dX8_tell_110 : decode cX8_tell 110 = .ok (.getfield 12, 3) := by decide +kernel
theorem dX8_tell_113 : decode cX8_tell 113 = .ok (.getfield 39, 3) := by decide +kernel
theorem dX8_tell_116 : decode cX8_tell 116 = .ok (.invokevirtual 77, 3) := by decide +kernel
theorem dX8_tell_119 : decode cX8_tell 119 = .ok (.iload_n 1, 1) := by decide +kernel
theorem dX8_tell_120 : decode cX8_tell 120 = .ok (.invokestatic 66, 3) := by decide +kernel
theorem dX8_tell_123 : decode cX8_tell 123 = .ok (.invokestatic 70, 3) := by decide +kernel
theorem dX8_tell_126 : decode cX8_tell 126 = .ok (.ireturn, 1) := by decide +kernel
theorem dX8_tell_127 : decode cX8_tell 127 = .ok (.aload_n 0, 1) := by decide +kernel
theorem dX8_tell_128 : decode cX8_tell 128 = .ok (.getfield 12, 3) := by decide +kernel
theorem dX8_tell_131 : decode cX8_tell 131 = .ok (.getfield 81, 3) := by decide +kernel
theorem dX8_tell_134 : decode cX8_tell 134 = .ok (.iload_n 1, 1) := by decide +kernel
theorem dX8_tell_135 : decode cX8_tell 135 = .ok (.invokevirtual 85, 3) := by decide +kernel
theorem dX8_tell_138 : decode cX8_tell 138 = .ok (.ireturn, 1) := by decide +kernel
theorem dX8_tell_139 : decode cX8_tell 139 = .ok (.aload_n 0, 1) := by decide +kernel
theorem dX8_tell_140 : decode cX8_tell 140 = .ok (.getfield 12, 3) := by decide +kernel
theorem dX8_tell_143 : decode cX8_tell 143 = .ok (.getfield 39, 3) := by decide +kernel
theorem dX8_tell_146 : decode cX8_tell 146 = .ok (.getfield 91, 3) := by decide +kernel
theorem dX8_tell_149 : decode cX8_tell 149 = .ok (.iload_n 1, 1) := by decide +kernel
theorem dX8_tell_150 : decode cX8_tell 150 = .ok (.iaload, 1) := by decide +kernel
theorem dX8_tell_151 : decode cX8_tell 151 = .ok (.ireturn, 1) := by decide +kernel
theorem dX8_tell_152 : decode cX8_tell 152 = .ok (.aload_n 0, 1) := by decide +kernel
theorem dX8_tell_153 : decode cX8_tell 153 = .ok (.getfield 12, 3) := by decide +kernel
theorem dX8_tell_156 : decode cX8_tell 156 = .ok (.getfield 94, 3) := by decide +kernel
theorem dX8_tell_159 : decode cX8_tell 159 = .ok (.iload_n 1, 1) := by decide +kernel
theorem dX8_tell_160 : decode cX8_tell 160 = .ok (.invokevirtual 98, 3) := by decide +kernel
theorem dX8_tell_163 : decode cX8_tell 163 = .ok (.ireturn, 1) := by decide +kernel
theorem dX8_tell_164 : decode cX8_tell 164 = .ok (.iconst (-1), 1) := by decide +kernel
theorem dX8_tell_165 : decode cX8_tell 165 = .ok (.ireturn, 1) := by decide +kernel
theorem dX8_act_0 : decode cX8_act 0 = .ok (.aload_n 0, 1) := by decide +kernel
theorem dX8_act_1 : decode cX8_act 1 = .ok (.getfield 12, 3) := by decide +kernel
theorem dX8_act_4 : decode cX8_act 4 = .ok (.getfield 39, 3) := by decide +kernel
theorem dX8_act_7 : decode cX8_act 7 = .ok (.iload_n 1, 1) := by decide +kernel
theorem dX8_act_8 : decode cX8_act 8 = .ok (.invokevirtual 49, 3) := by decide +kernel
theorem dX8_act_11 : decode cX8_act 11 = .ok (.ifCond .ne 5, 3) := by decide +kernel
theorem dX8_act_14 : decode cX8_act 14 = .ok (.iconst 0, 1) := by decide +kernel
theorem dX8_act_15 : decode cX8_act 15 = .ok (.ireturn, 1) := by decide +kernel
theorem dX8_act_16 : decode cX8_act 16 = .ok (.iload_n 2, 1) := by decide +kernel
theorem dX8_act_17 : decode cX8_act 17 = .ok (.tableswitch 107 0 3 #[31, 44, 57, 70], 31) := by decide +kernel
theorem dX8_act_48 : decode cX8_act 48 = .ok (.aload_n 0, 1) := by decide +kernel
theorem dX8_act_49 : decode cX8_act 49 = .ok (.getfield 12, 3) := by decide +kernel
theorem dX8_act_52 : decode cX8_act 52 = .ok (.getfield 39, 3) := by decide +kernel
theorem dX8_act_55 : decode cX8_act 55 = .ok (.iload_n 1, 1) := by decide +kernel
theorem dX8_act_56 : decode cX8_act 56 = .ok (.iconst 0, 1) := by decide +kernel
theorem dX8_act_57 : decode cX8_act 57 = .ok (.invokevirtual 103, 3) := by decide +kernel
theorem dX8_act_60 : decode cX8_act 60 = .ok (.ireturn, 1) := by decide +kernel
theorem dX8_act_61 : decode cX8_act 61 = .ok (.aload_n 0, 1) := by decide +kernel
theorem dX8_act_62 : decode cX8_act 62 = .ok (.getfield 12, 3) := by decide +kernel
theorem dX8_act_65 : decode cX8_act 65 = .ok (.getfield 39, 3) := by decide +kernel
theorem dX8_act_68 : decode cX8_act 68 = .ok (.iload_n 1, 1) := by decide +kernel
theorem dX8_act_69 : decode cX8_act 69 = .ok (.iconst 1, 1) := by decide +kernel
theorem dX8_act_70 : decode cX8_act 70 = .ok (.invokevirtual 103, 3) := by decide +kernel
theorem dX8_act_73 : decode cX8_act 73 = .ok (.ireturn, 1) := by decide +kernel
theorem dX8_act_74 : decode cX8_act 74 = .ok (.aload_n 0, 1) := by decide +kernel
theorem dX8_act_75 : decode cX8_act 75 = .ok (.getfield 12, 3) := by decide +kernel
theorem dX8_act_78 : decode cX8_act 78 = .ok (.getfield 39, 3) := by decide +kernel
theorem dX8_act_81 : decode cX8_act 81 = .ok (.iload_n 1, 1) := by decide +kernel
theorem dX8_act_82 : decode cX8_act 82 = .ok (.iconst 1, 1) := by decide +kernel
theorem dX8_act_83 : decode cX8_act 83 = .ok (.invokevirtual 107, 3) := by decide +kernel
theorem dX8_act_86 : decode cX8_act 86 = .ok (.ireturn, 1) := by decide +kernel
theorem dX8_act_87 : decode cX8_act 87 = .ok (.aload_n 0, 1) := by decide +kernel
theorem dX8_act_88 : decode cX8_act 88 = .ok (.getfield 12, 3) := by decide +kernel
theorem dX8_act_91 : decode cX8_act 91 = .ok (.getfield 39, 3) := by decide +kernel
theorem dX8_act_94 : decode cX8_act 94 = .ok (.getfield 58, 3) := by decide +kernel
theorem dX8_act_97 : decode cX8_act 97 = .ok (.iload_n 1, 1) := by decide +kernel
theorem dX8_act_98 : decode cX8_act 98 = .ok (.iaload, 1) := by decide +kernel
theorem dX8_act_99 : decode cX8_act 99 = .ok (.iconst 4, 1) := by decide +kernel
theorem dX8_act_100 : decode cX8_act 100 = .ok (.if_icmp .ne 22, 3) := by decide +kernel
theorem dX8_act_103 : decode cX8_act 103 = .ok (.aload_n 0, 1) := by decide +kernel
theorem dX8_act_104 : decode cX8_act 104 = .ok (.getfield 12, 3) := by decide +kernel
theorem dX8_act_107 : decode cX8_act 107 = .ok (.getfield 39, 3) := by decide +kernel
theorem dX8_act_110 : decode cX8_act 110 = .ok (.iload_n 1, 1) := by decide +kernel
theorem dX8_act_111 : decode cX8_act 111 = .ok (.iconst 0, 1) := by decide +kernel
theorem dX8_act_112 : decode cX8_act 112 = .ok (.invokevirtual 107, 3) := by decide +kernel
theorem dX8_act_115 : decode cX8_act 115 = .ok (.ifCond .eq 7, 3) := by decide +kernel
theorem dX8_act_118 : decode cX8_act 118 = .ok (.iconst 1, 1) := by decide +kernel
theorem dX8_act_119 : decode cX8_act 119 = .ok (.goto 4, 3) := by decide +kernel
theorem dX8_act_122 : decode cX8_act 122 = .ok (.iconst 0, 1) := by decide +kernel
theorem dX8_act_123 : decode cX8_act 123 = .ok (.ireturn, 1) := by decide +kernel
theorem dX8_act_124 : decode cX8_act 124 = .ok (.iconst 0, 1) := by decide +kernel
theorem dX8_act_125 : decode cX8_act 125 = .ok (.ireturn, 1) := by decide +kernel
theorem dX8_group_0 : decode cX8_group 0 = .ok (.aload_n 0, 1) := by decide +kernel
theorem dX8_group_1 : decode cX8_group 1 = .ok (.getfield 12, 3) := by decide +kernel
theorem dX8_group_4 : decode cX8_group 4 = .ok (.getfield 39, 3) := by decide +kernel
theorem dX8_group_7 : decode cX8_group 7 = .ok (.lload_n 1, 1) := by decide +kernel
theorem dX8_group_8 : decode cX8_group 8 = .ok (.lload_n 3, 1) := by decide +kernel
theorem dX8_group_9 : decode cX8_group 9 = .ok (.invokevirtual 110, 3) := by decide +kernel
theorem dX8_group_12 : decode cX8_group 12 = .ok (.aload_n 0, 1) := by decide +kernel
theorem dX8_group_13 : decode cX8_group 13 = .ok (.getfield 12, 3) := by decide +kernel
theorem dX8_group_16 : decode cX8_group 16 = .ok (.getfield 39, 3) := by decide +kernel
theorem dX8_group_19 : decode cX8_group 19 = .ok (.invokevirtual 77, 3) := by decide +kernel
theorem dX8_group_22 : decode cX8_group 22 = .ok (.invokestatic 114, 3) := by decide +kernel
theorem dX8_group_25 : decode cX8_group 25 = .ok (.ireturn, 1) := by decide +kernel
theorem dX8_pass_0 : decode cX8_pass 0 = .ok (.aload_n 0, 1) := by decide +kernel
theorem dX8_pass_1 : decode cX8_pass 1 = .ok (.getfield 12, 3) := by decide +kernel
theorem dX8_pass_4 : decode cX8_pass 4 = .ok (.getfield 39, 3) := by decide +kernel
theorem dX8_pass_7 : decode cX8_pass 7 = .ok (.invokevirtual 77, 3) := by decide +kernel
theorem dX8_pass_10 : decode cX8_pass 10 = .ok (.lstore_n 1, 1) := by decide +kernel
theorem dX8_pass_11 : decode cX8_pass 11 = .ok (.iconst 0, 1) := by decide +kernel
theorem dX8_pass_12 : decode cX8_pass 12 = .ok (.istore_n 3, 1) := by decide +kernel
theorem dX8_pass_13 : decode cX8_pass 13 = .ok (.iconst (-1), 1) := by decide +kernel
theorem dX8_pass_14 : decode cX8_pass 14 = .ok (.istore 4, 2) := by decide +kernel
theorem dX8_pass_16 : decode cX8_pass 16 = .ok (.iconst 0, 1) := by decide +kernel
theorem dX8_pass_17 : decode cX8_pass 17 = .ok (.istore 5, 2) := by decide +kernel
theorem dX8_pass_19 : decode cX8_pass 19 = .ok (.iload 5, 2) := by decide +kernel
theorem dX8_pass_21 : decode cX8_pass 21 = .ok (.bipush 64, 2) := by decide +kernel
theorem dX8_pass_23 : decode cX8_pass 23 = .ok (.if_icmp .ge 125, 3) := by decide +kernel
theorem dX8_pass_26 : decode cX8_pass 26 = .ok (.lload_n 1, 1) := by decide +kernel
theorem dX8_pass_27 : decode cX8_pass 27 = .ok (.lconst 0, 1) := by decide +kernel
theorem dX8_pass_28 : decode cX8_pass 28 = .ok (.lcmp, 1) := by decide +kernel
theorem dX8_pass_29 : decode cX8_pass 29 = .ok (.ifCond .eq 119, 3) := by decide +kernel
theorem dX8_pass_32 : decode cX8_pass 32 = .ok (.iinc 3 1, 3) := by decide +kernel
theorem dX8_pass_35 : decode cX8_pass 35 = .ok (.aload_n 0, 1) := by decide +kernel
theorem dX8_pass_36 : decode cX8_pass 36 = .ok (.getfield 12, 3) := by decide +kernel
theorem dX8_pass_39 : decode cX8_pass 39 = .ok (.getfield 39, 3) := by decide +kernel
theorem dX8_pass_42 : decode cX8_pass 42 = .ok (.lload_n 1, 1) := by decide +kernel
theorem dX8_pass_43 : decode cX8_pass 43 = .ok (.iload 5, 2) := by decide +kernel
theorem dX8_pass_45 : decode cX8_pass 45 = .ok (.invokevirtual 119, 3) := by decide +kernel
theorem dX8_pass_48 : decode cX8_pass 48 = .ok (.lstore 6, 2) := by decide +kernel
theorem dX8_pass_50 : decode cX8_pass 50 = .ok (.lload_n 1, 1) := by decide +kernel
theorem dX8_pass_51 : decode cX8_pass 51 = .ok (.lload 6, 2) := by decide +kernel
theorem dX8_pass_53 : decode cX8_pass 53 = .ok (.ldc2_w 123, 3) := by decide +kernel
theorem dX8_pass_56 : decode cX8_pass 56 = .ok (.lxor, 1) := by decide +kernel
theorem dX8_pass_57 : decode cX8_pass 57 = .ok (.land, 1) := by decide +kernel
theorem dX8_pass_58 : decode cX8_pass 58 = .ok (.lstore 8, 2) := by decide +kernel
theorem dX8_pass_60 : decode cX8_pass 60 = .ok (.lload 6, 2) := by decide +kernel
theorem dX8_pass_62 : decode cX8_pass 62 = .ok (.lconst 0, 1) := by decide +kernel
theorem dX8_pass_63 : decode cX8_pass 63 = .ok (.lcmp, 1) := by decide +kernel
theorem dX8_pass_64 : decode cX8_pass 64 = .ok (.ifCond .eq 14, 3) := by decide +kernel
theorem dX8_pass_67 : decode cX8_pass 67 = .ok (.lload 8, 2) := by decide +kernel
theorem dX8_pass_69 : decode cX8_pass 69 = .ok (.lconst 0, 1) := by decide +kernel
theorem dX8_pass_70 : decode cX8_pass 70 = .ok (.lcmp, 1) := by decide +kernel
theorem dX8_pass_71 : decode cX8_pass 71 = .ok (.ifCond .eq 7, 3) := by decide +kernel
theorem dX8_pass_74 : decode cX8_pass 74 = .ok (.iconst 1, 1) := by decide +kernel
theorem dX8_pass_75 : decode cX8_pass 75 = .ok (.goto 4, 3) := by decide +kernel
theorem dX8_pass_78 : decode cX8_pass 78 = .ok (.iconst 0, 1) := by decide +kernel
theorem dX8_pass_79 : decode cX8_pass 79 = .ok (.istore 10, 2) := by decide +kernel
theorem dX8_pass_81 : decode cX8_pass 81 = .ok (.iload 10, 2) := by decide +kernel
theorem dX8_pass_83 : decode cX8_pass 83 = .ok (.ifCond .eq 18, 3) := by decide +kernel
theorem dX8_pass_86 : decode cX8_pass 86 = .ok (.aload_n 0, 1) := by decide +kernel
theorem dX8_pass_87 : decode cX8_pass 87 = .ok (.getfield 12, 3) := by decide +kernel
theorem dX8_pass_90 : decode cX8_pass 90 = .ok (.getfield 125, 3) := by decide +kernel
theorem dX8_pass_93 : decode cX8_pass 93 = .ok (.iload 5, 2) := by decide +kernel
theorem dX8_pass_95 : decode cX8_pass 95 = .ok (.invokevirtual 129, 3) := by decide +kernel
theorem dX8_pass_98 : decode cX8_pass 98 = .ok (.goto 15, 3) := by decide +kernel
theorem dX8_pass_101 : decode cX8_pass 101 = .ok (.lload 6, 2) := by decide +kernel
theorem dX8_pass_103 : decode cX8_pass 103 = .ok (.lconst 0, 1) := by decide +kernel
theorem dX8_pass_104 : decode cX8_pass 104 = .ok (.lcmp, 1) := by decide +kernel
theorem dX8_pass_105 : decode cX8_pass 105 = .ok (.ifCond .eq 7, 3) := by decide +kernel
theorem dX8_pass_108 : decode cX8_pass 108 = .ok (.iconst 1, 1) := by decide +kernel
theorem dX8_pass_109 : decode cX8_pass 109 = .ok (.goto 4, 3) := by decide +kernel
theorem dX8_pass_112 : decode cX8_pass 112 = .ok (.iconst 0, 1) := by decide +kernel
theorem dX8_pass_113 : decode cX8_pass 113 = .ok (.istore 11, 2) := by decide +kernel
theorem dX8_pass_115 : decode cX8_pass 115 = .ok (.iload 10, 2) := by decide +kernel
theorem dX8_pass_117 : decode cX8_pass 117 = .ok (.ifCond .eq 12, 3) := by decide +kernel
theorem dX8_pass_120 : decode cX8_pass 120 = .ok (.iload 11, 2) := by decide +kernel
theorem dX8_pass_122 : decode cX8_pass 122 = .ok (.ifCond .ne 7, 3) := by decide +kernel
theorem dX8_pass_125 : decode cX8_pass 125 = .ok (.iload 5, 2) := by decide +kernel
theorem dX8_pass_127 : decode cX8_pass 127 = .ok (.istore 4, 2) := by decide +kernel
theorem dX8_pass_129 : decode cX8_pass 129 = .ok (.iload 11, 2) := by decide +kernel
theorem dX8_pass_131 : decode cX8_pass 131 = .ok (.ifCond .eq 8, 3) := by decide +kernel
theorem dX8_pass_134 : decode cX8_pass 134 = .ok (.lload 6, 2) := by decide +kernel
theorem dX8_pass_136 : decode cX8_pass 136 = .ok (.goto 5, 3) := by decide +kernel
theorem dX8_pass_139 : decode cX8_pass 139 = .ok (.lload 8, 2) := by decide +kernel
theorem dX8_pass_141 : decode cX8_pass 141 = .ok (.lstore_n 1, 1) := by decide +kernel
theorem dX8_pass_142 : decode cX8_pass 142 = .ok (.iinc 5 1, 3) := by decide +kernel
theorem dX8_pass_145 : decode cX8_pass 145 = .ok (.goto (-126), 3) := by decide +kernel
theorem dX8_pass_148 : decode cX8_pass 148 = .ok (.aload_n 0, 1) := by decide +kernel
theorem dX8_pass_149 : decode cX8_pass 149 = .ok (.getfield 12, 3) := by decide +kernel
theorem dX8_pass_152 : decode cX8_pass 152 = .ok (.getfield 94, 3) := by decide +kernel
theorem dX8_pass_155 : decode cX8_pass 155 = .ok (.iload_n 3, 1) := by decide +kernel
theorem dX8_pass_156 : decode cX8_pass 156 = .ok (.invokevirtual 134, 3) := by decide +kernel
theorem dX8_pass_159 : decode cX8_pass 159 = .ok (.lload_n 1, 1) := by decide +kernel
theorem dX8_pass_160 : decode cX8_pass 160 = .ok (.invokestatic 138, 3) := by decide +kernel
theorem dX8_pass_163 : decode cX8_pass 163 = .ok (.istore 5, 2) := by decide +kernel
theorem dX8_pass_165 : decode cX8_pass 165 = .ok (.aload_n 0, 1) := by decide +kernel
theorem dX8_pass_166 : decode cX8_pass 166 = .ok (.getfield 12, 3) := by decide +kernel
theorem dX8_pass_169 : decode cX8_pass 169 = .ok (.getfield 39, 3) := by decide +kernel
theorem dX8_pass_172 : decode cX8_pass 172 = .ok (.iload 5, 2) := by decide +kernel
theorem dX8_pass_174 : decode cX8_pass 174 = .ok (.invokevirtual 49, 3) := by decide +kernel
theorem dX8_pass_177 : decode cX8_pass 177 = .ok (.ifCond .ne 15, 3) := by decide +kernel
theorem dX8_pass_180 : decode cX8_pass 180 = .ok (.aload_n 0, 1) := by decide +kernel
theorem dX8_pass_181 : decode cX8_pass 181 = .ok (.getfield 12, 3) := by decide +kernel
theorem dX8_pass_184 : decode cX8_pass 184 = .ok (.getfield 125, 3) := by decide +kernel
theorem dX8_pass_187 : decode cX8_pass 187 = .ok (.invokevirtual 141, 3) := by decide +kernel
theorem dX8_pass_190 : decode cX8_pass 190 = .ok (.iconst (-1), 1) := by decide +kernel
theorem dX8_pass_191 : decode cX8_pass 191 = .ok (.ireturn, 1) := by decide +kernel
theorem dX8_pass_192 : decode cX8_pass 192 = .ok (.aload_n 0, 1) := by decide +kernel
theorem dX8_pass_193 : decode cX8_pass 193 = .ok (.getfield 12, 3) := by decide +kernel
theorem dX8_pass_196 : decode cX8_pass 196 = .ok (.getfield 125, 3) := by decide +kernel
theorem dX8_pass_199 : decode cX8_pass 199 = .ok (.iload 4, 2) := by decide +kernel
theorem dX8_pass_201 : decode cX8_pass 201 = .ok (.aload_n 0, 1) := by decide +kernel
theorem dX8_pass_202 : decode cX8_pass 202 = .ok (.getfield 12, 3) := by decide +kernel
theorem dX8_pass_205 : decode cX8_pass 205 = .ok (.getfield 39, 3) := by decide +kernel
theorem dX8_pass_208 : decode cX8_pass 208 = .ok (.getfield 53, 3) := by decide +kernel
theorem dX8_pass_211 : decode cX8_pass 211 = .ok (.iload 5, 2) := by decide +kernel
theorem dX8_pass_213 : decode cX8_pass 213 = .ok (.laload, 1) := by decide +kernel
theorem dX8_pass_214 : decode cX8_pass 214 = .ok (.invokevirtual 144, 3) := by decide +kernel
theorem dX8_pass_217 : decode cX8_pass 217 = .ok (.aload_n 0, 1) := by decide +kernel
theorem dX8_pass_218 : decode cX8_pass 218 = .ok (.getfield 12, 3) := by decide +kernel
theorem dX8_pass_221 : decode cX8_pass 221 = .ok (.getfield 94, 3) := by decide +kernel
theorem dX8_pass_224 : decode cX8_pass 224 = .ok (.iload 5, 2) := by decide +kernel
theorem dX8_pass_226 : decode cX8_pass 226 = .ok (.invokevirtual 148, 3) := by decide +kernel
theorem dX8_pass_229 : decode cX8_pass 229 = .ok (.iload 5, 2) := by decide +kernel
theorem dX8_pass_231 : decode cX8_pass 231 = .ok (.ireturn, 1) := by decide +kernel
theorem dX8_fork_0 : decode cX8_fork 0 = .ok (.iload_n 1, 1) := by decide +kernel
theorem dX8_fork_1 : decode cX8_fork 1 = .ok (.lookupswitch 49 #[(0, 27), (1, 38)], 27) := by decide +kernel
theorem dX8_fork_28 : decode cX8_fork 28 = .ok (.aload_n 0, 1) := by decide +kernel
theorem dX8_fork_29 : decode cX8_fork 29 = .ok (.getfield 12, 3) := by decide +kernel
theorem dX8_fork_32 : decode cX8_fork 32 = .ok (.getfield 125, 3) := by decide +kernel
theorem dX8_fork_35 : decode cX8_fork 35 = .ok (.getfield 151, 3) := by decide +kernel
theorem dX8_fork_38 : decode cX8_fork 38 = .ok (.ireturn, 1) := by decide +kernel
theorem dX8_fork_39 : decode cX8_fork 39 = .ok (.aload_n 0, 1) := by decide +kernel
theorem dX8_fork_40 : decode cX8_fork 40 = .ok (.getfield 12, 3) := by decide +kernel
theorem dX8_fork_43 : decode cX8_fork 43 = .ok (.getfield 125, 3) := by decide +kernel
theorem dX8_fork_46 : decode cX8_fork 46 = .ok (.getfield 154, 3) := by decide +kernel
theorem dX8_fork_49 : decode cX8_fork 49 = .ok (.ireturn, 1) := by decide +kernel
theorem dX8_fork_50 : decode cX8_fork 50 = .ok (.iconst (-1), 1) := by decide +kernel
theorem dX8_fork_51 : decode cX8_fork 51 = .ok (.ireturn, 1) := by decide +kernel
theorem dX8_verify_0 : decode cX8_verify 0 = .ok (.aload_n 0, 1) := by decide +kernel
theorem dX8_verify_1 : decode cX8_verify 1 = .ok (.getfield 12, 3) := by decide +kernel
theorem dX8_verify_4 : decode cX8_verify 4 = .ok (.getfield 39, 3) := by decide +kernel
theorem dX8_verify_7 : decode cX8_verify 7 = .ok (.invokevirtual 77, 3) := by decide +kernel
theorem dX8_verify_10 : decode cX8_verify 10 = .ok (.lstore_n 3, 1) := by decide +kernel
theorem dX8_verify_11 : decode cX8_verify 11 = .ok (.iconst 0, 1) := by decide +kernel
theorem dX8_verify_12 : decode cX8_verify 12 = .ok (.istore 5, 2) := by decide +kernel
theorem dX8_verify_14 : decode cX8_verify 14 = .ok (.iconst 0, 1) := by decide +kernel
theorem dX8_verify_15 : decode cX8_verify 15 = .ok (.istore 6, 2) := by decide +kernel
theorem dX8_verify_17 : decode cX8_verify 17 = .ok (.iload 6, 2) := by decide +kernel
theorem dX8_verify_19 : decode cX8_verify 19 = .ok (.bipush 64, 2) := by decide +kernel
theorem dX8_verify_21 : decode cX8_verify 21 = .ok (.if_icmp .ge 56, 3) := by decide +kernel
theorem dX8_verify_24 : decode cX8_verify 24 = .ok (.lload_n 3, 1) := by decide +kernel
theorem dX8_verify_25 : decode cX8_verify 25 = .ok (.lconst 0, 1) := by decide +kernel
theorem dX8_verify_26 : decode cX8_verify 26 = .ok (.lcmp, 1) := by decide +kernel
theorem dX8_verify_27 : decode cX8_verify 27 = .ok (.ifCond .eq 50, 3) := by decide +kernel
theorem dX8_verify_30 : decode cX8_verify 30 = .ok (.iinc 5 1, 3) := by decide +kernel
theorem dX8_verify_33 : decode cX8_verify 33 = .ok (.aload_n 0, 1) := by decide +kernel
theorem dX8_verify_34 : decode cX8_verify 34 = .ok (.getfield 12, 3) := by decide +kernel
theorem dX8_verify_37 : decode cX8_verify 37 = .ok (.getfield 39, 3) := by decide +kernel
theorem dX8_verify_40 : decode cX8_verify 40 = .ok (.lload_n 3, 1) := by decide +kernel
theorem dX8_verify_41 : decode cX8_verify 41 = .ok (.iload 6, 2) := by decide +kernel
theorem dX8_verify_43 : decode cX8_verify 43 = .ok (.invokevirtual 119, 3) := by decide +kernel
theorem dX8_verify_46 : decode cX8_verify 46 = .ok (.lstore 7, 2) := by decide +kernel
theorem dX8_verify_48 : decode cX8_verify 48 = .ok (.lload_n 1, 1) := by decide +kernel
theorem dX8_verify_49 : decode cX8_verify 49 = .ok (.iload 6, 2) := by decide +kernel
theorem dX8_verify_51 : decode cX8_verify 51 = .ok (.invokestatic 157, 3) := by decide +kernel
theorem dX8_verify_54 : decode cX8_verify 54 = .ok (.ifCond .eq 8, 3) := by decide +kernel
theorem dX8_verify_57 : decode cX8_verify 57 = .ok (.lload 7, 2) := by decide +kernel
theorem dX8_verify_59 : decode cX8_verify 59 = .ok (.goto 11, 3) := by decide +kernel
theorem dX8_verify_62 : decode cX8_verify 62 = .ok (.lload_n 3, 1) := by decide +kernel
theorem dX8_verify_63 : decode cX8_verify 63 = .ok (.lload 7, 2) := by decide +kernel
theorem dX8_verify_65 : decode cX8_verify 65 = .ok (.ldc2_w 123, 3) := by decide +kernel
theorem dX8_verify_68 : decode cX8_verify 68 = .ok (.lxor, 1) := by decide +kernel
theorem dX8_verify_69 : decode cX8_verify 69 = .ok (.land, 1) := by decide +kernel
theorem dX8_verify_70 : decode cX8_verify 70 = .ok (.lstore_n 3, 1) := by decide +kernel
theorem dX8_verify_71 : decode cX8_verify 71 = .ok (.iinc 6 1, 3) := by decide +kernel
theorem dX8_verify_74 : decode cX8_verify 74 = .ok (.goto (-57), 3) := by decide +kernel
theorem dX8_verify_77 : decode cX8_verify 77 = .ok (.aload_n 0, 1) := by decide +kernel
theorem dX8_verify_78 : decode cX8_verify 78 = .ok (.getfield 12, 3) := by decide +kernel
theorem dX8_verify_81 : decode cX8_verify 81 = .ok (.getfield 94, 3) := by decide +kernel
theorem dX8_verify_84 : decode cX8_verify 84 = .ok (.iload 5, 2) := by decide +kernel
theorem dX8_verify_86 : decode cX8_verify 86 = .ok (.invokevirtual 134, 3) := by decide +kernel
theorem dX8_verify_89 : decode cX8_verify 89 = .ok (.lload_n 3, 1) := by decide +kernel
theorem dX8_verify_90 : decode cX8_verify 90 = .ok (.lconst 0, 1) := by decide +kernel
theorem dX8_verify_91 : decode cX8_verify 91 = .ok (.lcmp, 1) := by decide +kernel
theorem dX8_verify_92 : decode cX8_verify 92 = .ok (.ifCond .eq 7, 3) := by decide +kernel
theorem dX8_verify_95 : decode cX8_verify 95 = .ok (.iconst 1, 1) := by decide +kernel
theorem dX8_verify_96 : decode cX8_verify 96 = .ok (.goto 4, 3) := by decide +kernel
theorem dX8_verify_99 : decode cX8_verify 99 = .ok (.iconst 0, 1) := by decide +kernel
theorem dX8_verify_100 : decode cX8_verify 100 = .ok (.ireturn, 1) := by decide +kernel
theorem dX8_ask_0 : decode cX8_ask 0 = .ok (.iload_n 3, 1) := by decide +kernel
theorem dX8_ask_1 : decode cX8_ask 1 = .ok (.ifCond .lt 9, 3) := by decide +kernel
theorem dX8_ask_4 : decode cX8_ask 4 = .ok (.iload_n 3, 1) := by decide +kernel
theorem dX8_ask_5 : decode cX8_ask 5 = .ok (.bipush 64, 2) := by decide +kernel
theorem dX8_ask_7 : decode cX8_ask 7 = .ok (.if_icmp .le 5, 3) := by decide +kernel
theorem dX8_ask_10 : decode cX8_ask 10 = .ok (.iconst (-1), 1) := by decide +kernel
theorem dX8_ask_11 : decode cX8_ask 11 = .ok (.ireturn, 1) := by decide +kernel
theorem dX8_ask_12 : decode cX8_ask 12 = .ok (.aload_n 0, 1) := by decide +kernel
theorem dX8_ask_13 : decode cX8_ask 13 = .ok (.aload_n 0, 1) := by decide +kernel
theorem dX8_ask_14 : decode cX8_ask 14 = .ok (.getfield 12, 3) := by decide +kernel
theorem dX8_ask_17 : decode cX8_ask 17 = .ok (.getfield 39, 3) := by decide +kernel
theorem dX8_ask_20 : decode cX8_ask 20 = .ok (.lload_n 1, 1) := by decide +kernel
theorem dX8_ask_21 : decode cX8_ask 21 = .ok (.iload_n 3, 1) := by decide +kernel
theorem dX8_ask_22 : decode cX8_ask 22 = .ok (.invokevirtual 160, 3) := by decide +kernel
theorem dX8_ask_25 : decode cX8_ask 25 = .ok (.invokevirtual 163, 3) := by decide +kernel
theorem dX8_ask_28 : decode cX8_ask 28 = .ok (.ireturn, 1) := by decide +kernel
theorem dX8_alone_0 : decode cX8_alone 0 = .ok (.aload_n 0, 1) := by decide +kernel
theorem dX8_alone_1 : decode cX8_alone 1 = .ok (.getfield 12, 3) := by decide +kernel
theorem dX8_alone_4 : decode cX8_alone 4 = .ok (.getfield 166, 3) := by decide +kernel
theorem dX8_alone_7 : decode cX8_alone 7 = .ok (.ireturn, 1) := by decide +kernel
theorem dX8_descend_0 : decode cX8_descend 0 = .ok (.aload_n 0, 1) := by decide +kernel
theorem dX8_descend_1 : decode cX8_descend 1 = .ok (.getfield 12, 3) := by decide +kernel
theorem dX8_descend_4 : decode cX8_descend 4 = .ok (.getfield 169, 3) := by decide +kernel
theorem dX8_descend_7 : decode cX8_descend 7 = .ok (.invokevirtual 173, 3) := by decide +kernel
theorem dX8_descend_10 : decode cX8_descend 10 = .ok (.return_, 1) := by decide +kernel
theorem dX8_step_0 : decode cX8_step 0 = .ok (.aload_n 0, 1) := by decide +kernel
theorem dX8_step_1 : decode cX8_step 1 = .ok (.getfield 12, 3) := by decide +kernel
theorem dX8_step_4 : decode cX8_step 4 = .ok (.getfield 169, 3) := by decide +kernel
theorem dX8_step_7 : decode cX8_step 7 = .ok (.getfield 178, 3) := by decide +kernel
theorem dX8_step_10 : decode cX8_step 10 = .ok (.ifCond .ne 5, 3) := by decide +kernel
theorem dX8_step_13 : decode cX8_step 13 = .ok (.iconst (-1), 1) := by decide +kernel
theorem dX8_step_14 : decode cX8_step 14 = .ok (.ireturn, 1) := by decide +kernel
theorem dX8_step_15 : decode cX8_step 15 = .ok (.aload_n 0, 1) := by decide +kernel
theorem dX8_step_16 : decode cX8_step 16 = .ok (.getfield 12, 3) := by decide +kernel
theorem dX8_step_19 : decode cX8_step 19 = .ok (.getfield 169, 3) := by decide +kernel
theorem dX8_step_22 : decode cX8_step 22 = .ok (.invokevirtual 181, 3) := by decide +kernel
theorem dX8_step_25 : decode cX8_step 25 = .ok (.lstore_n 1, 1) := by decide +kernel
theorem dX8_step_26 : decode cX8_step 26 = .ok (.aload_n 0, 1) := by decide +kernel
theorem dX8_step_27 : decode cX8_step 27 = .ok (.getfield 12, 3) := by decide +kernel
theorem dX8_step_30 : decode cX8_step 30 = .ok (.getfield 169, 3) := by decide +kernel
theorem dX8_step_33 : decode cX8_step 33 = .ok (.invokevirtual 184, 3) := by decide +kernel
theorem dX8_step_36 : decode cX8_step 36 = .ok (.istore_n 3, 1) := by decide +kernel
theorem dX8_step_37 : decode cX8_step 37 = .ok (.aload_n 0, 1) := by decide +kernel
theorem dX8_step_38 : decode cX8_step 38 = .ok (.getfield 12, 3) := by decide +kernel
theorem dX8_step_41 : decode cX8_step 41 = .ok (.getfield 169, 3) := by decide +kernel
theorem dX8_step_44 : decode cX8_step 44 = .ok (.invokevirtual 188, 3) := by decide +kernel
theorem dX8_step_47 : decode cX8_step 47 = .ok (.aload_n 0, 1) := by decide +kernel
theorem dX8_step_48 : decode cX8_step 48 = .ok (.aload_n 0, 1) := by decide +kernel
theorem dX8_step_49 : decode cX8_step 49 = .ok (.getfield 12, 3) := by decide +kernel
theorem dX8_step_52 : decode cX8_step 52 = .ok (.getfield 39, 3) := by decide +kernel
theorem dX8_step_55 : decode cX8_step 55 = .ok (.lload_n 1, 1) := by decide +kernel
theorem dX8_step_56 : decode cX8_step 56 = .ok (.iload_n 3, 1) := by decide +kernel
theorem dX8_step_57 : decode cX8_step 57 = .ok (.invokevirtual 160, 3) := by decide +kernel
theorem dX8_step_60 : decode cX8_step 60 = .ok (.invokevirtual 163, 3) := by decide +kernel
theorem dX8_step_63 : decode cX8_step 63 = .ok (.istore 4, 2) := by decide +kernel
theorem dX8_step_65 : decode cX8_step 65 = .ok (.iload 4, 2) := by decide +kernel
theorem dX8_step_67 : decode cX8_step 67 = .ok (.iconst 1, 1) := by decide +kernel
theorem dX8_step_68 : decode cX8_step 68 = .ok (.if_icmp .ne 23, 3) := by decide +kernel
theorem dX8_step_71 : decode cX8_step 71 = .ok (.aload_n 0, 1) := by decide +kernel
theorem dX8_step_72 : decode cX8_step 72 = .ok (.getfield 12, 3) := by decide +kernel
theorem dX8_step_75 : decode cX8_step 75 = .ok (.getfield 94, 3) := by decide +kernel
theorem dX8_step_78 : decode cX8_step 78 = .ok (.aload_n 0, 1) := by decide +kernel
theorem dX8_step_79 : decode cX8_step 79 = .ok (.getfield 12, 3) := by decide +kernel
theorem dX8_step_82 : decode cX8_step 82 = .ok (.getfield 166, 3) := by decide +kernel
theorem dX8_step_85 : decode cX8_step 85 = .ok (.invokevirtual 148, 3) := by decide +kernel
theorem dX8_step_88 : decode cX8_step 88 = .ok (.goto 21, 3) := by decide +kernel
theorem dX8_step_91 : decode cX8_step 91 = .ok (.iload 4, 2) := by decide +kernel
theorem dX8_step_93 : decode cX8_step 93 = .ok (.iconst 2, 1) := by decide +kernel
theorem dX8_step_94 : decode cX8_step 94 = .ok (.if_icmp .ne 15, 3) := by decide +kernel
theorem dX8_step_97 : decode cX8_step 97 = .ok (.aload_n 0, 1) := by decide +kernel
theorem dX8_step_98 : decode cX8_step 98 = .ok (.getfield 12, 3) := by decide +kernel
theorem dX8_step_101 : decode cX8_step 101 = .ok (.getfield 169, 3) := by decide +kernel
theorem dX8_step_104 : decode cX8_step 104 = .ok (.lload_n 1, 1) := by decide +kernel
theorem dX8_step_105 : decode cX8_step 105 = .ok (.iload_n 3, 1) := by decide +kernel
theorem dX8_step_106 : decode cX8_step 106 = .ok (.invokevirtual 191, 3) := by decide +kernel
theorem dX8_step_109 : decode cX8_step 109 = .ok (.iload 4, 2) := by decide +kernel
theorem dX8_step_111 : decode cX8_step 111 = .ok (.ireturn, 1) := by decide +kernel
theorem dX8_nodes_0 : decode cX8_nodes 0 = .ok (.iconst 1, 1) := by decide +kernel
theorem dX8_nodes_1 : decode cX8_nodes 1 = .ok (.istore_n 1, 1) := by decide +kernel
theorem dX8_nodes_2 : decode cX8_nodes 2 = .ok (.aload_n 0, 1) := by decide +kernel
theorem dX8_nodes_3 : decode cX8_nodes 3 = .ok (.aload_n 0, 1) := by decide +kernel
theorem dX8_nodes_4 : decode cX8_nodes 4 = .ok (.getfield 12, 3) := by decide +kernel
theorem dX8_nodes_7 : decode cX8_nodes 7 = .ok (.getfield 39, 3) := by decide +kernel
theorem dX8_nodes_10 : decode cX8_nodes 10 = .ok (.invokevirtual 195, 3) := by decide +kernel
theorem dX8_nodes_13 : decode cX8_nodes 13 = .ok (.invokevirtual 198, 3) := by decide +kernel
theorem dX8_nodes_16 : decode cX8_nodes 16 = .ok (.aload_n 0, 1) := by decide +kernel
theorem dX8_nodes_17 : decode cX8_nodes 17 = .ok (.getfield 27, 3) := by decide +kernel
theorem dX8_nodes_20 : decode cX8_nodes 20 = .ok (.invokevirtual 202, 3) := by decide +kernel
theorem dX8_nodes_23 : decode cX8_nodes 23 = .ok (.iconst 0, 1) := by decide +kernel
theorem dX8_nodes_24 : decode cX8_nodes 24 = .ok (.istore_n 2, 1) := by decide +kernel
theorem dX8_nodes_25 : decode cX8_nodes 25 = .ok (.iload_n 2, 1) := by decide +kernel
theorem dX8_nodes_26 : decode cX8_nodes 26 = .ok (.bipush 64, 2) := by decide +kernel
theorem dX8_nodes_28 : decode cX8_nodes 28 = .ok (.if_icmp .ge 92, 3) := by decide +kernel
theorem dX8_nodes_31 : decode cX8_nodes 31 = .ok (.aload_n 0, 1) := by decide +kernel
theorem dX8_nodes_32 : decode cX8_nodes 32 = .ok (.getfield 27, 3) := by decide +kernel
theorem dX8_nodes_35 : decode cX8_nodes 35 = .ok (.getfield 205, 3) := by decide +kernel
theorem dX8_nodes_38 : decode cX8_nodes 38 = .ok (.ifCond .le 82, 3) := by decide +kernel
theorem dX8_nodes_41 : decode cX8_nodes 41 = .ok (.iconst 0, 1) := by decide +kernel
theorem dX8_nodes_42 : decode cX8_nodes 42 = .ok (.istore_n 3, 1) := by decide +kernel
theorem dX8_nodes_43 : decode cX8_nodes 43 = .ok (.iload_n 3, 1) := by decide +kernel
theorem dX8_nodes_44 : decode cX8_nodes 44 = .ok (.aload_n 0, 1) := by decide +kernel
theorem dX8_nodes_45 : decode cX8_nodes 45 = .ok (.getfield 27, 3) := by decide +kernel
theorem dX8_nodes_48 : decode cX8_nodes 48 = .ok (.getfield 205, 3) := by decide +kernel
theorem dX8_nodes_51 : decode cX8_nodes 51 = .ok (.if_icmp .ge 56, 3) := by decide +kernel
theorem dX8_nodes_54 : decode cX8_nodes 54 = .ok (.aload_n 0, 1) := by decide +kernel
theorem dX8_nodes_55 : decode cX8_nodes 55 = .ok (.getfield 27, 3) := by decide +kernel
theorem dX8_nodes_58 : decode cX8_nodes 58 = .ok (.iload_n 3, 1) := by decide +kernel
theorem dX8_nodes_59 : decode cX8_nodes 59 = .ok (.invokevirtual 206, 3) := by decide +kernel
theorem dX8_nodes_62 : decode cX8_nodes 62 = .ok (.lstore 4, 2) := by decide +kernel
theorem dX8_nodes_64 : decode cX8_nodes 64 = .ok (.aload_n 0, 1) := by decide +kernel
theorem dX8_nodes_65 : decode cX8_nodes 65 = .ok (.getfield 12, 3) := by decide +kernel
theorem dX8_nodes_68 : decode cX8_nodes 68 = .ok (.getfield 39, 3) := by decide +kernel
theorem dX8_nodes_71 : decode cX8_nodes 71 = .ok (.lload 4, 2) := by decide +kernel
theorem dX8_nodes_73 : decode cX8_nodes 73 = .ok (.iload_n 2, 1) := by decide +kernel
theorem dX8_nodes_74 : decode cX8_nodes 74 = .ok (.invokevirtual 119, 3) := by decide +kernel
theorem dX8_nodes_77 : decode cX8_nodes 77 = .ok (.lstore 6, 2) := by decide +kernel
theorem dX8_nodes_79 : decode cX8_nodes 79 = .ok (.aload_n 0, 1) := by decide +kernel
theorem dX8_nodes_80 : decode cX8_nodes 80 = .ok (.lload 6, 2) := by decide +kernel
theorem dX8_nodes_82 : decode cX8_nodes 82 = .ok (.invokevirtual 198, 3) := by decide +kernel
theorem dX8_nodes_85 : decode cX8_nodes 85 = .ok (.aload_n 0, 1) := by decide +kernel
theorem dX8_nodes_86 : decode cX8_nodes 86 = .ok (.lload 4, 2) := by decide +kernel
theorem dX8_nodes_88 : decode cX8_nodes 88 = .ok (.lload 6, 2) := by decide +kernel
theorem dX8_nodes_90 : decode cX8_nodes 90 = .ok (.ldc2_w 123, 3) := by decide +kernel
theorem dX8_nodes_93 : decode cX8_nodes 93 = .ok (.lxor, 1) := by decide +kernel
theorem dX8_nodes_94 : decode cX8_nodes 94 = .ok (.land, 1) := by decide +kernel
theorem dX8_nodes_95 : decode cX8_nodes 95 = .ok (.invokevirtual 198, 3) := by decide +kernel
theorem dX8_nodes_98 : decode cX8_nodes 98 = .ok (.iinc 1 2, 3) := by decide +kernel
theorem dX8_nodes_101 : decode cX8_nodes 101 = .ok (.iinc 3 1, 3) := by decide +kernel
theorem dX8_nodes_104 : decode cX8_nodes 104 = .ok (.goto (-61), 3) := by decide +kernel
theorem dX8_nodes_107 : decode cX8_nodes 107 = .ok (.aload_n 0, 1) := by decide +kernel
theorem dX8_nodes_108 : decode cX8_nodes 108 = .ok (.getfield 27, 3) := by decide +kernel
theorem dX8_nodes_111 : decode cX8_nodes 111 = .ok (.invokevirtual 202, 3) := by decide +kernel
theorem dX8_nodes_114 : decode cX8_nodes 114 = .ok (.iinc 2 1, 3) := by decide +kernel
theorem dX8_nodes_117 : decode cX8_nodes 117 = .ok (.goto (-92), 3) := by decide +kernel
theorem dX8_nodes_120 : decode cX8_nodes 120 = .ok (.iload_n 1, 1) := by decide +kernel
theorem dX8_nodes_121 : decode cX8_nodes 121 = .ok (.ireturn, 1) := by decide +kernel
theorem dX8_begin_0 : decode cX8_begin 0 = .ok (.aload_n 0, 1) := by decide +kernel
theorem dX8_begin_1 : decode cX8_begin 1 = .ok (.getfield 12, 3) := by decide +kernel
theorem dX8_begin_4 : decode cX8_begin 4 = .ok (.getfield 39, 3) := by decide +kernel
theorem dX8_begin_7 : decode cX8_begin 7 = .ok (.invokevirtual 210, 3) := by decide +kernel
theorem dX8_begin_10 : decode cX8_begin 10 = .ok (.lstore_n 1, 1) := by decide +kernel
theorem dX8_begin_11 : decode cX8_begin 11 = .ok (.aload_n 0, 1) := by decide +kernel
theorem dX8_begin_12 : decode cX8_begin 12 = .ok (.getfield 12, 3) := by decide +kernel
theorem dX8_begin_15 : decode cX8_begin 15 = .ok (.getfield 81, 3) := by decide +kernel
theorem dX8_begin_18 : decode cX8_begin 18 = .ok (.lload_n 1, 1) := by decide +kernel
theorem dX8_begin_19 : decode cX8_begin 19 = .ok (.invokevirtual 213, 3) := by decide +kernel
theorem dX8_begin_22 : decode cX8_begin 22 = .ok (.lload_n 1, 1) := by decide +kernel
theorem dX8_begin_23 : decode cX8_begin 23 = .ok (.invokestatic 114, 3) := by decide +kernel
theorem dX8_begin_26 : decode cX8_begin 26 = .ok (.ireturn, 1) := by decide +kernel
theorem dX8_split_0 : decode cX8_split 0 = .ok (.aload_n 0, 1) := by decide +kernel
theorem dX8_split_1 : decode cX8_split 1 = .ok (.getfield 12, 3) := by decide +kernel
theorem dX8_split_4 : decode cX8_split 4 = .ok (.getfield 81, 3) := by decide +kernel
theorem dX8_split_7 : decode cX8_split 7 = .ok (.invokevirtual 216, 3) := by decide +kernel
theorem dX8_split_10 : decode cX8_split 10 = .ok (.ifCond .ne 5, 3) := by decide +kernel
theorem dX8_split_13 : decode cX8_split 13 = .ok (.iconst (-1), 1) := by decide +kernel
theorem dX8_split_14 : decode cX8_split 14 = .ok (.ireturn, 1) := by decide +kernel
theorem dX8_split_15 : decode cX8_split 15 = .ok (.aload_n 0, 1) := by decide +kernel
theorem dX8_split_16 : decode cX8_split 16 = .ok (.getfield 12, 3) := by decide +kernel
theorem dX8_split_19 : decode cX8_split 19 = .ok (.getfield 39, 3) := by decide +kernel
theorem dX8_split_22 : decode cX8_split 22 = .ok (.invokevirtual 77, 3) := by decide +kernel
theorem dX8_split_25 : decode cX8_split 25 = .ok (.lstore_n 1, 1) := by decide +kernel
theorem dX8_split_26 : decode cX8_split 26 = .ok (.aload_n 0, 1) := by decide +kernel
theorem dX8_split_27 : decode cX8_split 27 = .ok (.getfield 12, 3) := by decide +kernel
theorem dX8_split_30 : decode cX8_split 30 = .ok (.getfield 81, 3) := by decide +kernel
theorem dX8_split_33 : decode cX8_split 33 = .ok (.lload_n 1, 1) := by decide +kernel
theorem dX8_split_34 : decode cX8_split 34 = .ok (.invokevirtual 220, 3) := by decide +kernel
theorem dX8_split_37 : decode cX8_split 37 = .ok (.lstore_n 3, 1) := by decide +kernel
theorem dX8_split_38 : decode cX8_split 38 = .ok (.aload_n 0, 1) := by decide +kernel
theorem dX8_split_39 : decode cX8_split 39 = .ok (.lload_n 3, 1) := by decide +kernel
theorem dX8_split_40 : decode cX8_split 40 = .ok (.invokevirtual 163, 3) := by decide +kernel
theorem dX8_split_43 : decode cX8_split 43 = .ok (.istore 5, 2) := by decide +kernel
theorem dX8_split_45 : decode cX8_split 45 = .ok (.iload 5, 2) := by decide +kernel
theorem dX8_split_47 : decode cX8_split 47 = .ok (.iconst 2, 1) := by decide +kernel
theorem dX8_split_48 : decode cX8_split 48 = .ok (.if_icmp .ne 29, 3) := by decide +kernel
theorem dX8_split_51 : decode cX8_split 51 = .ok (.aload_n 0, 1) := by decide +kernel
theorem dX8_split_52 : decode cX8_split 52 = .ok (.getfield 12, 3) := by decide +kernel
theorem dX8_split_55 : decode cX8_split 55 = .ok (.getfield 81, 3) := by decide +kernel
theorem dX8_split_58 : decode cX8_split 58 = .ok (.lload_n 1, 1) := by decide +kernel
theorem dX8_split_59 : decode cX8_split 59 = .ok (.lload_n 3, 1) := by decide +kernel
theorem dX8_split_60 : decode cX8_split 60 = .ok (.ldc2_w 123, 3) := by decide +kernel
theorem dX8_split_63 : decode cX8_split 63 = .ok (.lxor, 1) := by decide +kernel
theorem dX8_split_64 : decode cX8_split 64 = .ok (.land, 1) := by decide +kernel
theorem dX8_split_65 : decode cX8_split 65 = .ok (.iconst 1, 1) := by decide +kernel
theorem dX8_split_66 : decode cX8_split 66 = .ok (.invokevirtual 224, 3) := by decide +kernel
theorem dX8_split_69 : decode cX8_split 69 = .ok (.aload_n 0, 1) := by decide +kernel
theorem dX8_split_70 : decode cX8_split 70 = .ok (.lload_n 3, 1) := by decide +kernel
theorem dX8_split_71 : decode cX8_split 71 = .ok (.invokevirtual 227, 3) := by decide +kernel
theorem dX8_split_74 : decode cX8_split 74 = .ok (.iload 5, 2) := by decide +kernel
theorem dX8_split_76 : decode cX8_split 76 = .ok (.ireturn, 1) := by decide +kernel
theorem dX8_split_77 : decode cX8_split 77 = .ok (.iload 5, 2) := by decide +kernel
theorem dX8_split_79 : decode cX8_split 79 = .ok (.iconst 1, 1) := by decide +kernel
theorem dX8_split_80 : decode cX8_split 80 = .ok (.if_icmp .ne 31, 3) := by decide +kernel
theorem dX8_split_83 : decode cX8_split 83 = .ok (.aload_n 0, 1) := by decide +kernel
theorem dX8_split_84 : decode cX8_split 84 = .ok (.getfield 12, 3) := by decide +kernel
theorem dX8_split_87 : decode cX8_split 87 = .ok (.getfield 81, 3) := by decide +kernel
theorem dX8_split_90 : decode cX8_split 90 = .ok (.aload_n 0, 1) := by decide +kernel
theorem dX8_split_91 : decode cX8_split 91 = .ok (.getfield 12, 3) := by decide +kernel
theorem dX8_split_94 : decode cX8_split 94 = .ok (.getfield 166, 3) := by decide +kernel
theorem dX8_split_97 : decode cX8_split 97 = .ok (.invokevirtual 230, 3) := by decide +kernel
theorem dX8_split_100 : decode cX8_split 100 = .ok (.aload_n 0, 1) := by decide +kernel
theorem dX8_split_101 : decode cX8_split 101 = .ok (.aload_n 0, 1) := by decide +kernel
theorem dX8_split_102 : decode cX8_split 102 = .ok (.getfield 12, 3) := by decide +kernel
theorem dX8_split_105 : decode cX8_split 105 = .ok (.getfield 166, 3) := by decide +kernel
theorem dX8_split_108 : decode cX8_split 108 = .ok (.invokevirtual 233, 3) := by decide +kernel
theorem dX8_split_111 : decode cX8_split 111 = .ok (.aload_n 0, 1) := by decide +kernel
theorem dX8_split_112 : decode cX8_split 112 = .ok (.getfield 12, 3) := by decide +kernel
theorem dX8_split_115 : decode cX8_split 115 = .ok (.getfield 81, 3) := by decide +kernel
theorem dX8_split_118 : decode cX8_split 118 = .ok (.lload_n 1, 1) := by decide +kernel
theorem dX8_split_119 : decode cX8_split 119 = .ok (.iconst (-1), 1) := by decide +kernel
theorem dX8_split_120 : decode cX8_split 120 = .ok (.invokevirtual 224, 3) := by decide +kernel
theorem dX8_split_123 : decode cX8_split 123 = .ok (.iload 5, 2) := by decide +kernel
theorem dX8_split_125 : decode cX8_split 125 = .ok (.ireturn, 1) := by decide +kernel
theorem dX8_frames_0 : decode cX8_frames 0 = .ok (.aload_n 0, 1) := by decide +kernel
theorem dX8_frames_1 : decode cX8_frames 1 = .ok (.getfield 12, 3) := by decide +kernel
theorem dX8_frames_4 : decode cX8_frames 4 = .ok (.getfield 236, 3) := by decide +kernel
theorem dX8_frames_7 : decode cX8_frames 7 = .ok (.lconst 0, 1) := by decide +kernel
theorem dX8_frames_8 : decode cX8_frames 8 = .ok (.putfield 240, 3) := by decide +kernel
theorem dX8_frames_11 : decode cX8_frames 11 = .ok (.return_, 1) := by decide +kernel
theorem dX8_frame_0 : decode cX8_frame 0 = .ok (.iload_n 1, 1) := by decide +kernel
theorem dX8_frame_1 : decode cX8_frame 1 = .ok (.iconst 1, 1) := by decide +kernel
theorem dX8_frame_2 : decode cX8_frame 2 = .ok (.if_icmp .lt 9, 3) := by decide +kernel
theorem dX8_frame_5 : decode cX8_frame 5 = .ok (.iload_n 1, 1) := by decide +kernel
theorem dX8_frame_6 : decode cX8_frame 6 = .ok (.bipush 64, 2) := by decide +kernel
theorem dX8_frame_8 : decode cX8_frame 8 = .ok (.if_icmp .le 5, 3) := by decide +kernel
theorem dX8_frame_11 : decode cX8_frame 11 = .ok (.iconst (-1), 1) := by decide +kernel
theorem dX8_frame_12 : decode cX8_frame 12 = .ok (.ireturn, 1) := by decide +kernel
theorem dX8_frame_13 : decode cX8_frame 13 = .ok (.aload_n 0, 1) := by decide +kernel
theorem dX8_frame_14 : decode cX8_frame 14 = .ok (.iload_n 1, 1) := by decide +kernel
theorem dX8_frame_15 : decode cX8_frame 15 = .ok (.invokevirtual 245, 3) := by decide +kernel
theorem dX8_frame_18 : decode cX8_frame 18 = .ok (.aload_n 0, 1) := by decide +kernel
theorem dX8_frame_19 : decode cX8_frame 19 = .ok (.getfield 12, 3) := by decide +kernel
theorem dX8_frame_22 : decode cX8_frame 22 = .ok (.getfield 236, 3) := by decide +kernel
theorem dX8_frame_25 : decode cX8_frame 25 = .ok (.invokevirtual 248, 3) := by decide +kernel
theorem dX8_frame_28 : decode cX8_frame 28 = .ok (.iconst 0, 1) := by decide +kernel
theorem dX8_frame_29 : decode cX8_frame 29 = .ok (.istore_n 2, 1) := by decide +kernel
theorem dX8_frame_30 : decode cX8_frame 30 = .ok (.iload_n 2, 1) := by decide +kernel
theorem dX8_frame_31 : decode cX8_frame 31 = .ok (.iload_n 1, 1) := by decide +kernel
theorem dX8_frame_32 : decode cX8_frame 32 = .ok (.if_icmp .ge 80, 3) := by decide +kernel
theorem dX8_frame_35 : decode cX8_frame 35 = .ok (.aload_n 0, 1) := by decide +kernel
theorem dX8_frame_36 : decode cX8_frame 36 = .ok (.aload_n 0, 1) := by decide +kernel
theorem dX8_frame_37 : decode cX8_frame 37 = .ok (.getfield 20, 3) := by decide +kernel
theorem dX8_frame_40 : decode cX8_frame 40 = .ok (.iload_n 2, 1) := by decide +kernel
theorem dX8_frame_41 : decode cX8_frame 41 = .ok (.laload, 1) := by decide +kernel
theorem dX8_frame_42 : decode cX8_frame 42 = .ok (.invokevirtual 251, 3) := by decide +kernel
theorem dX8_frame_45 : decode cX8_frame 45 = .ok (.lstore_n 3, 1) := by decide +kernel
theorem dX8_frame_46 : decode cX8_frame 46 = .ok (.lload_n 3, 1) := by decide +kernel
theorem dX8_frame_47 : decode cX8_frame 47 = .ok (.invokestatic 254, 3) := by decide +kernel
theorem dX8_frame_50 : decode cX8_frame 50 = .ok (.istore 5, 2) := by decide +kernel
theorem dX8_frame_52 : decode cX8_frame 52 = .ok (.aload_n 0, 1) := by decide +kernel
theorem dX8_frame_53 : decode cX8_frame 53 = .ok (.getfield 12, 3) := by decide +kernel
theorem dX8_frame_56 : decode cX8_frame 56 = .ok (.getfield 94, 3) := by decide +kernel
theorem dX8_frame_59 : decode cX8_frame 59 = .ok (.iload 5, 2) := by decide +kernel
theorem dX8_frame_61 : decode cX8_frame 61 = .ok (.invokevirtual 257, 3) := by decide +kernel
theorem dX8_frame_64 : decode cX8_frame 64 = .ok (.aload_n 0, 1) := by decide +kernel
theorem dX8_frame_65 : decode cX8_frame 65 = .ok (.getfield 12, 3) := by decide +kernel
theorem dX8_frame_68 : decode cX8_frame 68 = .ok (.getfield 236, 3) := by decide +kernel
theorem dX8_frame_71 : decode cX8_frame 71 = .ok (.iload 5, 2) := by decide +kernel
theorem dX8_frame_73 : decode cX8_frame 73 = .ok (.invokevirtual 260, 3) := by decide +kernel
theorem dX8_frame_76 : decode cX8_frame 76 = .ok (.iload 5, 2) := by decide +kernel
theorem dX8_frame_78 : decode cX8_frame 78 = .ok (.iconst 1, 1) := by decide +kernel
theorem dX8_frame_79 : decode cX8_frame 79 = .ok (.if_icmp .ne 27, 3) := by decide +kernel
theorem dX8_frame_82 : decode cX8_frame 82 = .ok (.aload_n 0, 1) := by decide +kernel
theorem dX8_frame_83 : decode cX8_frame 83 = .ok (.getfield 12, 3) := by decide +kernel
theorem dX8_frame_86 : decode cX8_frame 86 = .ok (.getfield 236, 3) := by decide +kernel
theorem dX8_frame_89 : decode cX8_frame 89 = .ok (.dup, 1) := by decide +kernel
theorem dX8_frame_90 : decode cX8_frame 90 = .ok (.getfield 240, 3) := by decide +kernel
theorem dX8_frame_93 : decode cX8_frame 93 = .ok (.lload_n 3, 1) := by decide +kernel
theorem dX8_frame_94 : decode cX8_frame 94 = .ok (.lor, 1) := by decide +kernel
theorem dX8_frame_95 : decode cX8_frame 95 = .ok (.putfield 240, 3) := by decide +kernel
theorem dX8_frame_98 : decode cX8_frame 98 = .ok (.aload_n 0, 1) := by decide +kernel
theorem dX8_frame_99 : decode cX8_frame 99 = .ok (.lload_n 3, 1) := by decide +kernel
theorem dX8_frame_100 : decode cX8_frame 100 = .ok (.invokestatic 138, 3) := by decide +kernel
theorem dX8_frame_103 : decode cX8_frame 103 = .ok (.invokevirtual 233, 3) := by decide +kernel
theorem dX8_frame_106 : decode cX8_frame 106 = .ok (.iinc 2 1, 3) := by decide +kernel
theorem dX8_frame_109 : decode cX8_frame 109 = .ok (.goto (-79), 3) := by decide +kernel
theorem dX8_frame_112 : decode cX8_frame 112 = .ok (.aload_n 0, 1) := by decide +kernel
theorem dX8_frame_113 : decode cX8_frame 113 = .ok (.getfield 12, 3) := by decide +kernel
theorem dX8_frame_116 : decode cX8_frame 116 = .ok (.getfield 236, 3) := by decide +kernel
theorem dX8_frame_119 : decode cX8_frame 119 = .ok (.invokevirtual 263, 3) := by decide +kernel
theorem dX8_frame_122 : decode cX8_frame 122 = .ok (.aload_n 0, 1) := by decide +kernel
theorem dX8_frame_123 : decode cX8_frame 123 = .ok (.getfield 12, 3) := by decide +kernel
theorem dX8_frame_126 : decode cX8_frame 126 = .ok (.getfield 236, 3) := by decide +kernel
theorem dX8_frame_129 : decode cX8_frame 129 = .ok (.getfield 266, 3) := by decide +kernel
theorem dX8_frame_132 : decode cX8_frame 132 = .ok (.ireturn, 1) := by decide +kernel
theorem dX8_heard_0 : decode cX8_heard 0 = .ok (.iload_n 1, 1) := by decide +kernel
theorem dX8_heard_1 : decode cX8_heard 1 = .ok (.tableswitch 75 0 3 #[31, 42, 53, 64], 31) := by decide +kernel
theorem dX8_heard_32 : decode cX8_heard 32 = .ok (.aload_n 0, 1) := by decide +kernel
theorem dX8_heard_33 : decode cX8_heard 33 = .ok (.getfield 12, 3) := by decide +kernel
theorem dX8_heard_36 : decode cX8_heard 36 = .ok (.getfield 236, 3) := by decide +kernel
theorem dX8_heard_39 : decode cX8_heard 39 = .ok (.getfield 269, 3) := by decide +kernel
theorem dX8_heard_42 : decode cX8_heard 42 = .ok (.ireturn, 1) := by decide +kernel
theorem dX8_heard_43 : decode cX8_heard 43 = .ok (.aload_n 0, 1) := by decide +kernel
theorem dX8_heard_44 : decode cX8_heard 44 = .ok (.getfield 12, 3) := by decide +kernel
theorem dX8_heard_47 : decode cX8_heard 47 = .ok (.getfield 236, 3) := by decide +kernel
theorem dX8_heard_50 : decode cX8_heard 50 = .ok (.getfield 266, 3) := by decide +kernel
theorem dX8_heard_53 : decode cX8_heard 53 = .ok (.ireturn, 1) := by decide +kernel
theorem dX8_heard_54 : decode cX8_heard 54 = .ok (.aload_n 0, 1) := by decide +kernel
theorem dX8_heard_55 : decode cX8_heard 55 = .ok (.getfield 12, 3) := by decide +kernel
theorem dX8_heard_58 : decode cX8_heard 58 = .ok (.getfield 236, 3) := by decide +kernel
theorem dX8_heard_61 : decode cX8_heard 61 = .ok (.getfield 272, 3) := by decide +kernel
theorem dX8_heard_64 : decode cX8_heard 64 = .ok (.ireturn, 1) := by decide +kernel
theorem dX8_heard_65 : decode cX8_heard 65 = .ok (.aload_n 0, 1) := by decide +kernel
theorem dX8_heard_66 : decode cX8_heard 66 = .ok (.getfield 12, 3) := by decide +kernel
theorem dX8_heard_69 : decode cX8_heard 69 = .ok (.getfield 236, 3) := by decide +kernel
theorem dX8_heard_72 : decode cX8_heard 72 = .ok (.getfield 275, 3) := by decide +kernel
theorem dX8_heard_75 : decode cX8_heard 75 = .ok (.ireturn, 1) := by decide +kernel
theorem dX8_heard_76 : decode cX8_heard 76 = .ok (.iconst (-1), 1) := by decide +kernel
theorem dX8_heard_77 : decode cX8_heard 77 = .ok (.ireturn, 1) := by decide +kernel
theorem dX8_found_0 : decode cX8_found 0 = .ok (.aload_n 0, 1) := by decide +kernel
theorem dX8_found_1 : decode cX8_found 1 = .ok (.getfield 12, 3) := by decide +kernel
theorem dX8_found_4 : decode cX8_found 4 = .ok (.getfield 94, 3) := by decide +kernel
theorem dX8_found_7 : decode cX8_found 7 = .ok (.iload_n 1, 1) := by decide +kernel
theorem dX8_found_8 : decode cX8_found 8 = .ok (.invokevirtual 278, 3) := by decide +kernel
theorem dX8_found_11 : decode cX8_found 11 = .ok (.ireturn, 1) := by decide +kernel
theorem dX8_cost_0 : decode cX8_cost 0 = .ok (.iload_n 1, 1) := by decide +kernel
theorem dX8_cost_1 : decode cX8_cost 1 = .ok (.tableswitch 90 0 4 #[35, 46, 57, 68, 79], 35) := by decide +kernel
theorem dX8_cost_36 : decode cX8_cost 36 = .ok (.aload_n 0, 1) := by decide +kernel
theorem dX8_cost_37 : decode cX8_cost 37 = .ok (.getfield 12, 3) := by decide +kernel
theorem dX8_cost_40 : decode cX8_cost 40 = .ok (.getfield 94, 3) := by decide +kernel
theorem dX8_cost_43 : decode cX8_cost 43 = .ok (.getfield 281, 3) := by decide +kernel
theorem dX8_cost_46 : decode cX8_cost 46 = .ok (.ireturn, 1) := by decide +kernel
theorem dX8_cost_47 : decode cX8_cost 47 = .ok (.aload_n 0, 1) := by decide +kernel
theorem dX8_cost_48 : decode cX8_cost 48 = .ok (.getfield 12, 3) := by decide +kernel
theorem dX8_cost_51 : decode cX8_cost 51 = .ok (.getfield 94, 3) := by decide +kernel
theorem dX8_cost_54 : decode cX8_cost 54 = .ok (.getfield 284, 3) := by decide +kernel
theorem dX8_cost_57 : decode cX8_cost 57 = .ok (.ireturn, 1) := by decide +kernel
theorem dX8_cost_58 : decode cX8_cost 58 = .ok (.aload_n 0, 1) := by decide +kernel
theorem dX8_cost_59 : decode cX8_cost 59 = .ok (.getfield 12, 3) := by decide +kernel
theorem dX8_cost_62 : decode cX8_cost 62 = .ok (.getfield 94, 3) := by decide +kernel
theorem dX8_cost_65 : decode cX8_cost 65 = .ok (.getfield 287, 3) := by decide +kernel
theorem dX8_cost_68 : decode cX8_cost 68 = .ok (.ireturn, 1) := by decide +kernel
theorem dX8_cost_69 : decode cX8_cost 69 = .ok (.aload_n 0, 1) := by decide +kernel
theorem dX8_cost_70 : decode cX8_cost 70 = .ok (.getfield 12, 3) := by decide +kernel
theorem dX8_cost_73 : decode cX8_cost 73 = .ok (.getfield 94, 3) := by decide +kernel
theorem dX8_cost_76 : decode cX8_cost 76 = .ok (.getfield 290, 3) := by decide +kernel
theorem dX8_cost_79 : decode cX8_cost 79 = .ok (.ireturn, 1) := by decide +kernel
theorem dX8_cost_80 : decode cX8_cost 80 = .ok (.aload_n 0, 1) := by decide +kernel
theorem dX8_cost_81 : decode cX8_cost 81 = .ok (.getfield 12, 3) := by decide +kernel
theorem dX8_cost_84 : decode cX8_cost 84 = .ok (.getfield 94, 3) := by decide +kernel
theorem dX8_cost_87 : decode cX8_cost 87 = .ok (.invokevirtual 293, 3) := by decide +kernel
theorem dX8_cost_90 : decode cX8_cost 90 = .ok (.ireturn, 1) := by decide +kernel
theorem dX8_cost_91 : decode cX8_cost 91 = .ok (.iconst (-1), 1) := by decide +kernel
theorem dX8_cost_92 : decode cX8_cost 92 = .ok (.ireturn, 1) := by decide +kernel
theorem dX8_count_0 : decode cX8_count 0 = .ok (.iload_n 1, 1) := by decide +kernel
theorem dX8_count_1 : decode cX8_count 1 = .ok (.tableswitch 110 0 4 #[35, 46, 60, 71, 82], 35) := by decide +kernel
theorem dX8_count_36 : decode cX8_count 36 = .ok (.aload_n 0, 1) := by decide +kernel
theorem dX8_count_37 : decode cX8_count 37 = .ok (.getfield 12, 3) := by decide +kernel
theorem dX8_count_40 : decode cX8_count 40 = .ok (.getfield 39, 3) := by decide +kernel
theorem dX8_count_43 : decode cX8_count 43 = .ok (.getfield 296, 3) := by decide +kernel
theorem dX8_count_46 : decode cX8_count 46 = .ok (.ireturn, 1) := by decide +kernel
theorem dX8_count_47 : decode cX8_count 47 = .ok (.aload_n 0, 1) := by decide +kernel
theorem dX8_count_48 : decode cX8_count 48 = .ok (.getfield 12, 3) := by decide +kernel
theorem dX8_count_51 : decode cX8_count 51 = .ok (.getfield 39, 3) := by decide +kernel
theorem dX8_count_54 : decode cX8_count 54 = .ok (.invokevirtual 77, 3) := by decide +kernel
theorem dX8_count_57 : decode cX8_count 57 = .ok (.invokestatic 114, 3) := by decide +kernel
theorem dX8_count_60 : decode cX8_count 60 = .ok (.ireturn, 1) := by decide +kernel
theorem dX8_count_61 : decode cX8_count 61 = .ok (.aload_n 0, 1) := by decide +kernel
theorem dX8_count_62 : decode cX8_count 62 = .ok (.getfield 12, 3) := by decide +kernel
theorem dX8_count_65 : decode cX8_count 65 = .ok (.getfield 94, 3) := by decide +kernel
theorem dX8_count_68 : decode cX8_count 68 = .ok (.getfield 297, 3) := by decide +kernel
theorem dX8_count_71 : decode cX8_count 71 = .ok (.ireturn, 1) := by decide +kernel
theorem dX8_count_72 : decode cX8_count 72 = .ok (.aload_n 0, 1) := by decide +kernel
theorem dX8_count_73 : decode cX8_count 73 = .ok (.getfield 12, 3) := by decide +kernel
theorem dX8_count_76 : decode cX8_count 76 = .ok (.getfield 169, 3) := by decide +kernel
theorem dX8_count_79 : decode cX8_count 79 = .ok (.getfield 178, 3) := by decide +kernel
theorem dX8_count_82 : decode cX8_count 82 = .ok (.ireturn, 1) := by decide +kernel
theorem dX8_count_83 : decode cX8_count 83 = .ok (.aload_n 0, 1) := by decide +kernel
theorem dX8_count_84 : decode cX8_count 84 = .ok (.getfield 12, 3) := by decide +kernel
theorem dX8_count_87 : decode cX8_count 87 = .ok (.getfield 81, 3) := by decide +kernel
theorem dX8_count_90 : decode cX8_count 90 = .ok (.invokevirtual 216, 3) := by decide +kernel
theorem dX8_count_93 : decode cX8_count 93 = .ok (.ifCond .eq 16, 3) := by decide +kernel
theorem dX8_count_96 : decode cX8_count 96 = .ok (.aload_n 0, 1) := by decide +kernel
theorem dX8_count_97 : decode cX8_count 97 = .ok (.getfield 12, 3) := by decide +kernel
theorem dX8_count_100 : decode cX8_count 100 = .ok (.getfield 81, 3) := by decide +kernel
theorem dX8_count_103 : decode cX8_count 103 = .ok (.getfield 300, 3) := by decide +kernel
theorem dX8_count_106 : decode cX8_count 106 = .ok (.goto 4, 3) := by decide +kernel
theorem dX8_count_109 : decode cX8_count 109 = .ok (.iconst (-1), 1) := by decide +kernel
theorem dX8_count_110 : decode cX8_count 110 = .ok (.ireturn, 1) := by decide +kernel
theorem dX8_count_111 : decode cX8_count 111 = .ok (.iconst (-1), 1) := by decide +kernel
theorem dX8_count_112 : decode cX8_count 112 = .ok (.ireturn, 1) := by decide +kernel
theorem dX8_image_0 : decode cX8_image 0 = .ok (.iload_n 1, 1) := by decide +kernel
theorem dX8_image_1 : decode cX8_image 1 = .ok (.ifCond .lt 8, 3) := by decide +kernel
theorem dX8_image_4 : decode cX8_image 4 = .ok (.iload_n 1, 1) := by decide +kernel
theorem dX8_image_5 : decode cX8_image 5 = .ok (.iconst 4, 1) := by decide +kernel
theorem dX8_image_6 : decode cX8_image 6 = .ok (.if_icmp .lt 5, 3) := by decide +kernel
theorem dX8_image_9 : decode cX8_image 9 = .ok (.iconst 0, 1) := by decide +kernel
theorem dX8_image_10 : decode cX8_image 10 = .ok (.ireturn, 1) := by decide +kernel
theorem dX8_image_11 : decode cX8_image 11 = .ok (.aload_n 0, 1) := by decide +kernel
theorem dX8_image_12 : decode cX8_image 12 = .ok (.getfield 16, 3) := by decide +kernel
theorem dX8_image_15 : decode cX8_image 15 = .ok (.iload_n 1, 1) := by decide +kernel
theorem dX8_image_16 : decode cX8_image 16 = .ok (.aaload, 1) := by decide +kernel
theorem dX8_image_17 : decode cX8_image 17 = .ok (.astore_n 2, 1) := by decide +kernel
theorem dX8_image_18 : decode cX8_image 18 = .ok (.aload_n 2, 1) := by decide +kernel
theorem dX8_image_19 : decode cX8_image 19 = .ok (.ifnonnull 18, 3) := by decide +kernel
theorem dX8_image_22 : decode cX8_image 22 = .ok (.new 9, 3) := by decide +kernel
theorem dX8_image_25 : decode cX8_image 25 = .ok (.dup, 1) := by decide +kernel
theorem dX8_image_26 : decode cX8_image 26 = .ok (.invokespecial 11, 3) := by decide +kernel
theorem dX8_image_29 : decode cX8_image 29 = .ok (.astore_n 2, 1) := by decide +kernel
theorem dX8_image_30 : decode cX8_image 30 = .ok (.aload_n 0, 1) := by decide +kernel
theorem dX8_image_31 : decode cX8_image 31 = .ok (.getfield 16, 3) := by decide +kernel
theorem dX8_image_34 : decode cX8_image 34 = .ok (.iload_n 1, 1) := by decide +kernel
theorem dX8_image_35 : decode cX8_image 35 = .ok (.aload_n 2, 1) := by decide +kernel
theorem dX8_image_36 : decode cX8_image 36 = .ok (.aastore, 1) := by decide +kernel
theorem dX8_image_37 : decode cX8_image 37 = .ok (.aload_n 2, 1) := by decide +kernel
theorem dX8_image_38 : decode cX8_image 38 = .ok (.aload_n 0, 1) := by decide +kernel
theorem dX8_image_39 : decode cX8_image 39 = .ok (.getfield 12, 3) := by decide +kernel
theorem dX8_image_42 : decode cX8_image 42 = .ok (.invokevirtual 303, 3) := by decide +kernel
theorem dX8_image_45 : decode cX8_image 45 = .ok (.iconst 1, 1) := by decide +kernel
theorem dX8_image_46 : decode cX8_image 46 = .ok (.ireturn, 1) := by decide +kernel
theorem dX8_again_0 : decode cX8_again 0 = .ok (.iload_n 1, 1) := by decide +kernel
theorem dX8_again_1 : decode cX8_again 1 = .ok (.ifCond .lt 8, 3) := by decide +kernel
theorem dX8_again_4 : decode cX8_again 4 = .ok (.iload_n 1, 1) := by decide +kernel
theorem dX8_again_5 : decode cX8_again 5 = .ok (.iconst 4, 1) := by decide +kernel
theorem dX8_again_6 : decode cX8_again 6 = .ok (.if_icmp .lt 5, 3) := by decide +kernel
theorem dX8_again_9 : decode cX8_again 9 = .ok (.iconst 0, 1) := by decide +kernel
theorem dX8_again_10 : decode cX8_again 10 = .ok (.ireturn, 1) := by decide +kernel
theorem dX8_again_11 : decode cX8_again 11 = .ok (.aload_n 0, 1) := by decide +kernel
theorem dX8_again_12 : decode cX8_again 12 = .ok (.getfield 16, 3) := by decide +kernel
theorem dX8_again_15 : decode cX8_again 15 = .ok (.iload_n 1, 1) := by decide +kernel
theorem dX8_again_16 : decode cX8_again 16 = .ok (.aaload, 1) := by decide +kernel
theorem dX8_again_17 : decode cX8_again 17 = .ok (.astore_n 2, 1) := by decide +kernel
theorem dX8_again_18 : decode cX8_again 18 = .ok (.aload_n 2, 1) := by decide +kernel
theorem dX8_again_19 : decode cX8_again 19 = .ok (.ifnonnull 5, 3) := by decide +kernel
theorem dX8_again_22 : decode cX8_again 22 = .ok (.iconst 0, 1) := by decide +kernel
theorem dX8_again_23 : decode cX8_again 23 = .ok (.ireturn, 1) := by decide +kernel
theorem dX8_again_24 : decode cX8_again 24 = .ok (.aload_n 0, 1) := by decide +kernel
theorem dX8_again_25 : decode cX8_again 25 = .ok (.getfield 12, 3) := by decide +kernel
theorem dX8_again_28 : decode cX8_again 28 = .ok (.aload_n 2, 1) := by decide +kernel
theorem dX8_again_29 : decode cX8_again 29 = .ok (.invokevirtual 303, 3) := by decide +kernel
theorem dX8_again_32 : decode cX8_again 32 = .ok (.iconst 1, 1) := by decide +kernel
theorem dX8_again_33 : decode cX8_again 33 = .ok (.ireturn, 1) := by decide +kernel
theorem dX8_hearSlot_0 : decode cX8_hearSlot 0 = .ok (.aload_n 0, 1) := by decide +kernel
theorem dX8_hearSlot_1 : decode cX8_hearSlot 1 = .ok (.lload_n 1, 1) := by decide +kernel
theorem dX8_hearSlot_2 : decode cX8_hearSlot 2 = .ok (.invokevirtual 251, 3) := by decide +kernel
theorem dX8_hearSlot_5 : decode cX8_hearSlot 5 = .ok (.lstore_n 3, 1) := by decide +kernel
theorem dX8_hearSlot_6 : decode cX8_hearSlot 6 = .ok (.lload_n 3, 1) := by decide +kernel
theorem dX8_hearSlot_7 : decode cX8_hearSlot 7 = .ok (.invokestatic 254, 3) := by decide +kernel
theorem dX8_hearSlot_10 : decode cX8_hearSlot 10 = .ok (.istore 5, 2) := by decide +kernel
theorem dX8_hearSlot_12 : decode cX8_hearSlot 12 = .ok (.aload_n 0, 1) := by decide +kernel
theorem dX8_hearSlot_13 : decode cX8_hearSlot 13 = .ok (.getfield 12, 3) := by decide +kernel
theorem dX8_hearSlot_16 : decode cX8_hearSlot 16 = .ok (.getfield 94, 3) := by decide +kernel
theorem dX8_hearSlot_19 : decode cX8_hearSlot 19 = .ok (.iload 5, 2) := by decide +kernel
theorem dX8_hearSlot_21 : decode cX8_hearSlot 21 = .ok (.invokevirtual 257, 3) := by decide +kernel
theorem dX8_hearSlot_24 : decode cX8_hearSlot 24 = .ok (.aload_n 0, 1) := by decide +kernel
theorem dX8_hearSlot_25 : decode cX8_hearSlot 25 = .ok (.getfield 12, 3) := by decide +kernel
theorem dX8_hearSlot_28 : decode cX8_hearSlot 28 = .ok (.iload 5, 2) := by decide +kernel
theorem dX8_hearSlot_30 : decode cX8_hearSlot 30 = .ok (.iconst 1, 1) := by decide +kernel
theorem dX8_hearSlot_31 : decode cX8_hearSlot 31 = .ok (.if_icmp .ne 10, 3) := by decide +kernel
theorem dX8_hearSlot_34 : decode cX8_hearSlot 34 = .ok (.lload_n 3, 1) := by decide +kernel
theorem dX8_hearSlot_35 : decode cX8_hearSlot 35 = .ok (.invokestatic 138, 3) := by decide +kernel
theorem dX8_hearSlot_38 : decode cX8_hearSlot 38 = .ok (.goto 4, 3) := by decide +kernel
theorem dX8_hearSlot_41 : decode cX8_hearSlot 41 = .ok (.iconst (-1), 1) := by decide +kernel
theorem dX8_hearSlot_42 : decode cX8_hearSlot 42 = .ok (.putfield 166, 3) := by decide +kernel
theorem dX8_hearSlot_45 : decode cX8_hearSlot 45 = .ok (.iload 5, 2) := by decide +kernel
theorem dX8_hearSlot_47 : decode cX8_hearSlot 47 = .ok (.ireturn, 1) := by decide +kernel
theorem dX8_audibleOf_0 : decode cX8_audibleOf 0 = .ok (.lload_n 1, 1) := by decide +kernel
theorem dX8_audibleOf_1 : decode cX8_audibleOf 1 = .ok (.aload_n 0, 1) := by decide +kernel
theorem dX8_audibleOf_2 : decode cX8_audibleOf 2 = .ok (.getfield 12, 3) := by decide +kernel
theorem dX8_audibleOf_5 : decode cX8_audibleOf 5 = .ok (.getfield 39, 3) := by decide +kernel
theorem dX8_audibleOf_8 : decode cX8_audibleOf 8 = .ok (.getfield 307, 3) := by decide +kernel
theorem dX8_audibleOf_11 : decode cX8_audibleOf 11 = .ok (.iconst 5, 1) := by decide +kernel
theorem dX8_audibleOf_12 : decode cX8_audibleOf 12 = .ok (.laload, 1) := by decide +kernel
theorem dX8_audibleOf_13 : decode cX8_audibleOf 13 = .ok (.ldc2_w 123, 3) := by decide +kernel
theorem dX8_audibleOf_16 : decode cX8_audibleOf 16 = .ok (.lxor, 1) := by decide +kernel
theorem dX8_audibleOf_17 : decode cX8_audibleOf 17 = .ok (.land, 1) := by decide +kernel
theorem dX8_audibleOf_18 : decode cX8_audibleOf 18 = .ok (.lstore_n 3, 1) := by decide +kernel
theorem dX8_audibleOf_19 : decode cX8_audibleOf 19 = .ok (.aload_n 0, 1) := by decide +kernel
theorem dX8_audibleOf_20 : decode cX8_audibleOf 20 = .ok (.getfield 12, 3) := by decide +kernel
theorem dX8_audibleOf_23 : decode cX8_audibleOf 23 = .ok (.getfield 31, 3) := by decide +kernel
theorem dX8_audibleOf_26 : decode cX8_audibleOf 26 = .ok (.iconst 1, 1) := by decide +kernel
theorem dX8_audibleOf_27 : decode cX8_audibleOf 27 = .ok (.if_icmp .ne 15, 3) := by decide +kernel
theorem dX8_audibleOf_30 : decode cX8_audibleOf 30 = .ok (.lload_n 3, 1) := by decide +kernel
theorem dX8_audibleOf_31 : decode cX8_audibleOf 31 = .ok (.invokestatic 254, 3) := by decide +kernel
theorem dX8_audibleOf_34 : decode cX8_audibleOf 34 = .ok (.iconst 1, 1) := by decide +kernel
theorem dX8_audibleOf_35 : decode cX8_audibleOf 35 = .ok (.if_icmp .ne 7, 3) := by decide +kernel
theorem dX8_audibleOf_38 : decode cX8_audibleOf 38 = .ok (.iconst 1, 1) := by decide +kernel
theorem dX8_audibleOf_39 : decode cX8_audibleOf 39 = .ok (.goto 4, 3) := by decide +kernel
theorem dX8_audibleOf_42 : decode cX8_audibleOf 42 = .ok (.iconst 0, 1) := by decide +kernel
theorem dX8_audibleOf_43 : decode cX8_audibleOf 43 = .ok (.istore 5, 2) := by decide +kernel
theorem dX8_audibleOf_45 : decode cX8_audibleOf 45 = .ok (.iload 5, 2) := by decide +kernel
theorem dX8_audibleOf_47 : decode cX8_audibleOf 47 = .ok (.ifCond .eq 7, 3) := by decide +kernel
theorem dX8_audibleOf_50 : decode cX8_audibleOf 50 = .ok (.lload_n 3, 1) := by decide +kernel
theorem dX8_audibleOf_51 : decode cX8_audibleOf 51 = .ok (.goto 4, 3) := by decide +kernel
theorem dX8_audibleOf_54 : decode cX8_audibleOf 54 = .ok (.lload_n 1, 1) := by decide +kernel
theorem dX8_audibleOf_55 : decode cX8_audibleOf 55 = .ok (.lreturn, 1) := by decide +kernel
theorem dX8_admitCrowd_0 : decode cX8_admitCrowd 0 = .ok (.aload_n 0, 1) := by decide +kernel
theorem dX8_admitCrowd_1 : decode cX8_admitCrowd 1 = .ok (.lload_n 1, 1) := by decide +kernel
theorem dX8_admitCrowd_2 : decode cX8_admitCrowd 2 = .ok (.invokevirtual 251, 3) := by decide +kernel
theorem dX8_admitCrowd_5 : decode cX8_admitCrowd 5 = .ok (.invokestatic 254, 3) := by decide +kernel
theorem dX8_admitCrowd_8 : decode cX8_admitCrowd 8 = .ok (.iconst 2, 1) := by decide +kernel
theorem dX8_admitCrowd_9 : decode cX8_admitCrowd 9 = .ok (.if_icmp .ne 11, 3) := by decide +kernel
theorem dX8_admitCrowd_12 : decode cX8_admitCrowd 12 = .ok (.aload_n 0, 1) := by decide +kernel
theorem dX8_admitCrowd_13 : decode cX8_admitCrowd 13 = .ok (.getfield 27, 3) := by decide +kernel
theorem dX8_admitCrowd_16 : decode cX8_admitCrowd 16 = .ok (.lload_n 1, 1) := by decide +kernel
theorem dX8_admitCrowd_17 : decode cX8_admitCrowd 17 = .ok (.invokevirtual 310, 3) := by decide +kernel
theorem dX8_admitCrowd_20 : decode cX8_admitCrowd 20 = .ok (.return_, 1) := by decide +kernel
theorem dX8_findAndTire_0 : decode cX8_findAndTire 0 = .ok (.aload_n 0, 1) := by decide +kernel
theorem dX8_findAndTire_1 : decode cX8_findAndTire 1 = .ok (.getfield 12, 3) := by decide +kernel
theorem dX8_findAndTire_4 : decode cX8_findAndTire 4 = .ok (.getfield 94, 3) := by decide +kernel
theorem dX8_findAndTire_7 : decode cX8_findAndTire 7 = .ok (.iload_n 1, 1) := by decide +kernel
theorem dX8_findAndTire_8 : decode cX8_findAndTire 8 = .ok (.invokevirtual 148, 3) := by decide +kernel
theorem dX8_findAndTire_11 : decode cX8_findAndTire 11 = .ok (.aload_n 0, 1) := by decide +kernel
theorem dX8_findAndTire_12 : decode cX8_findAndTire 12 = .ok (.getfield 12, 3) := by decide +kernel
theorem dX8_findAndTire_15 : decode cX8_findAndTire 15 = .ok (.getfield 39, 3) := by decide +kernel
theorem dX8_findAndTire_18 : decode cX8_findAndTire 18 = .ok (.iload_n 1, 1) := by decide +kernel
theorem dX8_findAndTire_19 : decode cX8_findAndTire 19 = .ok (.invokevirtual 313, 3) := by decide +kernel
theorem dX8_findAndTire_22 : decode cX8_findAndTire 22 = .ok (.return_, 1) := by decide +kernel
theorem dX8_drawCounters_0 : decode cX8_drawCounters 0 = .ok (.iconst 0, 1) := by decide +kernel
theorem dX8_drawCounters_1 : decode cX8_drawCounters 1 = .ok (.istore_n 3, 1) := by decide +kernel
theorem dX8_drawCounters_2 : decode cX8_drawCounters 2 = .ok (.iload_n 3, 1) := by decide +kernel
theorem dX8_drawCounters_3 : decode cX8_drawCounters 3 = .ok (.aload_n 0, 1) := by decide +kernel
theorem dX8_drawCounters_4 : decode cX8_drawCounters 4 = .ok (.getfield 12, 3) := by decide +kernel
theorem dX8_drawCounters_7 : decode cX8_drawCounters 7 = .ok (.getfield 39, 3) := by decide +kernel
theorem dX8_drawCounters_10 : decode cX8_drawCounters 10 = .ok (.getfield 296, 3) := by decide +kernel
theorem dX8_drawCounters_13 : decode cX8_drawCounters 13 = .ok (.if_icmp .ge 40, 3) := by decide +kernel
theorem dX8_drawCounters_16 : decode cX8_drawCounters 16 = .ok (.lload_n 1, 1) := by decide +kernel
theorem dX8_drawCounters_17 : decode cX8_drawCounters 17 = .ok (.iload_n 3, 1) := by decide +kernel
theorem dX8_drawCounters_18 : decode cX8_drawCounters 18 = .ok (.invokestatic 66, 3) := by decide +kernel
theorem dX8_drawCounters_21 : decode cX8_drawCounters 21 = .ok (.ifCond .eq 26, 3) := by decide +kernel
theorem dX8_drawCounters_24 : decode cX8_drawCounters 24 = .ok (.aload_n 0, 1) := by decide +kernel
theorem dX8_drawCounters_25 : decode cX8_drawCounters 25 = .ok (.getfield 12, 3) := by decide +kernel
theorem dX8_drawCounters_28 : decode cX8_drawCounters 28 = .ok (.getfield 81, 3) := by decide +kernel
theorem dX8_drawCounters_31 : decode cX8_drawCounters 31 = .ok (.iload_n 3, 1) := by decide +kernel
theorem dX8_drawCounters_32 : decode cX8_drawCounters 32 = .ok (.aload_n 0, 1) := by decide +kernel
theorem dX8_drawCounters_33 : decode cX8_drawCounters 33 = .ok (.getfield 12, 3) := by decide +kernel
theorem dX8_drawCounters_36 : decode cX8_drawCounters 36 = .ok (.getfield 39, 3) := by decide +kernel
theorem dX8_drawCounters_39 : decode cX8_drawCounters 39 = .ok (.iload_n 3, 1) := by decide +kernel
theorem dX8_drawCounters_40 : decode cX8_drawCounters 40 = .ok (.iconst 2, 1) := by decide +kernel
theorem dX8_drawCounters_41 : decode cX8_drawCounters 41 = .ok (.invokevirtual 316, 3) := by decide +kernel
theorem dX8_drawCounters_44 : decode cX8_drawCounters 44 = .ok (.invokevirtual 320, 3) := by decide +kernel
theorem dX8_drawCounters_47 : decode cX8_drawCounters 47 = .ok (.iinc 3 1, 3) := by decide +kernel
theorem dX8_drawCounters_50 : decode cX8_drawCounters 50 = .ok (.goto (-48), 3) := by decide +kernel
theorem dX8_drawCounters_53 : decode cX8_drawCounters 53 = .ok (.return_, 1) := by decide +kernel
theorem dX8_drawSlots_0 : decode cX8_drawSlots 0 = .ok (.aload_n 0, 1) := by decide +kernel
theorem dX8_drawSlots_1 : decode cX8_drawSlots 1 = .ok (.getfield 20, 3) := by decide +kernel
theorem dX8_drawSlots_4 : decode cX8_drawSlots 4 = .ok (.lconst 0, 1) := by decide +kernel
theorem dX8_drawSlots_5 : decode cX8_drawSlots 5 = .ok (.invokestatic 324, 3) := by decide +kernel
theorem dX8_drawSlots_8 : decode cX8_drawSlots 8 = .ok (.aload_n 0, 1) := by decide +kernel
theorem dX8_drawSlots_9 : decode cX8_drawSlots 9 = .ok (.getfield 12, 3) := by decide +kernel
theorem dX8_drawSlots_12 : decode cX8_drawSlots 12 = .ok (.getfield 39, 3) := by decide +kernel
theorem dX8_drawSlots_15 : decode cX8_drawSlots 15 = .ok (.invokevirtual 330, 3) := by decide +kernel
theorem dX8_drawSlots_18 : decode cX8_drawSlots 18 = .ok (.aload_n 0, 1) := by decide +kernel
theorem dX8_drawSlots_19 : decode cX8_drawSlots 19 = .ok (.getfield 12, 3) := by decide +kernel
theorem dX8_drawSlots_22 : decode cX8_drawSlots 22 = .ok (.getfield 236, 3) := by decide +kernel
theorem dX8_drawSlots_25 : decode cX8_drawSlots 25 = .ok (.getfield 240, 3) := by decide +kernel
theorem dX8_drawSlots_28 : decode cX8_drawSlots 28 = .ok (.ldc2_w 123, 3) := by decide +kernel
theorem dX8_drawSlots_31 : decode cX8_drawSlots 31 = .ok (.lxor, 1) := by decide +kernel
theorem dX8_drawSlots_32 : decode cX8_drawSlots 32 = .ok (.land, 1) := by decide +kernel
theorem dX8_drawSlots_33 : decode cX8_drawSlots 33 = .ok (.lstore_n 2, 1) := by decide +kernel
theorem dX8_drawSlots_34 : decode cX8_drawSlots 34 = .ok (.iconst 0, 1) := by decide +kernel
theorem dX8_drawSlots_35 : decode cX8_drawSlots 35 = .ok (.istore 4, 2) := by decide +kernel
theorem dX8_drawSlots_37 : decode cX8_drawSlots 37 = .ok (.iload 4, 2) := by decide +kernel
theorem dX8_drawSlots_39 : decode cX8_drawSlots 39 = .ok (.aload_n 0, 1) := by decide +kernel
theorem dX8_drawSlots_40 : decode cX8_drawSlots 40 = .ok (.getfield 12, 3) := by decide +kernel
theorem dX8_drawSlots_43 : decode cX8_drawSlots 43 = .ok (.getfield 39, 3) := by decide +kernel
theorem dX8_drawSlots_46 : decode cX8_drawSlots 46 = .ok (.getfield 296, 3) := by decide +kernel
theorem dX8_drawSlots_49 : decode cX8_drawSlots 49 = .ok (.if_icmp .ge 60, 3) := by decide +kernel
theorem dX8_drawSlots_52 : decode cX8_drawSlots 52 = .ok (.lload_n 2, 1) := by decide +kernel
theorem dX8_drawSlots_53 : decode cX8_drawSlots 53 = .ok (.iload 4, 2) := by decide +kernel
theorem dX8_drawSlots_55 : decode cX8_drawSlots 55 = .ok (.invokestatic 66, 3) := by decide +kernel
theorem dX8_drawSlots_58 : decode cX8_drawSlots 58 = .ok (.ifCond .eq 45, 3) := by decide +kernel
theorem dX8_drawSlots_61 : decode cX8_drawSlots 61 = .ok (.aload_n 0, 1) := by decide +kernel
theorem dX8_drawSlots_62 : decode cX8_drawSlots 62 = .ok (.getfield 12, 3) := by decide +kernel
theorem dX8_drawSlots_65 : decode cX8_drawSlots 65 = .ok (.getfield 39, 3) := by decide +kernel
theorem dX8_drawSlots_68 : decode cX8_drawSlots 68 = .ok (.iload 4, 2) := by decide +kernel
theorem dX8_drawSlots_70 : decode cX8_drawSlots 70 = .ok (.iload_n 1, 1) := by decide +kernel
theorem dX8_drawSlots_71 : decode cX8_drawSlots 71 = .ok (.invokevirtual 316, 3) := by decide +kernel
theorem dX8_drawSlots_74 : decode cX8_drawSlots 74 = .ok (.istore 5, 2) := by decide +kernel
theorem dX8_drawSlots_76 : decode cX8_drawSlots 76 = .ok (.iload 5, 2) := by decide +kernel
theorem dX8_drawSlots_78 : decode cX8_drawSlots 78 = .ok (.ifCond .lt 25, 3) := by decide +kernel
theorem dX8_drawSlots_81 : decode cX8_drawSlots 81 = .ok (.iload 5, 2) := by decide +kernel
theorem dX8_drawSlots_83 : decode cX8_drawSlots 83 = .ok (.bipush 64, 2) := by decide +kernel
theorem dX8_drawSlots_85 : decode cX8_drawSlots 85 = .ok (.if_icmp .ge 18, 3) := by decide +kernel
theorem dX8_drawSlots_88 : decode cX8_drawSlots 88 = .ok (.aload_n 0, 1) := by decide +kernel
theorem dX8_drawSlots_89 : decode cX8_drawSlots 89 = .ok (.getfield 20, 3) := by decide +kernel
theorem dX8_drawSlots_92 : decode cX8_drawSlots 92 = .ok (.iload 5, 2) := by decide +kernel
theorem dX8_drawSlots_94 : decode cX8_drawSlots 94 = .ok (.dup2, 1) := by decide +kernel
theorem dX8_drawSlots_95 : decode cX8_drawSlots 95 = .ok (.laload, 1) := by decide +kernel
theorem dX8_drawSlots_96 : decode cX8_drawSlots 96 = .ok (.iload 4, 2) := by decide +kernel
theorem dX8_drawSlots_98 : decode cX8_drawSlots 98 = .ok (.invokestatic 333, 3) := by decide +kernel
theorem dX8_drawSlots_101 : decode cX8_drawSlots 101 = .ok (.lor, 1) := by decide +kernel
theorem dX8_drawSlots_102 : decode cX8_drawSlots 102 = .ok (.lastore, 1) := by decide +kernel
theorem dX8_drawSlots_103 : decode cX8_drawSlots 103 = .ok (.iinc 4 1, 3) := by decide +kernel
theorem dX8_drawSlots_106 : decode cX8_drawSlots 106 = .ok (.goto (-69), 3) := by decide +kernel
theorem dX8_drawSlots_109 : decode cX8_drawSlots 109 = .ok (.return_, 1) := by decide +kernel
theorem dX8_kindOfSlot_0 : decode cX8_kindOfSlot 0 = .ok (.lload_n 0, 1) := by decide +kernel
theorem dX8_kindOfSlot_1 : decode cX8_kindOfSlot 1 = .ok (.lconst 0, 1) := by decide +kernel
theorem dX8_kindOfSlot_2 : decode cX8_kindOfSlot 2 = .ok (.lcmp, 1) := by decide +kernel
theorem dX8_kindOfSlot_3 : decode cX8_kindOfSlot 3 = .ok (.ifCond .ne 5, 3) := by decide +kernel
theorem dX8_kindOfSlot_6 : decode cX8_kindOfSlot 6 = .ok (.iconst 0, 1) := by decide +kernel
theorem dX8_kindOfSlot_7 : decode cX8_kindOfSlot 7 = .ok (.ireturn, 1) := by decide +kernel
theorem dX8_kindOfSlot_8 : decode cX8_kindOfSlot 8 = .ok (.lload_n 0, 1) := by decide +kernel
theorem dX8_kindOfSlot_9 : decode cX8_kindOfSlot 9 = .ok (.lload_n 0, 1) := by decide +kernel
theorem dX8_kindOfSlot_10 : decode cX8_kindOfSlot 10 = .ok (.lconst 1, 1) := by decide +kernel
theorem dX8_kindOfSlot_11 : decode cX8_kindOfSlot 11 = .ok (.lsub, 1) := by decide +kernel
theorem dX8_kindOfSlot_12 : decode cX8_kindOfSlot 12 = .ok (.land, 1) := by decide +kernel
theorem dX8_kindOfSlot_13 : decode cX8_kindOfSlot 13 = .ok (.lconst 0, 1) := by decide +kernel
theorem dX8_kindOfSlot_14 : decode cX8_kindOfSlot 14 = .ok (.lcmp, 1) := by decide +kernel
theorem dX8_kindOfSlot_15 : decode cX8_kindOfSlot 15 = .ok (.ifCond .ne 7, 3) := by decide +kernel
theorem dX8_kindOfSlot_18 : decode cX8_kindOfSlot 18 = .ok (.iconst 1, 1) := by decide +kernel
theorem dX8_kindOfSlot_19 : decode cX8_kindOfSlot 19 = .ok (.goto 4, 3) := by decide +kernel
theorem dX8_kindOfSlot_22 : decode cX8_kindOfSlot 22 = .ok (.iconst 2, 1) := by decide +kernel
theorem dX8_kindOfSlot_23 : decode cX8_kindOfSlot 23 = .ok (.ireturn, 1) := by decide +kernel
theorem dX8_setOf_0 : decode cX8_setOf 0 = .ok (.lconst 1, 1) := by decide +kernel
theorem dX8_setOf_1 : decode cX8_setOf 1 = .ok (.iload_n 0, 1) := by decide +kernel
theorem dX8_setOf_2 : decode cX8_setOf 2 = .ok (.lshl, 1) := by decide +kernel
theorem dX8_setOf_3 : decode cX8_setOf 3 = .ok (.lreturn, 1) := by decide +kernel
theorem dX8_isIn_0 : decode cX8_isIn 0 = .ok (.lload_n 0, 1) := by decide +kernel
theorem dX8_isIn_1 : decode cX8_isIn 1 = .ok (.iload_n 2, 1) := by decide +kernel
theorem dX8_isIn_2 : decode cX8_isIn 2 = .ok (.invokestatic 333, 3) := by decide +kernel
theorem dX8_isIn_5 : decode cX8_isIn 5 = .ok (.land, 1) := by decide +kernel
theorem dX8_isIn_6 : decode cX8_isIn 6 = .ok (.lconst 0, 1) := by decide +kernel
theorem dX8_isIn_7 : decode cX8_isIn 7 = .ok (.lcmp, 1) := by decide +kernel
theorem dX8_isIn_8 : decode cX8_isIn 8 = .ok (.ifCond .eq 7, 3) := by decide +kernel
theorem dX8_isIn_11 : decode cX8_isIn 11 = .ok (.iconst 1, 1) := by decide +kernel
theorem dX8_isIn_12 : decode cX8_isIn 12 = .ok (.goto 4, 3) := by decide +kernel
theorem dX8_isIn_15 : decode cX8_isIn 15 = .ok (.iconst 0, 1) := by decide +kernel
theorem dX8_isIn_16 : decode cX8_isIn 16 = .ok (.ireturn, 1) := by decide +kernel
theorem dX8_firstOf_0 : decode cX8_firstOf 0 = .ok (.lload_n 0, 1) := by decide +kernel
theorem dX8_firstOf_1 : decode cX8_firstOf 1 = .ok (.lconst 0, 1) := by decide +kernel
theorem dX8_firstOf_2 : decode cX8_firstOf 2 = .ok (.lcmp, 1) := by decide +kernel
theorem dX8_firstOf_3 : decode cX8_firstOf 3 = .ok (.ifCond .ne 7, 3) := by decide +kernel
theorem dX8_firstOf_6 : decode cX8_firstOf 6 = .ok (.iconst (-1), 1) := by decide +kernel
theorem dX8_firstOf_7 : decode cX8_firstOf 7 = .ok (.goto 12, 3) := by decide +kernel
theorem dX8_firstOf_10 : decode cX8_firstOf 10 = .ok (.lload_n 0, 1) := by decide +kernel
theorem dX8_firstOf_11 : decode cX8_firstOf 11 = .ok (.lload_n 0, 1) := by decide +kernel
theorem dX8_firstOf_12 : decode cX8_firstOf 12 = .ok (.lneg, 1) := by decide +kernel
theorem dX8_firstOf_13 : decode cX8_firstOf 13 = .ok (.land, 1) := by decide +kernel
theorem dX8_firstOf_14 : decode cX8_firstOf 14 = .ok (.lconst 1, 1) := by decide +kernel
theorem dX8_firstOf_15 : decode cX8_firstOf 15 = .ok (.lsub, 1) := by decide +kernel
theorem dX8_firstOf_16 : decode cX8_firstOf 16 = .ok (.invokestatic 114, 3) := by decide +kernel
theorem dX8_firstOf_19 : decode cX8_firstOf 19 = .ok (.ireturn, 1) := by decide +kernel
theorem dX8_oneIf_0 : decode cX8_oneIf 0 = .ok (.iload_n 0, 1) := by decide +kernel
theorem dX8_oneIf_1 : decode cX8_oneIf 1 = .ok (.ifCond .eq 7, 3) := by decide +kernel
theorem dX8_oneIf_4 : decode cX8_oneIf 4 = .ok (.iconst 1, 1) := by decide +kernel
theorem dX8_oneIf_5 : decode cX8_oneIf 5 = .ok (.goto 4, 3) := by decide +kernel
theorem dX8_oneIf_8 : decode cX8_oneIf 8 = .ok (.iconst 0, 1) := by decide +kernel
theorem dX8_oneIf_9 : decode cX8_oneIf 9 = .ok (.ireturn, 1) := by decide +kernel
theorem dX8_isOneAt_0 : decode cX8_isOneAt 0 = .ok (.lload_n 0, 1) := by decide +kernel
theorem dX8_isOneAt_1 : decode cX8_isOneAt 1 = .ok (.bipush 63, 2) := by decide +kernel
theorem dX8_isOneAt_3 : decode cX8_isOneAt 3 = .ok (.iload_n 2, 1) := by decide +kernel
theorem dX8_isOneAt_4 : decode cX8_isOneAt 4 = .ok (.isub, 1) := by decide +kernel
theorem dX8_isOneAt_5 : decode cX8_isOneAt 5 = .ok (.lushr, 1) := by decide +kernel
theorem dX8_isOneAt_6 : decode cX8_isOneAt 6 = .ok (.lconst 1, 1) := by decide +kernel
theorem dX8_isOneAt_7 : decode cX8_isOneAt 7 = .ok (.land, 1) := by decide +kernel
theorem dX8_isOneAt_8 : decode cX8_isOneAt 8 = .ok (.lconst 1, 1) := by decide +kernel
theorem dX8_isOneAt_9 : decode cX8_isOneAt 9 = .ok (.lcmp, 1) := by decide +kernel
theorem dX8_isOneAt_10 : decode cX8_isOneAt 10 = .ok (.ifCond .ne 7, 3) := by decide +kernel
theorem dX8_isOneAt_13 : decode cX8_isOneAt 13 = .ok (.iconst 1, 1) := by decide +kernel
theorem dX8_isOneAt_14 : decode cX8_isOneAt 14 = .ok (.goto 4, 3) := by decide +kernel
theorem dX8_isOneAt_17 : decode cX8_isOneAt 17 = .ok (.iconst 0, 1) := by decide +kernel
theorem dX8_isOneAt_18 : decode cX8_isOneAt 18 = .ok (.ireturn, 1) := by decide +kernel
theorem dX8_sumOf_0 : decode cX8_sumOf 0 = .ok (.iconst 0, 1) := by decide +kernel
theorem dX8_sumOf_1 : decode cX8_sumOf 1 = .ok (.istore_n 2, 1) := by decide +kernel
theorem dX8_sumOf_2 : decode cX8_sumOf 2 = .ok (.iconst 0, 1) := by decide +kernel
theorem dX8_sumOf_3 : decode cX8_sumOf 3 = .ok (.istore_n 3, 1) := by decide +kernel
theorem dX8_sumOf_4 : decode cX8_sumOf 4 = .ok (.iload_n 3, 1) := by decide +kernel
theorem dX8_sumOf_5 : decode cX8_sumOf 5 = .ok (.bipush 56, 2) := by decide +kernel
theorem dX8_sumOf_7 : decode cX8_sumOf 7 = .ok (.if_icmp .ge 47, 3) := by decide +kernel
theorem dX8_sumOf_10 : decode cX8_sumOf 10 = .ok (.iload_n 2, 1) := by decide +kernel
theorem dX8_sumOf_11 : decode cX8_sumOf 11 = .ok (.sipush 128, 3) := by decide +kernel
theorem dX8_sumOf_14 : decode cX8_sumOf 14 = .ok (.iand, 1) := by decide +kernel
theorem dX8_sumOf_15 : decode cX8_sumOf 15 = .ok (.ifCond .eq 7, 3) := by decide +kernel
theorem dX8_sumOf_18 : decode cX8_sumOf 18 = .ok (.iconst 1, 1) := by decide +kernel
theorem dX8_sumOf_19 : decode cX8_sumOf 19 = .ok (.goto 4, 3) := by decide +kernel
theorem dX8_sumOf_22 : decode cX8_sumOf 22 = .ok (.iconst 0, 1) := by decide +kernel
theorem dX8_sumOf_23 : decode cX8_sumOf 23 = .ok (.istore 4, 2) := by decide +kernel
theorem dX8_sumOf_25 : decode cX8_sumOf 25 = .ok (.iload_n 2, 1) := by decide +kernel
theorem dX8_sumOf_26 : decode cX8_sumOf 26 = .ok (.iconst 1, 1) := by decide +kernel
theorem dX8_sumOf_27 : decode cX8_sumOf 27 = .ok (.ishl, 1) := by decide +kernel
theorem dX8_sumOf_28 : decode cX8_sumOf 28 = .ok (.sipush 255, 3) := by decide +kernel
theorem dX8_sumOf_31 : decode cX8_sumOf 31 = .ok (.iand, 1) := by decide +kernel
theorem dX8_sumOf_32 : decode cX8_sumOf 32 = .ok (.istore_n 2, 1) := by decide +kernel
theorem dX8_sumOf_33 : decode cX8_sumOf 33 = .ok (.iload 4, 2) := by decide +kernel
theorem dX8_sumOf_35 : decode cX8_sumOf 35 = .ok (.lload_n 0, 1) := by decide +kernel
theorem dX8_sumOf_36 : decode cX8_sumOf 36 = .ok (.iload_n 3, 1) := by decide +kernel
theorem dX8_sumOf_37 : decode cX8_sumOf 37 = .ok (.invokestatic 157, 3) := by decide +kernel
theorem dX8_sumOf_40 : decode cX8_sumOf 40 = .ok (.if_icmp .eq 8, 3) := by decide +kernel
theorem dX8_sumOf_43 : decode cX8_sumOf 43 = .ok (.iload_n 2, 1) := by decide +kernel
theorem dX8_sumOf_44 : decode cX8_sumOf 44 = .ok (.bipush 49, 2) := by decide +kernel
theorem dX8_sumOf_46 : decode cX8_sumOf 46 = .ok (.ixor, 1) := by decide +kernel
theorem dX8_sumOf_47 : decode cX8_sumOf 47 = .ok (.istore_n 2, 1) := by decide +kernel
theorem dX8_sumOf_48 : decode cX8_sumOf 48 = .ok (.iinc 3 1, 3) := by decide +kernel
theorem dX8_sumOf_51 : decode cX8_sumOf 51 = .ok (.goto (-47), 3) := by decide +kernel
theorem dX8_sumOf_54 : decode cX8_sumOf 54 = .ok (.iload_n 2, 1) := by decide +kernel
theorem dX8_sumOf_55 : decode cX8_sumOf 55 = .ok (.ireturn, 1) := by decide +kernel
theorem dX9_init_0 : decode cX9_init 0 = .ok (.aload_n 0, 1) := by decide +kernel
theorem dX9_init_1 : decode cX9_init 1 = .ok (.invokespecial 1, 3) := by decide +kernel
theorem dX9_init_4 : decode cX9_init 4 = .ok (.aload_n 0, 1) := by decide +kernel
theorem dX9_init_5 : decode cX9_init 5 = .ok (.sipush 2700, 3) := by decide +kernel
theorem dX9_init_8 : decode cX9_init 8 = .ok (.newarray .int, 2) := by decide +kernel
theorem dX9_init_10 : decode cX9_init 10 = .ok (.putfield 7, 3) := by decide +kernel
theorem dX9_init_13 : decode cX9_init 13 = .ok (.aload_n 0, 1) := by decide +kernel
theorem dX9_init_14 : decode cX9_init 14 = .ok (.sipush 620, 3) := by decide +kernel
theorem dX9_init_17 : decode cX9_init 17 = .ok (.newarray .long, 2) := by decide +kernel
theorem dX9_init_19 : decode cX9_init 19 = .ok (.putfield 13, 3) := by decide +kernel
theorem dX9_init_22 : decode cX9_init 22 = .ok (.aload_n 0, 1) := by decide +kernel
theorem dX9_init_23 : decode cX9_init 23 = .ok (.iconst 4, 1) := by decide +kernel
theorem dX9_init_24 : decode cX9_init 24 = .ok (.newarray .boolean, 2) := by decide +kernel
theorem dX9_init_26 : decode cX9_init 26 = .ok (.putfield 17, 3) := by decide +kernel
theorem dX9_init_29 : decode cX9_init 29 = .ok (.aload_n 0, 1) := by decide +kernel
theorem dX9_init_30 : decode cX9_init 30 = .ok (.bipush 40, 2) := by decide +kernel
theorem dX9_init_32 : decode cX9_init 32 = .ok (.newarray .boolean, 2) := by decide +kernel
theorem dX9_init_34 : decode cX9_init 34 = .ok (.putfield 21, 3) := by decide +kernel
theorem dX9_init_37 : decode cX9_init 37 = .ok (.aload_n 0, 1) := by decide +kernel
theorem dX9_init_38 : decode cX9_init 38 = .ok (.bipush 40, 2) := by decide +kernel
theorem dX9_init_40 : decode cX9_init 40 = .ok (.newarray .boolean, 2) := by decide +kernel
theorem dX9_init_42 : decode cX9_init 42 = .ok (.putfield 24, 3) := by decide +kernel
theorem dX9_init_45 : decode cX9_init 45 = .ok (.aload_n 0, 1) := by decide +kernel
theorem dX9_init_46 : decode cX9_init 46 = .ok (.bipush 80, 2) := by decide +kernel
theorem dX9_init_48 : decode cX9_init 48 = .ok (.newarray .long, 2) := by decide +kernel
theorem dX9_init_50 : decode cX9_init 50 = .ok (.putfield 27, 3) := by decide +kernel
theorem dX9_init_53 : decode cX9_init 53 = .ok (.aload_n 0, 1) := by decide +kernel
theorem dX9_init_54 : decode cX9_init 54 = .ok (.bipush 80, 2) := by decide +kernel
theorem dX9_init_56 : decode cX9_init 56 = .ok (.newarray .int, 2) := by decide +kernel
theorem dX9_init_58 : decode cX9_init 58 = .ok (.putfield 30, 3) := by decide +kernel
theorem dX9_init_61 : decode cX9_init 61 = .ok (.aload_n 0, 1) := by decide +kernel
theorem dX9_init_62 : decode cX9_init 62 = .ok (.bipush 40, 2) := by decide +kernel
theorem dX9_init_64 : decode cX9_init 64 = .ok (.newarray .int, 2) := by decide +kernel
theorem dX9_init_66 : decode cX9_init 66 = .ok (.putfield 33, 3) := by decide +kernel
theorem dX9_init_69 : decode cX9_init 69 = .ok (.aload_n 0, 1) := by decide +kernel
theorem dX9_init_70 : decode cX9_init 70 = .ok (.getfield 7, 3) := by decide +kernel
theorem dX9_init_73 : decode cX9_init 73 = .ok (.iconst 2, 1) := by decide +kernel
theorem dX9_init_74 : decode cX9_init 74 = .ok (.iconst (-1), 1) := by decide +kernel
theorem dX9_init_75 : decode cX9_init 75 = .ok (.iastore, 1) := by decide +kernel
theorem dX9_init_76 : decode cX9_init 76 = .ok (.aload_n 0, 1) := by decide +kernel
theorem dX9_init_77 : decode cX9_init 77 = .ok (.getfield 7, 3) := by decide +kernel
theorem dX9_init_80 : decode cX9_init 80 = .ok (.iconst 5, 1) := by decide +kernel
theorem dX9_init_81 : decode cX9_init 81 = .ok (.iconst (-1), 1) := by decide +kernel
theorem dX9_init_82 : decode cX9_init 82 = .ok (.iastore, 1) := by decide +kernel
theorem dX9_init_83 : decode cX9_init 83 = .ok (.aload_n 0, 1) := by decide +kernel
theorem dX9_init_84 : decode cX9_init 84 = .ok (.getfield 7, 3) := by decide +kernel
theorem dX9_init_87 : decode cX9_init 87 = .ok (.bipush 6, 2) := by decide +kernel
theorem dX9_init_89 : decode cX9_init 89 = .ok (.iconst (-1), 1) := by decide +kernel
theorem dX9_init_90 : decode cX9_init 90 = .ok (.iastore, 1) := by decide +kernel
theorem dX9_init_91 : decode cX9_init 91 = .ok (.return_, 1) := by decide +kernel
theorem dX9_isIn_0 : decode cX9_isIn 0 = .ok (.iload_n 0, 1) := by decide +kernel
theorem dX9_isIn_1 : decode cX9_isIn 1 = .ok (.ifCond .lt 12, 3) := by decide +kernel
theorem dX9_isIn_4 : decode cX9_isIn 4 = .ok (.iload_n 0, 1) := by decide +kernel
theorem dX9_isIn_5 : decode cX9_isIn 5 = .ok (.iload_n 1, 1) := by decide +kernel
theorem dX9_isIn_6 : decode cX9_isIn 6 = .ok (.if_icmp .ge 7, 3) := by decide +kernel
theorem dX9_isIn_9 : decode cX9_isIn 9 = .ok (.iconst 1, 1) := by decide +kernel
theorem dX9_isIn_10 : decode cX9_isIn 10 = .ok (.goto 4, 3) := by decide +kernel
theorem dX9_isIn_13 : decode cX9_isIn 13 = .ok (.iconst 0, 1) := by decide +kernel
theorem dX9_isIn_14 : decode cX9_isIn 14 = .ok (.ireturn, 1) := by decide +kernel
theorem dX9_isTag_0 : decode cX9_isTag 0 = .ok (.iload_n 1, 1) := by decide +kernel
theorem dX9_isTag_1 : decode cX9_isTag 1 = .ok (.aload_n 0, 1) := by decide +kernel
theorem dX9_isTag_2 : decode cX9_isTag 2 = .ok (.getfield 7, 3) := by decide +kernel
theorem dX9_isTag_5 : decode cX9_isTag 5 = .ok (.iconst 0, 1) := by decide +kernel
theorem dX9_isTag_6 : decode cX9_isTag 6 = .ok (.iaload, 1) := by decide +kernel
theorem dX9_isTag_7 : decode cX9_isTag 7 = .ok (.invokestatic 36, 3) := by decide +kernel
theorem dX9_isTag_10 : decode cX9_isTag 10 = .ok (.ireturn, 1) := by decide +kernel
theorem dX9_of_0 : decode cX9_of 0 = .ok (.aload_n 0, 1) := by decide +kernel
theorem dX9_of_1 : decode cX9_of 1 = .ok (.getfield 7, 3) := by decide +kernel
theorem dX9_of_4 : decode cX9_of 4 = .ok (.sipush 300, 3) := by decide +kernel
theorem dX9_of_7 : decode cX9_of 7 = .ok (.bipush 6, 2) := by decide +kernel
theorem dX9_of_9 : decode cX9_of 9 = .ok (.iload_n 1, 1) := by decide +kernel
theorem dX9_of_10 : decode cX9_of 10 = .ok (.imul, 1) := by decide +kernel
theorem dX9_of_11 : decode cX9_of 11 = .ok (.iadd, 1) := by decide +kernel
theorem dX9_of_12 : decode cX9_of 12 = .ok (.iload_n 2, 1) := by decide +kernel
theorem dX9_of_13 : decode cX9_of 13 = .ok (.iadd, 1) := by decide +kernel
theorem dX9_of_14 : decode cX9_of 14 = .ok (.iaload, 1) := by decide +kernel
theorem dX9_of_15 : decode cX9_of 15 = .ok (.ireturn, 1) := by decide +kernel
theorem dX9_sets_0 : decode cX9_sets 0 = .ok (.aload_n 0, 1) := by decide +kernel
theorem dX9_sets_1 : decode cX9_sets 1 = .ok (.getfield 7, 3) := by decide +kernel
theorem dX9_sets_4 : decode cX9_sets 4 = .ok (.sipush 300, 3) := by decide +kernel
theorem dX9_sets_7 : decode cX9_sets 7 = .ok (.bipush 6, 2) := by decide +kernel
theorem dX9_sets_9 : decode cX9_sets 9 = .ok (.iload_n 1, 1) := by decide +kernel
theorem dX9_sets_10 : decode cX9_sets 10 = .ok (.imul, 1) := by decide +kernel
theorem dX9_sets_11 : decode cX9_sets 11 = .ok (.iadd, 1) := by decide +kernel
theorem dX9_sets_12 : decode cX9_sets 12 = .ok (.iload_n 2, 1) := by decide +kernel
theorem dX9_sets_13 : decode cX9_sets 13 = .ok (.iadd, 1) := by decide +kernel
theorem dX9_sets_14 : decode cX9_sets 14 = .ok (.iload_n 3, 1) := by decide +kernel
theorem dX9_sets_15 : decode cX9_sets 15 = .ok (.iastore, 1) := by decide +kernel
theorem dX9_sets_16 : decode cX9_sets 16 = .ok (.return_, 1) := by decide +kernel
theorem dX9_bitOf_0 : decode cX9_bitOf 0 = .ok (.lload_n 0, 1) := by decide +kernel
theorem dX9_bitOf_1 : decode cX9_bitOf 1 = .ok (.bipush 63, 2) := by decide +kernel
theorem dX9_bitOf_3 : decode cX9_bitOf 3 = .ok (.iload_n 2, 1) := by decide +kernel
theorem dX9_bitOf_4 : decode cX9_bitOf 4 = .ok (.isub, 1) := by decide +kernel
theorem dX9_bitOf_5 : decode cX9_bitOf 5 = .ok (.lushr, 1) := by decide +kernel
theorem dX9_bitOf_6 : decode cX9_bitOf 6 = .ok (.l2i, 1) := by decide +kernel
theorem dX9_bitOf_7 : decode cX9_bitOf 7 = .ok (.iconst 1, 1) := by decide +kernel
theorem dX9_bitOf_8 : decode cX9_bitOf 8 = .ok (.iand, 1) := by decide +kernel
theorem dX9_bitOf_9 : decode cX9_bitOf 9 = .ok (.ireturn, 1) := by decide +kernel
theorem dX9_sumOf_0 : decode cX9_sumOf 0 = .ok (.iconst 0, 1) := by decide +kernel
theorem dX9_sumOf_1 : decode cX9_sumOf 1 = .ok (.istore_n 2, 1) := by decide +kernel
theorem dX9_sumOf_2 : decode cX9_sumOf 2 = .ok (.iconst 0, 1) := by decide +kernel
theorem dX9_sumOf_3 : decode cX9_sumOf 3 = .ok (.istore_n 3, 1) := by decide +kernel
theorem dX9_sumOf_4 : decode cX9_sumOf 4 = .ok (.iload_n 3, 1) := by decide +kernel
theorem dX9_sumOf_5 : decode cX9_sumOf 5 = .ok (.bipush 56, 2) := by decide +kernel
theorem dX9_sumOf_7 : decode cX9_sumOf 7 = .ok (.if_icmp .ge 46, 3) := by decide +kernel
theorem dX9_sumOf_10 : decode cX9_sumOf 10 = .ok (.iload_n 2, 1) := by decide +kernel
theorem dX9_sumOf_11 : decode cX9_sumOf 11 = .ok (.bipush 7, 2) := by decide +kernel
theorem dX9_sumOf_13 : decode cX9_sumOf 13 = .ok (.ishr, 1) := by decide +kernel
theorem dX9_sumOf_14 : decode cX9_sumOf 14 = .ok (.lload_n 0, 1) := by decide +kernel
theorem dX9_sumOf_15 : decode cX9_sumOf 15 = .ok (.iload_n 3, 1) := by decide +kernel
theorem dX9_sumOf_16 : decode cX9_sumOf 16 = .ok (.invokestatic 40, 3) := by decide +kernel
theorem dX9_sumOf_19 : decode cX9_sumOf 19 = .ok (.if_icmp .eq 7, 3) := by decide +kernel
theorem dX9_sumOf_22 : decode cX9_sumOf 22 = .ok (.iconst 1, 1) := by decide +kernel
theorem dX9_sumOf_23 : decode cX9_sumOf 23 = .ok (.goto 4, 3) := by decide +kernel
theorem dX9_sumOf_26 : decode cX9_sumOf 26 = .ok (.iconst 0, 1) := by decide +kernel
theorem dX9_sumOf_27 : decode cX9_sumOf 27 = .ok (.istore 4, 2) := by decide +kernel
theorem dX9_sumOf_29 : decode cX9_sumOf 29 = .ok (.iload_n 2, 1) := by decide +kernel
theorem dX9_sumOf_30 : decode cX9_sumOf 30 = .ok (.iconst 1, 1) := by decide +kernel
theorem dX9_sumOf_31 : decode cX9_sumOf 31 = .ok (.ishl, 1) := by decide +kernel
theorem dX9_sumOf_32 : decode cX9_sumOf 32 = .ok (.sipush 255, 3) := by decide +kernel
theorem dX9_sumOf_35 : decode cX9_sumOf 35 = .ok (.iand, 1) := by decide +kernel
theorem dX9_sumOf_36 : decode cX9_sumOf 36 = .ok (.istore_n 2, 1) := by decide +kernel
theorem dX9_sumOf_37 : decode cX9_sumOf 37 = .ok (.iload 4, 2) := by decide +kernel
theorem dX9_sumOf_39 : decode cX9_sumOf 39 = .ok (.ifCond .eq 8, 3) := by decide +kernel
theorem dX9_sumOf_42 : decode cX9_sumOf 42 = .ok (.iload_n 2, 1) := by decide +kernel
theorem dX9_sumOf_43 : decode cX9_sumOf 43 = .ok (.bipush 49, 2) := by decide +kernel
theorem dX9_sumOf_45 : decode cX9_sumOf 45 = .ok (.ixor, 1) := by decide +kernel
theorem dX9_sumOf_46 : decode cX9_sumOf 46 = .ok (.istore_n 2, 1) := by decide +kernel
theorem dX9_sumOf_47 : decode cX9_sumOf 47 = .ok (.iinc 3 1, 3) := by decide +kernel
theorem dX9_sumOf_50 : decode cX9_sumOf 50 = .ok (.goto (-46), 3) := by decide +kernel
theorem dX9_sumOf_53 : decode cX9_sumOf 53 = .ok (.iload_n 2, 1) := by decide +kernel
theorem dX9_sumOf_54 : decode cX9_sumOf 54 = .ok (.ireturn, 1) := by decide +kernel
theorem dX9_listens_0 : decode cX9_listens 0 = .ok (.aload_n 0, 1) := by decide +kernel
theorem dX9_listens_1 : decode cX9_listens 1 = .ok (.iload_n 1, 1) := by decide +kernel
theorem dX9_listens_2 : decode cX9_listens 2 = .ok (.iconst 1, 1) := by decide +kernel
theorem dX9_listens_3 : decode cX9_listens 3 = .ok (.invokevirtual 44, 3) := by decide +kernel
theorem dX9_listens_6 : decode cX9_listens 6 = .ok (.iconst 1, 1) := by decide +kernel
theorem dX9_listens_7 : decode cX9_listens 7 = .ok (.if_icmp .ne 45, 3) := by decide +kernel
theorem dX9_listens_10 : decode cX9_listens 10 = .ok (.aload_n 0, 1) := by decide +kernel
theorem dX9_listens_11 : decode cX9_listens 11 = .ok (.iload_n 1, 1) := by decide +kernel
theorem dX9_listens_12 : decode cX9_listens 12 = .ok (.iconst 2, 1) := by decide +kernel
theorem dX9_listens_13 : decode cX9_listens 13 = .ok (.invokevirtual 44, 3) := by decide +kernel
theorem dX9_listens_16 : decode cX9_listens 16 = .ok (.iconst 1, 1) := by decide +kernel
theorem dX9_listens_17 : decode cX9_listens 17 = .ok (.if_icmp .ne 35, 3) := by decide +kernel
theorem dX9_listens_20 : decode cX9_listens 20 = .ok (.aload_n 0, 1) := by decide +kernel
theorem dX9_listens_21 : decode cX9_listens 21 = .ok (.getfield 13, 3) := by decide +kernel
theorem dX9_listens_24 : decode cX9_listens 24 = .ok (.bipush 84, 2) := by decide +kernel
theorem dX9_listens_26 : decode cX9_listens 26 = .ok (.iload_n 1, 1) := by decide +kernel
theorem dX9_listens_27 : decode cX9_listens 27 = .ok (.iadd, 1) := by decide +kernel
theorem dX9_listens_28 : decode cX9_listens 28 = .ok (.laload, 1) := by decide +kernel
theorem dX9_listens_29 : decode cX9_listens 29 = .ok (.aload_n 0, 1) := by decide +kernel
theorem dX9_listens_30 : decode cX9_listens 30 = .ok (.getfield 13, 3) := by decide +kernel
theorem dX9_listens_33 : decode cX9_listens 33 = .ok (.iconst 1, 1) := by decide +kernel
theorem dX9_listens_34 : decode cX9_listens 34 = .ok (.laload, 1) := by decide +kernel
theorem dX9_listens_35 : decode cX9_listens 35 = .ok (.lxor, 1) := by decide +kernel
theorem dX9_listens_36 : decode cX9_listens 36 = .ok (.aload_n 0, 1) := by decide +kernel
theorem dX9_listens_37 : decode cX9_listens 37 = .ok (.getfield 13, 3) := by decide +kernel
theorem dX9_listens_40 : decode cX9_listens 40 = .ok (.iconst 0, 1) := by decide +kernel
theorem dX9_listens_41 : decode cX9_listens 41 = .ok (.laload, 1) := by decide +kernel
theorem dX9_listens_42 : decode cX9_listens 42 = .ok (.land, 1) := by decide +kernel
theorem dX9_listens_43 : decode cX9_listens 43 = .ok (.lconst 0, 1) := by decide +kernel
theorem dX9_listens_44 : decode cX9_listens 44 = .ok (.lcmp, 1) := by decide +kernel
theorem dX9_listens_45 : decode cX9_listens 45 = .ok (.ifCond .ne 7, 3) := by decide +kernel
theorem dX9_listens_48 : decode cX9_listens 48 = .ok (.iconst 1, 1) := by decide +kernel
theorem dX9_listens_49 : decode cX9_listens 49 = .ok (.goto 4, 3) := by decide +kernel
theorem dX9_listens_52 : decode cX9_listens 52 = .ok (.iconst 0, 1) := by decide +kernel
theorem dX9_listens_53 : decode cX9_listens 53 = .ok (.ireturn, 1) := by decide +kernel
theorem dX9_wire_0 : decode cX9_wire 0 = .ok (.iload_n 1, 1) := by decide +kernel
theorem dX9_wire_1 : decode cX9_wire 1 = .ok (.iconst 2, 1) := by decide +kernel
theorem dX9_wire_2 : decode cX9_wire 2 = .ok (.invokestatic 36, 3) := by decide +kernel
theorem dX9_wire_5 : decode cX9_wire 5 = .ok (.ifCond .ne 5, 3) := by decide +kernel
theorem dX9_wire_8 : decode cX9_wire 8 = .ok (.iconst 0, 1) := by decide +kernel
theorem dX9_wire_9 : decode cX9_wire 9 = .ok (.ireturn, 1) := by decide +kernel
theorem dX9_wire_10 : decode cX9_wire 10 = .ok (.aload_n 0, 1) := by decide +kernel
theorem dX9_wire_11 : decode cX9_wire 11 = .ok (.getfield 7, 3) := by decide +kernel
theorem dX9_wire_14 : decode cX9_wire 14 = .ok (.iconst 1, 1) := by decide +kernel
theorem dX9_wire_15 : decode cX9_wire 15 = .ok (.iload_n 1, 1) := by decide +kernel
theorem dX9_wire_16 : decode cX9_wire 16 = .ok (.iastore, 1) := by decide +kernel
theorem dX9_wire_17 : decode cX9_wire 17 = .ok (.iconst 1, 1) := by decide +kernel
theorem dX9_wire_18 : decode cX9_wire 18 = .ok (.ireturn, 1) := by decide +kernel
theorem dX9_tag_0 : decode cX9_tag 0 = .ok (.aload_n 0, 1) := by decide +kernel
theorem dX9_tag_1 : decode cX9_tag 1 = .ok (.getfield 7, 3) := by decide +kernel
theorem dX9_tag_4 : decode cX9_tag 4 = .ok (.iconst 0, 1) := by decide +kernel
theorem dX9_tag_5 : decode cX9_tag 5 = .ok (.iaload, 1) := by decide +kernel
theorem dX9_tag_6 : decode cX9_tag 6 = .ok (.bipush 40, 2) := by decide +kernel
theorem dX9_tag_8 : decode cX9_tag 8 = .ok (.if_icmp .eq 12, 3) := by decide +kernel
theorem dX9_tag_11 : decode cX9_tag 11 = .ok (.iload_n 1, 1) := by decide +kernel
theorem dX9_tag_12 : decode cX9_tag 12 = .ok (.bipush 6, 2) := by decide +kernel
theorem dX9_tag_14 : decode cX9_tag 14 = .ok (.invokestatic 36, 3) := by decide +kernel
theorem dX9_tag_17 : decode cX9_tag 17 = .ok (.ifCond .ne 5, 3) := by decide +kernel
theorem dX9_tag_20 : decode cX9_tag 20 = .ok (.iconst (-1), 1) := by decide +kernel
theorem dX9_tag_21 : decode cX9_tag 21 = .ok (.ireturn, 1) := by decide +kernel
theorem dX9_tag_22 : decode cX9_tag 22 = .ok (.lload_n 2, 1) := by decide +kernel
theorem dX9_tag_23 : decode cX9_tag 23 = .ok (.bipush 8, 2) := by decide +kernel
theorem dX9_tag_25 : decode cX9_tag 25 = .ok (.lshl, 1) := by decide +kernel
theorem dX9_tag_26 : decode cX9_tag 26 = .ok (.lstore 5, 2) := by decide +kernel
theorem dX9_tag_28 : decode cX9_tag 28 = .ok (.lload 5, 2) := by decide +kernel
theorem dX9_tag_30 : decode cX9_tag 30 = .ok (.lload 5, 2) := by decide +kernel
theorem dX9_tag_32 : decode cX9_tag 32 = .ok (.invokestatic 48, 3) := by decide +kernel
theorem dX9_tag_35 : decode cX9_tag 35 = .ok (.i2l, 1) := by decide +kernel
theorem dX9_tag_36 : decode cX9_tag 36 = .ok (.lor, 1) := by decide +kernel
theorem dX9_tag_37 : decode cX9_tag 37 = .ok (.lstore 5, 2) := by decide +kernel
theorem dX9_tag_39 : decode cX9_tag 39 = .ok (.iconst 0, 1) := by decide +kernel
theorem dX9_tag_40 : decode cX9_tag 40 = .ok (.istore 7, 2) := by decide +kernel
theorem dX9_tag_42 : decode cX9_tag 42 = .ok (.iload 7, 2) := by decide +kernel
theorem dX9_tag_44 : decode cX9_tag 44 = .ok (.aload_n 0, 1) := by decide +kernel
theorem dX9_tag_45 : decode cX9_tag 45 = .ok (.getfield 7, 3) := by decide +kernel
theorem dX9_tag_48 : decode cX9_tag 48 = .ok (.iconst 0, 1) := by decide +kernel
theorem dX9_tag_49 : decode cX9_tag 49 = .ok (.iaload, 1) := by decide +kernel
theorem dX9_tag_50 : decode cX9_tag 50 = .ok (.if_icmp .ge 27, 3) := by decide +kernel
theorem dX9_tag_53 : decode cX9_tag 53 = .ok (.aload_n 0, 1) := by decide +kernel
theorem dX9_tag_54 : decode cX9_tag 54 = .ok (.getfield 13, 3) := by decide +kernel
theorem dX9_tag_57 : decode cX9_tag 57 = .ok (.bipush 84, 2) := by decide +kernel
theorem dX9_tag_59 : decode cX9_tag 59 = .ok (.iload 7, 2) := by decide +kernel
theorem dX9_tag_61 : decode cX9_tag 61 = .ok (.iadd, 1) := by decide +kernel
theorem dX9_tag_62 : decode cX9_tag 62 = .ok (.laload, 1) := by decide +kernel
theorem dX9_tag_63 : decode cX9_tag 63 = .ok (.lload 5, 2) := by decide +kernel
theorem dX9_tag_65 : decode cX9_tag 65 = .ok (.lcmp, 1) := by decide +kernel
theorem dX9_tag_66 : decode cX9_tag 66 = .ok (.ifCond .ne 5, 3) := by decide +kernel
theorem dX9_tag_69 : decode cX9_tag 69 = .ok (.iconst (-1), 1) := by decide +kernel
theorem dX9_tag_70 : decode cX9_tag 70 = .ok (.ireturn, 1) := by decide +kernel
theorem dX9_tag_71 : decode cX9_tag 71 = .ok (.iinc 7 1, 3) := by decide +kernel
theorem dX9_tag_74 : decode cX9_tag 74 = .ok (.goto (-32), 3) := by decide +kernel
theorem dX9_tag_77 : decode cX9_tag 77 = .ok (.aload_n 0, 1) := by decide +kernel
theorem dX9_tag_78 : decode cX9_tag 78 = .ok (.getfield 7, 3) := by decide +kernel
theorem dX9_tag_81 : decode cX9_tag 81 = .ok (.iconst 0, 1) := by decide +kernel
theorem dX9_tag_82 : decode cX9_tag 82 = .ok (.iaload, 1) := by decide +kernel
theorem dX9_tag_83 : decode cX9_tag 83 = .ok (.istore 7, 2) := by decide +kernel
theorem dX9_tag_85 : decode cX9_tag 85 = .ok (.aload_n 0, 1) := by decide +kernel
theorem dX9_tag_86 : decode cX9_tag 86 = .ok (.getfield 7, 3) := by decide +kernel
theorem dX9_tag_89 : decode cX9_tag 89 = .ok (.iconst 0, 1) := by decide +kernel
theorem dX9_tag_90 : decode cX9_tag 90 = .ok (.dup2, 1) := by decide +kernel
theorem dX9_tag_91 : decode cX9_tag 91 = .ok (.iaload, 1) := by decide +kernel
theorem dX9_tag_92 : decode cX9_tag 92 = .ok (.iconst 1, 1) := by decide +kernel
theorem dX9_tag_93 : decode cX9_tag 93 = .ok (.iadd, 1) := by decide +kernel
theorem dX9_tag_94 : decode cX9_tag 94 = .ok (.iastore, 1) := by decide +kernel
theorem dX9_tag_95 : decode cX9_tag 95 = .ok (.aload_n 0, 1) := by decide +kernel
theorem dX9_tag_96 : decode cX9_tag 96 = .ok (.getfield 13, 3) := by decide +kernel
theorem dX9_tag_99 : decode cX9_tag 99 = .ok (.bipush 84, 2) := by decide +kernel
theorem dX9_tag_101 : decode cX9_tag 101 = .ok (.iload 7, 2) := by decide +kernel
theorem dX9_tag_103 : decode cX9_tag 103 = .ok (.iadd, 1) := by decide +kernel
theorem dX9_tag_104 : decode cX9_tag 104 = .ok (.lload 5, 2) := by decide +kernel
theorem dX9_tag_106 : decode cX9_tag 106 = .ok (.lastore, 1) := by decide +kernel
theorem dX9_tag_107 : decode cX9_tag 107 = .ok (.aload_n 0, 1) := by decide +kernel
theorem dX9_tag_108 : decode cX9_tag 108 = .ok (.iload 7, 2) := by decide +kernel
theorem dX9_tag_110 : decode cX9_tag 110 = .ok (.iconst 0, 1) := by decide +kernel
theorem dX9_tag_111 : decode cX9_tag 111 = .ok (.iload_n 1, 1) := by decide +kernel
theorem dX9_tag_112 : decode cX9_tag 112 = .ok (.invokevirtual 52, 3) := by decide +kernel
theorem dX9_tag_115 : decode cX9_tag 115 = .ok (.aload_n 0, 1) := by decide +kernel
theorem dX9_tag_116 : decode cX9_tag 116 = .ok (.iload 7, 2) := by decide +kernel
theorem dX9_tag_118 : decode cX9_tag 118 = .ok (.iconst 1, 1) := by decide +kernel
theorem dX9_tag_119 : decode cX9_tag 119 = .ok (.iconst 1, 1) := by decide +kernel
theorem dX9_tag_120 : decode cX9_tag 120 = .ok (.invokevirtual 52, 3) := by decide +kernel
theorem dX9_tag_123 : decode cX9_tag 123 = .ok (.aload_n 0, 1) := by decide +kernel
theorem dX9_tag_124 : decode cX9_tag 124 = .ok (.iload 7, 2) := by decide +kernel
theorem dX9_tag_126 : decode cX9_tag 126 = .ok (.iconst 2, 1) := by decide +kernel
theorem dX9_tag_127 : decode cX9_tag 127 = .ok (.iload_n 1, 1) := by decide +kernel
theorem dX9_tag_128 : decode cX9_tag 128 = .ok (.iconst 4, 1) := by decide +kernel
theorem dX9_tag_129 : decode cX9_tag 129 = .ok (.if_icmp .ne 7, 3) := by decide +kernel
theorem dX9_tag_132 : decode cX9_tag 132 = .ok (.iconst 0, 1) := by decide +kernel
theorem dX9_tag_133 : decode cX9_tag 133 = .ok (.goto 4, 3) := by decide +kernel
theorem dX9_tag_136 : decode cX9_tag 136 = .ok (.iconst 1, 1) := by decide +kernel
theorem dX9_tag_137 : decode cX9_tag 137 = .ok (.invokevirtual 52, 3) := by decide +kernel
theorem dX9_tag_140 : decode cX9_tag 140 = .ok (.aload_n 0, 1) := by decide +kernel
theorem dX9_tag_141 : decode cX9_tag 141 = .ok (.iload 7, 2) := by decide +kernel
theorem dX9_tag_143 : decode cX9_tag 143 = .ok (.iconst 3, 1) := by decide +kernel
theorem dX9_tag_144 : decode cX9_tag 144 = .ok (.iconst (-1), 1) := by decide +kernel
theorem dX9_tag_145 : decode cX9_tag 145 = .ok (.invokevirtual 52, 3) := by decide +kernel
theorem dX9_tag_148 : decode cX9_tag 148 = .ok (.aload_n 0, 1) := by decide +kernel
theorem dX9_tag_149 : decode cX9_tag 149 = .ok (.iload 7, 2) := by decide +kernel
theorem dX9_tag_151 : decode cX9_tag 151 = .ok (.iconst 4, 1) := by decide +kernel
theorem dX9_tag_152 : decode cX9_tag 152 = .ok (.iload 4, 2) := by decide +kernel
theorem dX9_tag_154 : decode cX9_tag 154 = .ok (.invokevirtual 52, 3) := by decide +kernel
theorem dX9_tag_157 : decode cX9_tag 157 = .ok (.aload_n 0, 1) := by decide +kernel
theorem dX9_tag_158 : decode cX9_tag 158 = .ok (.iload 7, 2) := by decide +kernel
theorem dX9_tag_160 : decode cX9_tag 160 = .ok (.iconst 5, 1) := by decide +kernel
theorem dX9_tag_161 : decode cX9_tag 161 = .ok (.iconst 0, 1) := by decide +kernel
theorem dX9_tag_162 : decode cX9_tag 162 = .ok (.invokevirtual 52, 3) := by decide +kernel
theorem dX9_tag_165 : decode cX9_tag 165 = .ok (.iload 7, 2) := by decide +kernel
theorem dX9_tag_167 : decode cX9_tag 167 = .ok (.ireturn, 1) := by decide +kernel
theorem dX9_name_0 : decode cX9_name 0 = .ok (.aload_n 0, 1) := by decide +kernel
theorem dX9_name_1 : decode cX9_name 1 = .ok (.iload_n 1, 1) := by decide +kernel
theorem dX9_name_2 : decode cX9_name 2 = .ok (.invokevirtual 56, 3) := by decide +kernel
theorem dX9_name_5 : decode cX9_name 5 = .ok (.ifCond .eq 15, 3) := by decide +kernel
theorem dX9_name_8 : decode cX9_name 8 = .ok (.aload_n 0, 1) := by decide +kernel
theorem dX9_name_9 : decode cX9_name 9 = .ok (.getfield 13, 3) := by decide +kernel
theorem dX9_name_12 : decode cX9_name 12 = .ok (.bipush 84, 2) := by decide +kernel
theorem dX9_name_14 : decode cX9_name 14 = .ok (.iload_n 1, 1) := by decide +kernel
theorem dX9_name_15 : decode cX9_name 15 = .ok (.iadd, 1) := by decide +kernel
theorem dX9_name_16 : decode cX9_name 16 = .ok (.laload, 1) := by decide +kernel
theorem dX9_name_17 : decode cX9_name 17 = .ok (.goto 4, 3) := by decide +kernel
theorem dX9_name_20 : decode cX9_name 20 = .ok (.lconst 0, 1) := by decide +kernel
theorem dX9_name_21 : decode cX9_name 21 = .ok (.lreturn, 1) := by decide +kernel
theorem dX9_isName_0 : decode cX9_isName 0 = .ok (.lload_n 1, 1) := by decide +kernel
theorem dX9_isName_1 : decode cX9_isName 1 = .ok (.ldc2_w 60, 3) := by decide +kernel
theorem dX9_isName_4 : decode cX9_isName 4 = .ok (.land, 1) := by decide +kernel
theorem dX9_isName_5 : decode cX9_isName 5 = .ok (.lload_n 1, 1) := by decide +kernel
theorem dX9_isName_6 : decode cX9_isName 6 = .ok (.invokestatic 48, 3) := by decide +kernel
theorem dX9_isName_9 : decode cX9_isName 9 = .ok (.i2l, 1) := by decide +kernel
theorem dX9_isName_10 : decode cX9_isName 10 = .ok (.lcmp, 1) := by decide +kernel
theorem dX9_isName_11 : decode cX9_isName 11 = .ok (.ifCond .ne 7, 3) := by decide +kernel
theorem dX9_isName_14 : decode cX9_isName 14 = .ok (.iconst 1, 1) := by decide +kernel
theorem dX9_isName_15 : decode cX9_isName 15 = .ok (.goto 4, 3) := by decide +kernel
theorem dX9_isName_18 : decode cX9_isName 18 = .ok (.iconst 0, 1) := by decide +kernel
theorem dX9_isName_19 : decode cX9_isName 19 = .ok (.ireturn, 1) := by decide +kernel
theorem dX9_tell_0 : decode cX9_tell 0 = .ok (.aload_n 0, 1) := by decide +kernel
theorem dX9_tell_1 : decode cX9_tell 1 = .ok (.iload_n 1, 1) := by decide +kernel
theorem dX9_tell_2 : decode cX9_tell 2 = .ok (.invokevirtual 56, 3) := by decide +kernel
theorem dX9_tell_5 : decode cX9_tell 5 = .ok (.ifCond .ne 5, 3) := by decide +kernel
theorem dX9_tell_8 : decode cX9_tell 8 = .ok (.iconst (-1), 1) := by decide +kernel
theorem dX9_tell_9 : decode cX9_tell 9 = .ok (.ireturn, 1) := by decide +kernel
theorem dX9_tell_10 : decode cX9_tell 10 = .ok (.iconst 0, 1) := by decide +kernel
theorem dX9_tell_11 : decode cX9_tell 11 = .ok (.istore_n 3, 1) := by decide +kernel
theorem dX9_tell_12 : decode cX9_tell 12 = .ok (.iload_n 2, 1) := by decide +kernel
theorem dX9_tell_13 : decode cX9_tell 13 = .ok (.tableswitch 123 0 6 #[43, 43, 43, 50, 64, 71, 78], 43) := by decide +kernel
theorem dX9_tell_56 : decode cX9_tell 56 = .ok (.aload_n 0, 1) := by decide +kernel
theorem dX9_tell_57 : decode cX9_tell 57 = .ok (.iload_n 1, 1) := by decide +kernel
theorem dX9_tell_58 : decode cX9_tell 58 = .ok (.iload_n 2, 1) := by decide +kernel
theorem dX9_tell_59 : decode cX9_tell 59 = .ok (.invokevirtual 44, 3) := by decide +kernel
theorem dX9_tell_62 : decode cX9_tell 62 = .ok (.ireturn, 1) := by decide +kernel
theorem dX9_tell_63 : decode cX9_tell 63 = .ok (.aload_n 0, 1) := by decide +kernel
theorem dX9_tell_64 : decode cX9_tell 64 = .ok (.iload_n 1, 1) := by decide +kernel
theorem dX9_tell_65 : decode cX9_tell 65 = .ok (.invokevirtual 62, 3) := by decide +kernel
theorem dX9_tell_68 : decode cX9_tell 68 = .ok (.ifCond .eq 7, 3) := by decide +kernel
theorem dX9_tell_71 : decode cX9_tell 71 = .ok (.iconst 1, 1) := by decide +kernel
theorem dX9_tell_72 : decode cX9_tell 72 = .ok (.goto 4, 3) := by decide +kernel
theorem dX9_tell_75 : decode cX9_tell 75 = .ok (.iconst 0, 1) := by decide +kernel
theorem dX9_tell_76 : decode cX9_tell 76 = .ok (.ireturn, 1) := by decide +kernel
theorem dX9_tell_77 : decode cX9_tell 77 = .ok (.aload_n 0, 1) := by decide +kernel
theorem dX9_tell_78 : decode cX9_tell 78 = .ok (.iload_n 1, 1) := by decide +kernel
theorem dX9_tell_79 : decode cX9_tell 79 = .ok (.iconst 3, 1) := by decide +kernel
theorem dX9_tell_80 : decode cX9_tell 80 = .ok (.invokevirtual 44, 3) := by decide +kernel
theorem dX9_tell_83 : decode cX9_tell 83 = .ok (.ireturn, 1) := by decide +kernel
theorem dX9_tell_84 : decode cX9_tell 84 = .ok (.aload_n 0, 1) := by decide +kernel
theorem dX9_tell_85 : decode cX9_tell 85 = .ok (.iload_n 1, 1) := by decide +kernel
theorem dX9_tell_86 : decode cX9_tell 86 = .ok (.iconst 4, 1) := by decide +kernel
theorem dX9_tell_87 : decode cX9_tell 87 = .ok (.invokevirtual 44, 3) := by decide +kernel
theorem dX9_tell_90 : decode cX9_tell 90 = .ok (.ireturn, 1) := by decide +kernel
theorem dX9_tell_91 : decode cX9_tell 91 = .ok (.iconst 0, 1) := by decide +kernel
theorem dX9_tell_92 : decode cX9_tell 92 = .ok (.istore 4, 2) := by decide +kernel
theorem dX9_tell_94 : decode cX9_tell 94 = .ok (.iload 4, 2) := by decide +kernel
theorem dX9_tell_96 : decode cX9_tell 96 = .ok (.aload_n 0, 1) := by decide +kernel
theorem dX9_tell_97 : decode cX9_tell 97 = .ok (.getfield 7, 3) := by decide +kernel
theorem dX9_tell_100 : decode cX9_tell 100 = .ok (.bipush 15, 2) := by decide +kernel
theorem dX9_tell_102 : decode cX9_tell 102 = .ok (.iaload, 1) := by decide +kernel
theorem dX9_tell_103 : decode cX9_tell 103 = .ok (.if_icmp .ge 31, 3) := by decide +kernel
theorem dX9_tell_106 : decode cX9_tell 106 = .ok (.iload_n 3, 1) := by decide +kernel
theorem dX9_tell_107 : decode cX9_tell 107 = .ok (.aload_n 0, 1) := by decide +kernel
theorem dX9_tell_108 : decode cX9_tell 108 = .ok (.getfield 7, 3) := by decide +kernel
theorem dX9_tell_111 : decode cX9_tell 111 = .ok (.bipush 100, 2) := by decide +kernel
theorem dX9_tell_113 : decode cX9_tell 113 = .ok (.iload 4, 2) := by decide +kernel
theorem dX9_tell_115 : decode cX9_tell 115 = .ok (.iadd, 1) := by decide +kernel
theorem dX9_tell_116 : decode cX9_tell 116 = .ok (.iaload, 1) := by decide +kernel
theorem dX9_tell_117 : decode cX9_tell 117 = .ok (.iload_n 1, 1) := by decide +kernel
theorem dX9_tell_118 : decode cX9_tell 118 = .ok (.if_icmp .ne 7, 3) := by decide +kernel
theorem dX9_tell_121 : decode cX9_tell 121 = .ok (.iconst 1, 1) := by decide +kernel
theorem dX9_tell_122 : decode cX9_tell 122 = .ok (.goto 4, 3) := by decide +kernel
theorem dX9_tell_125 : decode cX9_tell 125 = .ok (.iconst 0, 1) := by decide +kernel
theorem dX9_tell_126 : decode cX9_tell 126 = .ok (.iadd, 1) := by decide +kernel
theorem dX9_tell_127 : decode cX9_tell 127 = .ok (.istore_n 3, 1) := by decide +kernel
theorem dX9_tell_128 : decode cX9_tell 128 = .ok (.iinc 4 1, 3) := by decide +kernel
theorem dX9_tell_131 : decode cX9_tell 131 = .ok (.goto (-37), 3) := by decide +kernel
theorem dX9_tell_134 : decode cX9_tell 134 = .ok (.iload_n 3, 1) := by decide +kernel
theorem dX9_tell_135 : decode cX9_tell 135 = .ok (.ireturn, 1) := by decide +kernel
theorem dX9_tell_136 : decode cX9_tell 136 = .ok (.iconst (-1), 1) := by decide +kernel
theorem dX9_tell_137 : decode cX9_tell 137 = .ok (.ireturn, 1) := by decide +kernel
theorem dX9_act_0 : decode cX9_act 0 = .ok (.aload_n 0, 1) := by decide +kernel
theorem dX9_act_1 : decode cX9_act 1 = .ok (.iload_n 1, 1) := by decide +kernel
theorem dX9_act_2 : decode cX9_act 2 = .ok (.invokevirtual 56, 3) := by decide +kernel
theorem dX9_act_5 : decode cX9_act 5 = .ok (.ifCond .eq 26, 3) := by decide +kernel
theorem dX9_act_8 : decode cX9_act 8 = .ok (.iload_n 2, 1) := by decide +kernel
theorem dX9_act_9 : decode cX9_act 9 = .ok (.iconst 4, 1) := by decide +kernel
theorem dX9_act_10 : decode cX9_act 10 = .ok (.invokestatic 36, 3) := by decide +kernel
theorem dX9_act_13 : decode cX9_act 13 = .ok (.ifCond .eq 18, 3) := by decide +kernel
theorem dX9_act_16 : decode cX9_act 16 = .ok (.iload_n 2, 1) := by decide +kernel
theorem dX9_act_17 : decode cX9_act 17 = .ok (.iconst 3, 1) := by decide +kernel
theorem dX9_act_18 : decode cX9_act 18 = .ok (.if_icmp .ne 15, 3) := by decide +kernel
theorem dX9_act_21 : decode cX9_act 21 = .ok (.aload_n 0, 1) := by decide +kernel
theorem dX9_act_22 : decode cX9_act 22 = .ok (.iload_n 1, 1) := by decide +kernel
theorem dX9_act_23 : decode cX9_act 23 = .ok (.iconst 0, 1) := by decide +kernel
theorem dX9_act_24 : decode cX9_act 24 = .ok (.invokevirtual 44, 3) := by decide +kernel
theorem dX9_act_27 : decode cX9_act 27 = .ok (.iconst 4, 1) := by decide +kernel
theorem dX9_act_28 : decode cX9_act 28 = .ok (.if_icmp .eq 5, 3) := by decide +kernel
theorem dX9_act_31 : decode cX9_act 31 = .ok (.iconst 0, 1) := by decide +kernel
theorem dX9_act_32 : decode cX9_act 32 = .ok (.ireturn, 1) := by decide +kernel
theorem dX9_act_33 : decode cX9_act 33 = .ok (.iload_n 2, 1) := by decide +kernel
theorem dX9_act_34 : decode cX9_act 34 = .ok (.iconst 2, 1) := by decide +kernel
theorem dX9_act_35 : decode cX9_act 35 = .ok (.if_icmp .ge 7, 3) := by decide +kernel
theorem dX9_act_38 : decode cX9_act 38 = .ok (.iconst 1, 1) := by decide +kernel
theorem dX9_act_39 : decode cX9_act 39 = .ok (.goto 4, 3) := by decide +kernel
theorem dX9_act_42 : decode cX9_act 42 = .ok (.iconst 2, 1) := by decide +kernel
theorem dX9_act_43 : decode cX9_act 43 = .ok (.istore_n 3, 1) := by decide +kernel
theorem dX9_act_44 : decode cX9_act 44 = .ok (.iload_n 2, 1) := by decide +kernel
theorem dX9_act_45 : decode cX9_act 45 = .ok (.iconst 1, 1) := by decide +kernel
theorem dX9_act_46 : decode cX9_act 46 = .ok (.if_icmp .eq 8, 3) := by decide +kernel
theorem dX9_act_49 : decode cX9_act 49 = .ok (.iload_n 2, 1) := by decide +kernel
theorem dX9_act_50 : decode cX9_act 50 = .ok (.iconst 2, 1) := by decide +kernel
theorem dX9_act_51 : decode cX9_act 51 = .ok (.if_icmp .ne 7, 3) := by decide +kernel
theorem dX9_act_54 : decode cX9_act 54 = .ok (.iconst 1, 1) := by decide +kernel
theorem dX9_act_55 : decode cX9_act 55 = .ok (.goto 4, 3) := by decide +kernel
theorem dX9_act_58 : decode cX9_act 58 = .ok (.iconst 0, 1) := by decide +kernel
theorem dX9_act_59 : decode cX9_act 59 = .ok (.istore 4, 2) := by decide +kernel
theorem dX9_act_61 : decode cX9_act 61 = .ok (.aload_n 0, 1) := by decide +kernel
theorem dX9_act_62 : decode cX9_act 62 = .ok (.iload_n 1, 1) := by decide +kernel
theorem dX9_act_63 : decode cX9_act 63 = .ok (.iload_n 3, 1) := by decide +kernel
theorem dX9_act_64 : decode cX9_act 64 = .ok (.invokevirtual 44, 3) := by decide +kernel
theorem dX9_act_67 : decode cX9_act 67 = .ok (.iload 4, 2) := by decide +kernel
theorem dX9_act_69 : decode cX9_act 69 = .ok (.if_icmp .ne 5, 3) := by decide +kernel
theorem dX9_act_72 : decode cX9_act 72 = .ok (.iconst 0, 1) := by decide +kernel
theorem dX9_act_73 : decode cX9_act 73 = .ok (.ireturn, 1) := by decide +kernel
theorem dX9_act_74 : decode cX9_act 74 = .ok (.aload_n 0, 1) := by decide +kernel
theorem dX9_act_75 : decode cX9_act 75 = .ok (.iload_n 1, 1) := by decide +kernel
theorem dX9_act_76 : decode cX9_act 76 = .ok (.iload_n 3, 1) := by decide +kernel
theorem dX9_act_77 : decode cX9_act 77 = .ok (.iload 4, 2) := by decide +kernel
theorem dX9_act_79 : decode cX9_act 79 = .ok (.invokevirtual 52, 3) := by decide +kernel
theorem dX9_act_82 : decode cX9_act 82 = .ok (.iconst 1, 1) := by decide +kernel
theorem dX9_act_83 : decode cX9_act 83 = .ok (.ireturn, 1) := by decide +kernel
theorem dX9_listening_0 : decode cX9_listening 0 = .ok (.iconst 0, 1) := by decide +kernel
theorem dX9_listening_1 : decode cX9_listening 1 = .ok (.istore_n 1, 1) := by decide +kernel
theorem dX9_listening_2 : decode cX9_listening 2 = .ok (.iconst 0, 1) := by decide +kernel
theorem dX9_listening_3 : decode cX9_listening 3 = .ok (.istore_n 2, 1) := by decide +kernel
theorem dX9_listening_4 : decode cX9_listening 4 = .ok (.iload_n 2, 1) := by decide +kernel
theorem dX9_listening_5 : decode cX9_listening 5 = .ok (.aload_n 0, 1) := by decide +kernel
theorem dX9_listening_6 : decode cX9_listening 6 = .ok (.getfield 7, 3) := by decide +kernel
theorem dX9_listening_9 : decode cX9_listening 9 = .ok (.iconst 0, 1) := by decide +kernel
theorem dX9_listening_10 : decode cX9_listening 10 = .ok (.iaload, 1) := by decide +kernel
theorem dX9_listening_11 : decode cX9_listening 11 = .ok (.if_icmp .ge 25, 3) := by decide +kernel
theorem dX9_listening_14 : decode cX9_listening 14 = .ok (.iload_n 1, 1) := by decide +kernel
theorem dX9_listening_15 : decode cX9_listening 15 = .ok (.aload_n 0, 1) := by decide +kernel
theorem dX9_listening_16 : decode cX9_listening 16 = .ok (.iload_n 2, 1) := by decide +kernel
theorem dX9_listening_17 : decode cX9_listening 17 = .ok (.invokevirtual 62, 3) := by decide +kernel
theorem dX9_listening_20 : decode cX9_listening 20 = .ok (.ifCond .eq 7, 3) := by decide +kernel
theorem dX9_listening_23 : decode cX9_listening 23 = .ok (.iconst 1, 1) := by decide +kernel
theorem dX9_listening_24 : decode cX9_listening 24 = .ok (.goto 4, 3) := by decide +kernel
theorem dX9_listening_27 : decode cX9_listening 27 = .ok (.iconst 0, 1) := by decide +kernel
theorem dX9_listening_28 : decode cX9_listening 28 = .ok (.iadd, 1) := by decide +kernel
theorem dX9_listening_29 : decode cX9_listening 29 = .ok (.istore_n 1, 1) := by decide +kernel
theorem dX9_listening_30 : decode cX9_listening 30 = .ok (.iinc 2 1, 3) := by decide +kernel
theorem dX9_listening_33 : decode cX9_listening 33 = .ok (.goto (-29), 3) := by decide +kernel
theorem dX9_listening_36 : decode cX9_listening 36 = .ok (.iload_n 1, 1) := by decide +kernel
theorem dX9_listening_37 : decode cX9_listening 37 = .ok (.ireturn, 1) := by decide +kernel
theorem dX9_group_0 : decode cX9_group 0 = .ok (.aload_n 0, 1) := by decide +kernel
theorem dX9_group_1 : decode cX9_group 1 = .ok (.getfield 13, 3) := by decide +kernel
theorem dX9_group_4 : decode cX9_group 4 = .ok (.iconst 0, 1) := by decide +kernel
theorem dX9_group_5 : decode cX9_group 5 = .ok (.lload_n 1, 1) := by decide +kernel
theorem dX9_group_6 : decode cX9_group 6 = .ok (.lastore, 1) := by decide +kernel
theorem dX9_group_7 : decode cX9_group 7 = .ok (.aload_n 0, 1) := by decide +kernel
theorem dX9_group_8 : decode cX9_group 8 = .ok (.getfield 13, 3) := by decide +kernel
theorem dX9_group_11 : decode cX9_group 11 = .ok (.iconst 1, 1) := by decide +kernel
theorem dX9_group_12 : decode cX9_group 12 = .ok (.lload_n 3, 1) := by decide +kernel
theorem dX9_group_13 : decode cX9_group 13 = .ok (.lastore, 1) := by decide +kernel
theorem dX9_group_14 : decode cX9_group 14 = .ok (.aload_n 0, 1) := by decide +kernel
theorem dX9_group_15 : decode cX9_group 15 = .ok (.invokevirtual 65, 3) := by decide +kernel
theorem dX9_group_18 : decode cX9_group 18 = .ok (.ireturn, 1) := by decide +kernel
theorem dX9_finds_0 : decode cX9_finds 0 = .ok (.aload_n 0, 1) := by decide +kernel
theorem dX9_finds_1 : decode cX9_finds 1 = .ok (.getfield 7, 3) := by decide +kernel
theorem dX9_finds_4 : decode cX9_finds 4 = .ok (.bipush 15, 2) := by decide +kernel
theorem dX9_finds_6 : decode cX9_finds 6 = .ok (.iaload, 1) := by decide +kernel
theorem dX9_finds_7 : decode cX9_finds 7 = .ok (.sipush 200, 3) := by decide +kernel
theorem dX9_finds_10 : decode cX9_finds 10 = .ok (.if_icmp .ne 4, 3) := by decide +kernel
theorem dX9_finds_13 : decode cX9_finds 13 = .ok (.return_, 1) := by decide +kernel
theorem dX9_finds_14 : decode cX9_finds 14 = .ok (.aload_n 0, 1) := by decide +kernel
theorem dX9_finds_15 : decode cX9_finds 15 = .ok (.getfield 7, 3) := by decide +kernel
theorem dX9_finds_18 : decode cX9_finds 18 = .ok (.bipush 100, 2) := by decide +kernel
theorem dX9_finds_20 : decode cX9_finds 20 = .ok (.aload_n 0, 1) := by decide +kernel
theorem dX9_finds_21 : decode cX9_finds 21 = .ok (.getfield 7, 3) := by decide +kernel
theorem dX9_finds_24 : decode cX9_finds 24 = .ok (.bipush 15, 2) := by decide +kernel
theorem dX9_finds_26 : decode cX9_finds 26 = .ok (.iaload, 1) := by decide +kernel
theorem dX9_finds_27 : decode cX9_finds 27 = .ok (.iadd, 1) := by decide +kernel
theorem dX9_finds_28 : decode cX9_finds 28 = .ok (.iload_n 1, 1) := by decide +kernel
theorem dX9_finds_29 : decode cX9_finds 29 = .ok (.iastore, 1) := by decide +kernel
theorem dX9_finds_30 : decode cX9_finds 30 = .ok (.aload_n 0, 1) := by decide +kernel
theorem dX9_finds_31 : decode cX9_finds 31 = .ok (.getfield 7, 3) := by decide +kernel
theorem dX9_finds_34 : decode cX9_finds 34 = .ok (.bipush 15, 2) := by decide +kernel
theorem dX9_finds_36 : decode cX9_finds 36 = .ok (.dup2, 1) := by decide +kernel
theorem dX9_finds_37 : decode cX9_finds 37 = .ok (.iaload, 1) := by decide +kernel
theorem dX9_finds_38 : decode cX9_finds 38 = .ok (.iconst 1, 1) := by decide +kernel
theorem dX9_finds_39 : decode cX9_finds 39 = .ok (.iadd, 1) := by decide +kernel
theorem dX9_finds_40 : decode cX9_finds 40 = .ok (.iastore, 1) := by decide +kernel
theorem dX9_finds_41 : decode cX9_finds 41 = .ok (.return_, 1) := by decide +kernel
theorem dX9_allIn_0 : decode cX9_allIn 0 = .ok (.iconst 0, 1) := by decide +kernel
theorem dX9_allIn_1 : decode cX9_allIn 1 = .ok (.istore_n 1, 1) := by decide +kernel
theorem dX9_allIn_2 : decode cX9_allIn 2 = .ok (.iload_n 1, 1) := by decide +kernel
theorem dX9_allIn_3 : decode cX9_allIn 3 = .ok (.aload_n 0, 1) := by decide +kernel
theorem dX9_allIn_4 : decode cX9_allIn 4 = .ok (.getfield 7, 3) := by decide +kernel
theorem dX9_allIn_7 : decode cX9_allIn 7 = .ok (.iconst 0, 1) := by decide +kernel
theorem dX9_allIn_8 : decode cX9_allIn 8 = .ok (.iaload, 1) := by decide +kernel
theorem dX9_allIn_9 : decode cX9_allIn 9 = .ok (.if_icmp .ge 20, 3) := by decide +kernel
theorem dX9_allIn_12 : decode cX9_allIn 12 = .ok (.aload_n 0, 1) := by decide +kernel
theorem dX9_allIn_13 : decode cX9_allIn 13 = .ok (.getfield 21, 3) := by decide +kernel
theorem dX9_allIn_16 : decode cX9_allIn 16 = .ok (.iload_n 1, 1) := by decide +kernel
theorem dX9_allIn_17 : decode cX9_allIn 17 = .ok (.aload_n 0, 1) := by decide +kernel
theorem dX9_allIn_18 : decode cX9_allIn 18 = .ok (.iload_n 1, 1) := by decide +kernel
theorem dX9_allIn_19 : decode cX9_allIn 19 = .ok (.invokevirtual 62, 3) := by decide +kernel
theorem dX9_allIn_22 : decode cX9_allIn 22 = .ok (.bastore, 1) := by decide +kernel
theorem dX9_allIn_23 : decode cX9_allIn 23 = .ok (.iinc 1 1, 3) := by decide +kernel
theorem dX9_allIn_26 : decode cX9_allIn 26 = .ok (.goto (-24), 3) := by decide +kernel
theorem dX9_allIn_29 : decode cX9_allIn 29 = .ok (.return_, 1) := by decide +kernel
theorem dX9_tellers_0 : decode cX9_tellers 0 = .ok (.iconst 0, 1) := by decide +kernel
theorem dX9_tellers_1 : decode cX9_tellers 1 = .ok (.istore_n 3, 1) := by decide +kernel
theorem dX9_tellers_2 : decode cX9_tellers 2 = .ok (.iconst 0, 1) := by decide +kernel
theorem dX9_tellers_3 : decode cX9_tellers 3 = .ok (.istore 4, 2) := by decide +kernel
theorem dX9_tellers_5 : decode cX9_tellers 5 = .ok (.iload 4, 2) := by decide +kernel
theorem dX9_tellers_7 : decode cX9_tellers 7 = .ok (.aload_n 0, 1) := by decide +kernel
theorem dX9_tellers_8 : decode cX9_tellers 8 = .ok (.getfield 7, 3) := by decide +kernel
theorem dX9_tellers_11 : decode cX9_tellers 11 = .ok (.iconst 0, 1) := by decide +kernel
theorem dX9_tellers_12 : decode cX9_tellers 12 = .ok (.iaload, 1) := by decide +kernel
theorem dX9_tellers_13 : decode cX9_tellers 13 = .ok (.if_icmp .ge 45, 3) := by decide +kernel
theorem dX9_tellers_16 : decode cX9_tellers 16 = .ok (.iload_n 3, 1) := by decide +kernel
theorem dX9_tellers_17 : decode cX9_tellers 17 = .ok (.aload_n 0, 1) := by decide +kernel
theorem dX9_tellers_18 : decode cX9_tellers 18 = .ok (.getfield 21, 3) := by decide +kernel
theorem dX9_tellers_21 : decode cX9_tellers 21 = .ok (.iload 4, 2) := by decide +kernel
theorem dX9_tellers_23 : decode cX9_tellers 23 = .ok (.baload, 1) := by decide +kernel
theorem dX9_tellers_24 : decode cX9_tellers 24 = .ok (.ifCond .eq 25, 3) := by decide +kernel
theorem dX9_tellers_27 : decode cX9_tellers 27 = .ok (.aload_n 0, 1) := by decide +kernel
theorem dX9_tellers_28 : decode cX9_tellers 28 = .ok (.getfield 13, 3) := by decide +kernel
theorem dX9_tellers_31 : decode cX9_tellers 31 = .ok (.bipush 84, 2) := by decide +kernel
theorem dX9_tellers_33 : decode cX9_tellers 33 = .ok (.iload 4, 2) := by decide +kernel
theorem dX9_tellers_35 : decode cX9_tellers 35 = .ok (.iadd, 1) := by decide +kernel
theorem dX9_tellers_36 : decode cX9_tellers 36 = .ok (.laload, 1) := by decide +kernel
theorem dX9_tellers_37 : decode cX9_tellers 37 = .ok (.iload_n 1, 1) := by decide +kernel
theorem dX9_tellers_38 : decode cX9_tellers 38 = .ok (.invokestatic 40, 3) := by decide +kernel
theorem dX9_tellers_41 : decode cX9_tellers 41 = .ok (.iload_n 2, 1) := by decide +kernel
theorem dX9_tellers_42 : decode cX9_tellers 42 = .ok (.if_icmp .ne 7, 3) := by decide +kernel
theorem dX9_tellers_45 : decode cX9_tellers 45 = .ok (.iconst 1, 1) := by decide +kernel
theorem dX9_tellers_46 : decode cX9_tellers 46 = .ok (.goto 4, 3) := by decide +kernel
theorem dX9_tellers_49 : decode cX9_tellers 49 = .ok (.iconst 0, 1) := by decide +kernel
theorem dX9_tellers_50 : decode cX9_tellers 50 = .ok (.iadd, 1) := by decide +kernel
theorem dX9_tellers_51 : decode cX9_tellers 51 = .ok (.istore_n 3, 1) := by decide +kernel
theorem dX9_tellers_52 : decode cX9_tellers 52 = .ok (.iinc 4 1, 3) := by decide +kernel
theorem dX9_tellers_55 : decode cX9_tellers 55 = .ok (.goto (-50), 3) := by decide +kernel
theorem dX9_tellers_58 : decode cX9_tellers 58 = .ok (.iload_n 3, 1) := by decide +kernel
theorem dX9_tellers_59 : decode cX9_tellers 59 = .ok (.ireturn, 1) := by decide +kernel
theorem dX9_goesOn_0 : decode cX9_goesOn 0 = .ok (.iconst 0, 1) := by decide +kernel
theorem dX9_goesOn_1 : decode cX9_goesOn 1 = .ok (.istore_n 3, 1) := by decide +kernel
theorem dX9_goesOn_2 : decode cX9_goesOn 2 = .ok (.iload_n 3, 1) := by decide +kernel
theorem dX9_goesOn_3 : decode cX9_goesOn 3 = .ok (.aload_n 0, 1) := by decide +kernel
theorem dX9_goesOn_4 : decode cX9_goesOn 4 = .ok (.getfield 7, 3) := by decide +kernel
theorem dX9_goesOn_7 : decode cX9_goesOn 7 = .ok (.iconst 0, 1) := by decide +kernel
theorem dX9_goesOn_8 : decode cX9_goesOn 8 = .ok (.iaload, 1) := by decide +kernel
theorem dX9_goesOn_9 : decode cX9_goesOn 9 = .ok (.if_icmp .ge 46, 3) := by decide +kernel
theorem dX9_goesOn_12 : decode cX9_goesOn 12 = .ok (.aload_n 0, 1) := by decide +kernel
theorem dX9_goesOn_13 : decode cX9_goesOn 13 = .ok (.getfield 21, 3) := by decide +kernel
theorem dX9_goesOn_16 : decode cX9_goesOn 16 = .ok (.iload_n 3, 1) := by decide +kernel
theorem dX9_goesOn_17 : decode cX9_goesOn 17 = .ok (.aload_n 0, 1) := by decide +kernel
theorem dX9_goesOn_18 : decode cX9_goesOn 18 = .ok (.getfield 21, 3) := by decide +kernel
theorem dX9_goesOn_21 : decode cX9_goesOn 21 = .ok (.iload_n 3, 1) := by decide +kernel
theorem dX9_goesOn_22 : decode cX9_goesOn 22 = .ok (.baload, 1) := by decide +kernel
theorem dX9_goesOn_23 : decode cX9_goesOn 23 = .ok (.ifCond .eq 24, 3) := by decide +kernel
theorem dX9_goesOn_26 : decode cX9_goesOn 26 = .ok (.aload_n 0, 1) := by decide +kernel
theorem dX9_goesOn_27 : decode cX9_goesOn 27 = .ok (.getfield 13, 3) := by decide +kernel
theorem dX9_goesOn_30 : decode cX9_goesOn 30 = .ok (.bipush 84, 2) := by decide +kernel
theorem dX9_goesOn_32 : decode cX9_goesOn 32 = .ok (.iload_n 3, 1) := by decide +kernel
theorem dX9_goesOn_33 : decode cX9_goesOn 33 = .ok (.iadd, 1) := by decide +kernel
theorem dX9_goesOn_34 : decode cX9_goesOn 34 = .ok (.laload, 1) := by decide +kernel
theorem dX9_goesOn_35 : decode cX9_goesOn 35 = .ok (.iload_n 1, 1) := by decide +kernel
theorem dX9_goesOn_36 : decode cX9_goesOn 36 = .ok (.invokestatic 40, 3) := by decide +kernel
theorem dX9_goesOn_39 : decode cX9_goesOn 39 = .ok (.iload_n 2, 1) := by decide +kernel
theorem dX9_goesOn_40 : decode cX9_goesOn 40 = .ok (.if_icmp .ne 7, 3) := by decide +kernel
theorem dX9_goesOn_43 : decode cX9_goesOn 43 = .ok (.iconst 1, 1) := by decide +kernel
theorem dX9_goesOn_44 : decode cX9_goesOn 44 = .ok (.goto 4, 3) := by decide +kernel
theorem dX9_goesOn_47 : decode cX9_goesOn 47 = .ok (.iconst 0, 1) := by decide +kernel
theorem dX9_goesOn_48 : decode cX9_goesOn 48 = .ok (.bastore, 1) := by decide +kernel
theorem dX9_goesOn_49 : decode cX9_goesOn 49 = .ok (.iinc 3 1, 3) := by decide +kernel
theorem dX9_goesOn_52 : decode cX9_goesOn 52 = .ok (.goto (-50), 3) := by decide +kernel
theorem dX9_goesOn_55 : decode cX9_goesOn 55 = .ok (.return_, 1) := by decide +kernel
theorem dX9_oneIn_0 : decode cX9_oneIn 0 = .ok (.iconst (-1), 1) := by decide +kernel
theorem dX9_oneIn_1 : decode cX9_oneIn 1 = .ok (.istore_n 1, 1) := by decide +kernel
theorem dX9_oneIn_2 : decode cX9_oneIn 2 = .ok (.iconst 0, 1) := by decide +kernel
theorem dX9_oneIn_3 : decode cX9_oneIn 3 = .ok (.istore_n 2, 1) := by decide +kernel
theorem dX9_oneIn_4 : decode cX9_oneIn 4 = .ok (.iload_n 2, 1) := by decide +kernel
theorem dX9_oneIn_5 : decode cX9_oneIn 5 = .ok (.aload_n 0, 1) := by decide +kernel
theorem dX9_oneIn_6 : decode cX9_oneIn 6 = .ok (.getfield 7, 3) := by decide +kernel
theorem dX9_oneIn_9 : decode cX9_oneIn 9 = .ok (.iconst 0, 1) := by decide +kernel
theorem dX9_oneIn_10 : decode cX9_oneIn 10 = .ok (.iaload, 1) := by decide +kernel
theorem dX9_oneIn_11 : decode cX9_oneIn 11 = .ok (.if_icmp .ge 20, 3) := by decide +kernel
theorem dX9_oneIn_14 : decode cX9_oneIn 14 = .ok (.aload_n 0, 1) := by decide +kernel
theorem dX9_oneIn_15 : decode cX9_oneIn 15 = .ok (.getfield 21, 3) := by decide +kernel
theorem dX9_oneIn_18 : decode cX9_oneIn 18 = .ok (.iload_n 2, 1) := by decide +kernel
theorem dX9_oneIn_19 : decode cX9_oneIn 19 = .ok (.baload, 1) := by decide +kernel
theorem dX9_oneIn_20 : decode cX9_oneIn 20 = .ok (.ifCond .eq 5, 3) := by decide +kernel
theorem dX9_oneIn_23 : decode cX9_oneIn 23 = .ok (.iload_n 2, 1) := by decide +kernel
theorem dX9_oneIn_24 : decode cX9_oneIn 24 = .ok (.istore_n 1, 1) := by decide +kernel
theorem dX9_oneIn_25 : decode cX9_oneIn 25 = .ok (.iinc 2 1, 3) := by decide +kernel
theorem dX9_oneIn_28 : decode cX9_oneIn 28 = .ok (.goto (-24), 3) := by decide +kernel
theorem dX9_oneIn_31 : decode cX9_oneIn 31 = .ok (.iload_n 1, 1) := by decide +kernel
theorem dX9_oneIn_32 : decode cX9_oneIn 32 = .ok (.ireturn, 1) := by decide +kernel
theorem dX9_pass_0 : decode cX9_pass 0 = .ok (.aload_n 0, 1) := by decide +kernel
theorem dX9_pass_1 : decode cX9_pass 1 = .ok (.invokevirtual 69, 3) := by decide +kernel
theorem dX9_pass_4 : decode cX9_pass 4 = .ok (.aload_n 0, 1) := by decide +kernel
theorem dX9_pass_5 : decode cX9_pass 5 = .ok (.invokevirtual 72, 3) := by decide +kernel
theorem dX9_pass_8 : decode cX9_pass 8 = .ok (.ifCond .ge 30, 3) := by decide +kernel
theorem dX9_pass_11 : decode cX9_pass 11 = .ok (.aload_n 0, 1) := by decide +kernel
theorem dX9_pass_12 : decode cX9_pass 12 = .ok (.getfield 7, 3) := by decide +kernel
theorem dX9_pass_15 : decode cX9_pass 15 = .ok (.bipush 14, 2) := by decide +kernel
theorem dX9_pass_17 : decode cX9_pass 17 = .ok (.dup2, 1) := by decide +kernel
theorem dX9_pass_18 : decode cX9_pass 18 = .ok (.iaload, 1) := by decide +kernel
theorem dX9_pass_19 : decode cX9_pass 19 = .ok (.iconst 1, 1) := by decide +kernel
theorem dX9_pass_20 : decode cX9_pass 20 = .ok (.iadd, 1) := by decide +kernel
theorem dX9_pass_21 : decode cX9_pass 21 = .ok (.iastore, 1) := by decide +kernel
theorem dX9_pass_22 : decode cX9_pass 22 = .ok (.aload_n 0, 1) := by decide +kernel
theorem dX9_pass_23 : decode cX9_pass 23 = .ok (.getfield 7, 3) := by decide +kernel
theorem dX9_pass_26 : decode cX9_pass 26 = .ok (.iconst 2, 1) := by decide +kernel
theorem dX9_pass_27 : decode cX9_pass 27 = .ok (.iconst (-1), 1) := by decide +kernel
theorem dX9_pass_28 : decode cX9_pass 28 = .ok (.iastore, 1) := by decide +kernel
theorem dX9_pass_29 : decode cX9_pass 29 = .ok (.aload_n 0, 1) := by decide +kernel
theorem dX9_pass_30 : decode cX9_pass 30 = .ok (.getfield 7, 3) := by decide +kernel
theorem dX9_pass_33 : decode cX9_pass 33 = .ok (.iconst 3, 1) := by decide +kernel
theorem dX9_pass_34 : decode cX9_pass 34 = .ok (.iconst 0, 1) := by decide +kernel
theorem dX9_pass_35 : decode cX9_pass 35 = .ok (.iastore, 1) := by decide +kernel
theorem dX9_pass_36 : decode cX9_pass 36 = .ok (.iconst (-1), 1) := by decide +kernel
theorem dX9_pass_37 : decode cX9_pass 37 = .ok (.ireturn, 1) := by decide +kernel
theorem dX9_pass_38 : decode cX9_pass 38 = .ok (.iconst (-1), 1) := by decide +kernel
theorem dX9_pass_39 : decode cX9_pass 39 = .ok (.istore_n 1, 1) := by decide +kernel
theorem dX9_pass_40 : decode cX9_pass 40 = .ok (.iconst 0, 1) := by decide +kernel
theorem dX9_pass_41 : decode cX9_pass 41 = .ok (.istore_n 2, 1) := by decide +kernel
theorem dX9_pass_42 : decode cX9_pass 42 = .ok (.iload_n 2, 1) := by decide +kernel
theorem dX9_pass_43 : decode cX9_pass 43 = .ok (.bipush 64, 2) := by decide +kernel
theorem dX9_pass_45 : decode cX9_pass 45 = .ok (.if_icmp .ge 110, 3) := by decide +kernel
theorem dX9_pass_48 : decode cX9_pass 48 = .ok (.aload_n 0, 1) := by decide +kernel
theorem dX9_pass_49 : decode cX9_pass 49 = .ok (.iload_n 2, 1) := by decide +kernel
theorem dX9_pass_50 : decode cX9_pass 50 = .ok (.iconst 0, 1) := by decide +kernel
theorem dX9_pass_51 : decode cX9_pass 51 = .ok (.invokevirtual 75, 3) := by decide +kernel
theorem dX9_pass_54 : decode cX9_pass 54 = .ok (.ifCond .le 16, 3) := by decide +kernel
theorem dX9_pass_57 : decode cX9_pass 57 = .ok (.aload_n 0, 1) := by decide +kernel
theorem dX9_pass_58 : decode cX9_pass 58 = .ok (.iload_n 2, 1) := by decide +kernel
theorem dX9_pass_59 : decode cX9_pass 59 = .ok (.iconst 1, 1) := by decide +kernel
theorem dX9_pass_60 : decode cX9_pass 60 = .ok (.invokevirtual 75, 3) := by decide +kernel
theorem dX9_pass_63 : decode cX9_pass 63 = .ok (.ifCond .le 7, 3) := by decide +kernel
theorem dX9_pass_66 : decode cX9_pass 66 = .ok (.iconst 1, 1) := by decide +kernel
theorem dX9_pass_67 : decode cX9_pass 67 = .ok (.goto 4, 3) := by decide +kernel
theorem dX9_pass_70 : decode cX9_pass 70 = .ok (.iconst 0, 1) := by decide +kernel
theorem dX9_pass_71 : decode cX9_pass 71 = .ok (.istore_n 3, 1) := by decide +kernel
theorem dX9_pass_72 : decode cX9_pass 72 = .ok (.aload_n 0, 1) := by decide +kernel
theorem dX9_pass_73 : decode cX9_pass 73 = .ok (.iload_n 2, 1) := by decide +kernel
theorem dX9_pass_74 : decode cX9_pass 74 = .ok (.iconst 0, 1) := by decide +kernel
theorem dX9_pass_75 : decode cX9_pass 75 = .ok (.invokevirtual 75, 3) := by decide +kernel
theorem dX9_pass_78 : decode cX9_pass 78 = .ok (.ifCond .le 7, 3) := by decide +kernel
theorem dX9_pass_81 : decode cX9_pass 81 = .ok (.iconst 0, 1) := by decide +kernel
theorem dX9_pass_82 : decode cX9_pass 82 = .ok (.goto 4, 3) := by decide +kernel
theorem dX9_pass_85 : decode cX9_pass 85 = .ok (.iconst 1, 1) := by decide +kernel
theorem dX9_pass_86 : decode cX9_pass 86 = .ok (.istore 4, 2) := by decide +kernel
theorem dX9_pass_88 : decode cX9_pass 88 = .ok (.iload_n 3, 1) := by decide +kernel
theorem dX9_pass_89 : decode cX9_pass 89 = .ok (.ifCond .eq 25, 3) := by decide +kernel
theorem dX9_pass_92 : decode cX9_pass 92 = .ok (.iload_n 2, 1) := by decide +kernel
theorem dX9_pass_93 : decode cX9_pass 93 = .ok (.aload_n 0, 1) := by decide +kernel
theorem dX9_pass_94 : decode cX9_pass 94 = .ok (.getfield 7, 3) := by decide +kernel
theorem dX9_pass_97 : decode cX9_pass 97 = .ok (.iconst 2, 1) := by decide +kernel
theorem dX9_pass_98 : decode cX9_pass 98 = .ok (.iaload, 1) := by decide +kernel
theorem dX9_pass_99 : decode cX9_pass 99 = .ok (.if_icmp .ge 15, 3) := by decide +kernel
theorem dX9_pass_102 : decode cX9_pass 102 = .ok (.aload_n 0, 1) := by decide +kernel
theorem dX9_pass_103 : decode cX9_pass 103 = .ok (.getfield 13, 3) := by decide +kernel
theorem dX9_pass_106 : decode cX9_pass 106 = .ok (.iconst 2, 1) := by decide +kernel
theorem dX9_pass_107 : decode cX9_pass 107 = .ok (.laload, 1) := by decide +kernel
theorem dX9_pass_108 : decode cX9_pass 108 = .ok (.iload_n 2, 1) := by decide +kernel
theorem dX9_pass_109 : decode cX9_pass 109 = .ok (.invokestatic 40, 3) := by decide +kernel
theorem dX9_pass_112 : decode cX9_pass 112 = .ok (.istore 4, 2) := by decide +kernel
theorem dX9_pass_114 : decode cX9_pass 114 = .ok (.iload_n 3, 1) := by decide +kernel
theorem dX9_pass_115 : decode cX9_pass 115 = .ok (.ifCond .eq 16, 3) := by decide +kernel
theorem dX9_pass_118 : decode cX9_pass 118 = .ok (.iload_n 2, 1) := by decide +kernel
theorem dX9_pass_119 : decode cX9_pass 119 = .ok (.aload_n 0, 1) := by decide +kernel
theorem dX9_pass_120 : decode cX9_pass 120 = .ok (.getfield 7, 3) := by decide +kernel
theorem dX9_pass_123 : decode cX9_pass 123 = .ok (.iconst 2, 1) := by decide +kernel
theorem dX9_pass_124 : decode cX9_pass 124 = .ok (.iaload, 1) := by decide +kernel
theorem dX9_pass_125 : decode cX9_pass 125 = .ok (.if_icmp .ne 6, 3) := by decide +kernel
theorem dX9_pass_128 : decode cX9_pass 128 = .ok (.iconst 1, 1) := by decide +kernel
theorem dX9_pass_129 : decode cX9_pass 129 = .ok (.istore 4, 2) := by decide +kernel
theorem dX9_pass_131 : decode cX9_pass 131 = .ok (.iload_n 3, 1) := by decide +kernel
theorem dX9_pass_132 : decode cX9_pass 132 = .ok (.ifCond .eq 10, 3) := by decide +kernel
theorem dX9_pass_135 : decode cX9_pass 135 = .ok (.iload 4, 2) := by decide +kernel
theorem dX9_pass_137 : decode cX9_pass 137 = .ok (.ifCond .ne 5, 3) := by decide +kernel
theorem dX9_pass_140 : decode cX9_pass 140 = .ok (.iload_n 2, 1) := by decide +kernel
theorem dX9_pass_141 : decode cX9_pass 141 = .ok (.istore_n 1, 1) := by decide +kernel
theorem dX9_pass_142 : decode cX9_pass 142 = .ok (.aload_n 0, 1) := by decide +kernel
theorem dX9_pass_143 : decode cX9_pass 143 = .ok (.iload_n 2, 1) := by decide +kernel
theorem dX9_pass_144 : decode cX9_pass 144 = .ok (.iload 4, 2) := by decide +kernel
theorem dX9_pass_146 : decode cX9_pass 146 = .ok (.invokevirtual 78, 3) := by decide +kernel
theorem dX9_pass_149 : decode cX9_pass 149 = .ok (.iinc 2 1, 3) := by decide +kernel
theorem dX9_pass_152 : decode cX9_pass 152 = .ok (.goto (-110), 3) := by decide +kernel
theorem dX9_pass_155 : decode cX9_pass 155 = .ok (.aload_n 0, 1) := by decide +kernel
theorem dX9_pass_156 : decode cX9_pass 156 = .ok (.invokevirtual 72, 3) := by decide +kernel
theorem dX9_pass_159 : decode cX9_pass 159 = .ok (.istore_n 2, 1) := by decide +kernel
theorem dX9_pass_160 : decode cX9_pass 160 = .ok (.aload_n 0, 1) := by decide +kernel
theorem dX9_pass_161 : decode cX9_pass 161 = .ok (.getfield 7, 3) := by decide +kernel
theorem dX9_pass_164 : decode cX9_pass 164 = .ok (.bipush 14, 2) := by decide +kernel
theorem dX9_pass_166 : decode cX9_pass 166 = .ok (.dup2, 1) := by decide +kernel
theorem dX9_pass_167 : decode cX9_pass 167 = .ok (.iaload, 1) := by decide +kernel
theorem dX9_pass_168 : decode cX9_pass 168 = .ok (.sipush 193, 3) := by decide +kernel
theorem dX9_pass_171 : decode cX9_pass 171 = .ok (.iadd, 1) := by decide +kernel
theorem dX9_pass_172 : decode cX9_pass 172 = .ok (.iastore, 1) := by decide +kernel
theorem dX9_pass_173 : decode cX9_pass 173 = .ok (.aload_n 0, 1) := by decide +kernel
theorem dX9_pass_174 : decode cX9_pass 174 = .ok (.getfield 13, 3) := by decide +kernel
theorem dX9_pass_177 : decode cX9_pass 177 = .ok (.iconst 2, 1) := by decide +kernel
theorem dX9_pass_178 : decode cX9_pass 178 = .ok (.aload_n 0, 1) := by decide +kernel
theorem dX9_pass_179 : decode cX9_pass 179 = .ok (.getfield 13, 3) := by decide +kernel
theorem dX9_pass_182 : decode cX9_pass 182 = .ok (.bipush 84, 2) := by decide +kernel
theorem dX9_pass_184 : decode cX9_pass 184 = .ok (.iload_n 2, 1) := by decide +kernel
theorem dX9_pass_185 : decode cX9_pass 185 = .ok (.iadd, 1) := by decide +kernel
theorem dX9_pass_186 : decode cX9_pass 186 = .ok (.laload, 1) := by decide +kernel
theorem dX9_pass_187 : decode cX9_pass 187 = .ok (.lastore, 1) := by decide +kernel
theorem dX9_pass_188 : decode cX9_pass 188 = .ok (.aload_n 0, 1) := by decide +kernel
theorem dX9_pass_189 : decode cX9_pass 189 = .ok (.getfield 7, 3) := by decide +kernel
theorem dX9_pass_192 : decode cX9_pass 192 = .ok (.iconst 2, 1) := by decide +kernel
theorem dX9_pass_193 : decode cX9_pass 193 = .ok (.iload_n 1, 1) := by decide +kernel
theorem dX9_pass_194 : decode cX9_pass 194 = .ok (.iastore, 1) := by decide +kernel
theorem dX9_pass_195 : decode cX9_pass 195 = .ok (.aload_n 0, 1) := by decide +kernel
theorem dX9_pass_196 : decode cX9_pass 196 = .ok (.getfield 7, 3) := by decide +kernel
theorem dX9_pass_199 : decode cX9_pass 199 = .ok (.iconst 3, 1) := by decide +kernel
theorem dX9_pass_200 : decode cX9_pass 200 = .ok (.iload_n 1, 1) := by decide +kernel
theorem dX9_pass_201 : decode cX9_pass 201 = .ok (.ifCond .ge 7, 3) := by decide +kernel
theorem dX9_pass_204 : decode cX9_pass 204 = .ok (.iconst 0, 1) := by decide +kernel
theorem dX9_pass_205 : decode cX9_pass 205 = .ok (.goto 11, 3) := by decide +kernel
theorem dX9_pass_208 : decode cX9_pass 208 = .ok (.aload_n 0, 1) := by decide +kernel
theorem dX9_pass_209 : decode cX9_pass 209 = .ok (.getfield 7, 3) := by decide +kernel
theorem dX9_pass_212 : decode cX9_pass 212 = .ok (.iconst 3, 1) := by decide +kernel
theorem dX9_pass_213 : decode cX9_pass 213 = .ok (.iaload, 1) := by decide +kernel
theorem dX9_pass_214 : decode cX9_pass 214 = .ok (.iconst 1, 1) := by decide +kernel
theorem dX9_pass_215 : decode cX9_pass 215 = .ok (.iadd, 1) := by decide +kernel
theorem dX9_pass_216 : decode cX9_pass 216 = .ok (.iastore, 1) := by decide +kernel
theorem dX9_pass_217 : decode cX9_pass 217 = .ok (.aload_n 0, 1) := by decide +kernel
theorem dX9_pass_218 : decode cX9_pass 218 = .ok (.iload_n 2, 1) := by decide +kernel
theorem dX9_pass_219 : decode cX9_pass 219 = .ok (.invokevirtual 82, 3) := by decide +kernel
theorem dX9_pass_222 : decode cX9_pass 222 = .ok (.iload_n 2, 1) := by decide +kernel
theorem dX9_pass_223 : decode cX9_pass 223 = .ok (.ireturn, 1) := by decide +kernel
theorem dX9_fork_0 : decode cX9_fork 0 = .ok (.iload_n 1, 1) := by decide +kernel
theorem dX9_fork_1 : decode cX9_fork 1 = .ok (.ifCond .ne 12, 3) := by decide +kernel
theorem dX9_fork_4 : decode cX9_fork 4 = .ok (.aload_n 0, 1) := by decide +kernel
theorem dX9_fork_5 : decode cX9_fork 5 = .ok (.getfield 7, 3) := by decide +kernel
theorem dX9_fork_8 : decode cX9_fork 8 = .ok (.iconst 2, 1) := by decide +kernel
theorem dX9_fork_9 : decode cX9_fork 9 = .ok (.iaload, 1) := by decide +kernel
theorem dX9_fork_10 : decode cX9_fork 10 = .ok (.goto 18, 3) := by decide +kernel
theorem dX9_fork_13 : decode cX9_fork 13 = .ok (.iload_n 1, 1) := by decide +kernel
theorem dX9_fork_14 : decode cX9_fork 14 = .ok (.iconst 1, 1) := by decide +kernel
theorem dX9_fork_15 : decode cX9_fork 15 = .ok (.if_icmp .ne 12, 3) := by decide +kernel
theorem dX9_fork_18 : decode cX9_fork 18 = .ok (.aload_n 0, 1) := by decide +kernel
theorem dX9_fork_19 : decode cX9_fork 19 = .ok (.getfield 7, 3) := by decide +kernel
theorem dX9_fork_22 : decode cX9_fork 22 = .ok (.iconst 3, 1) := by decide +kernel
theorem dX9_fork_23 : decode cX9_fork 23 = .ok (.iaload, 1) := by decide +kernel
theorem dX9_fork_24 : decode cX9_fork 24 = .ok (.goto 4, 3) := by decide +kernel
theorem dX9_fork_27 : decode cX9_fork 27 = .ok (.iconst (-1), 1) := by decide +kernel
theorem dX9_fork_28 : decode cX9_fork 28 = .ok (.ireturn, 1) := by decide +kernel
theorem dX9_verify_0 : decode cX9_verify 0 = .ok (.aload_n 0, 1) := by decide +kernel
theorem dX9_verify_1 : decode cX9_verify 1 = .ok (.invokevirtual 69, 3) := by decide +kernel
theorem dX9_verify_4 : decode cX9_verify 4 = .ok (.iconst 0, 1) := by decide +kernel
theorem dX9_verify_5 : decode cX9_verify 5 = .ok (.istore_n 3, 1) := by decide +kernel
theorem dX9_verify_6 : decode cX9_verify 6 = .ok (.iload_n 3, 1) := by decide +kernel
theorem dX9_verify_7 : decode cX9_verify 7 = .ok (.bipush 64, 2) := by decide +kernel
theorem dX9_verify_9 : decode cX9_verify 9 = .ok (.if_icmp .ge 26, 3) := by decide +kernel
theorem dX9_verify_12 : decode cX9_verify 12 = .ok (.aload_n 0, 1) := by decide +kernel
theorem dX9_verify_13 : decode cX9_verify 13 = .ok (.invokevirtual 72, 3) := by decide +kernel
theorem dX9_verify_16 : decode cX9_verify 16 = .ok (.ifCond .lt 19, 3) := by decide +kernel
theorem dX9_verify_19 : decode cX9_verify 19 = .ok (.aload_n 0, 1) := by decide +kernel
theorem dX9_verify_20 : decode cX9_verify 20 = .ok (.iload_n 3, 1) := by decide +kernel
theorem dX9_verify_21 : decode cX9_verify 21 = .ok (.lload_n 1, 1) := by decide +kernel
theorem dX9_verify_22 : decode cX9_verify 22 = .ok (.iload_n 3, 1) := by decide +kernel
theorem dX9_verify_23 : decode cX9_verify 23 = .ok (.invokestatic 40, 3) := by decide +kernel
theorem dX9_verify_26 : decode cX9_verify 26 = .ok (.invokevirtual 78, 3) := by decide +kernel
theorem dX9_verify_29 : decode cX9_verify 29 = .ok (.iinc 3 1, 3) := by decide +kernel
theorem dX9_verify_32 : decode cX9_verify 32 = .ok (.goto (-26), 3) := by decide +kernel
theorem dX9_verify_35 : decode cX9_verify 35 = .ok (.aload_n 0, 1) := by decide +kernel
theorem dX9_verify_36 : decode cX9_verify 36 = .ok (.getfield 7, 3) := by decide +kernel
theorem dX9_verify_39 : decode cX9_verify 39 = .ok (.bipush 14, 2) := by decide +kernel
theorem dX9_verify_41 : decode cX9_verify 41 = .ok (.dup2, 1) := by decide +kernel
theorem dX9_verify_42 : decode cX9_verify 42 = .ok (.iaload, 1) := by decide +kernel
theorem dX9_verify_43 : decode cX9_verify 43 = .ok (.iconst 1, 1) := by decide +kernel
theorem dX9_verify_44 : decode cX9_verify 44 = .ok (.iconst 3, 1) := by decide +kernel
theorem dX9_verify_45 : decode cX9_verify 45 = .ok (.iload_n 3, 1) := by decide +kernel
theorem dX9_verify_46 : decode cX9_verify 46 = .ok (.imul, 1) := by decide +kernel
theorem dX9_verify_47 : decode cX9_verify 47 = .ok (.iadd, 1) := by decide +kernel
theorem dX9_verify_48 : decode cX9_verify 48 = .ok (.iadd, 1) := by decide +kernel
theorem dX9_verify_49 : decode cX9_verify 49 = .ok (.iastore, 1) := by decide +kernel
theorem dX9_verify_50 : decode cX9_verify 50 = .ok (.aload_n 0, 1) := by decide +kernel
theorem dX9_verify_51 : decode cX9_verify 51 = .ok (.invokevirtual 72, 3) := by decide +kernel
theorem dX9_verify_54 : decode cX9_verify 54 = .ok (.ifCond .lt 7, 3) := by decide +kernel
theorem dX9_verify_57 : decode cX9_verify 57 = .ok (.iconst 1, 1) := by decide +kernel
theorem dX9_verify_58 : decode cX9_verify 58 = .ok (.goto 4, 3) := by decide +kernel
theorem dX9_verify_61 : decode cX9_verify 61 = .ok (.iconst 0, 1) := by decide +kernel
theorem dX9_verify_62 : decode cX9_verify 62 = .ok (.ireturn, 1) := by decide +kernel
theorem dX9_slot_0 : decode cX9_slot 0 = .ok (.iconst 0, 1) := by decide +kernel
theorem dX9_slot_1 : decode cX9_slot 1 = .ok (.istore_n 1, 1) := by decide +kernel
theorem dX9_slot_2 : decode cX9_slot 2 = .ok (.iconst 0, 1) := by decide +kernel
theorem dX9_slot_3 : decode cX9_slot 3 = .ok (.istore_n 2, 1) := by decide +kernel
theorem dX9_slot_4 : decode cX9_slot 4 = .ok (.iconst (-1), 1) := by decide +kernel
theorem dX9_slot_5 : decode cX9_slot 5 = .ok (.istore_n 3, 1) := by decide +kernel
theorem dX9_slot_6 : decode cX9_slot 6 = .ok (.iconst 0, 1) := by decide +kernel
theorem dX9_slot_7 : decode cX9_slot 7 = .ok (.istore 4, 2) := by decide +kernel
theorem dX9_slot_9 : decode cX9_slot 9 = .ok (.iload 4, 2) := by decide +kernel
theorem dX9_slot_11 : decode cX9_slot 11 = .ok (.aload_n 0, 1) := by decide +kernel
theorem dX9_slot_12 : decode cX9_slot 12 = .ok (.getfield 7, 3) := by decide +kernel
theorem dX9_slot_15 : decode cX9_slot 15 = .ok (.iconst 0, 1) := by decide +kernel
theorem dX9_slot_16 : decode cX9_slot 16 = .ok (.iaload, 1) := by decide +kernel
theorem dX9_slot_17 : decode cX9_slot 17 = .ok (.if_icmp .ge 60, 3) := by decide +kernel
theorem dX9_slot_20 : decode cX9_slot 20 = .ok (.aload_n 0, 1) := by decide +kernel
theorem dX9_slot_21 : decode cX9_slot 21 = .ok (.getfield 24, 3) := by decide +kernel
theorem dX9_slot_24 : decode cX9_slot 24 = .ok (.iload 4, 2) := by decide +kernel
theorem dX9_slot_26 : decode cX9_slot 26 = .ok (.baload, 1) := by decide +kernel
theorem dX9_slot_27 : decode cX9_slot 27 = .ok (.ifCond .ne 6, 3) := by decide +kernel
theorem dX9_slot_30 : decode cX9_slot 30 = .ok (.goto 41, 3) := by decide +kernel
theorem dX9_slot_33 : decode cX9_slot 33 = .ok (.aload_n 0, 1) := by decide +kernel
theorem dX9_slot_34 : decode cX9_slot 34 = .ok (.iload 4, 2) := by decide +kernel
theorem dX9_slot_36 : decode cX9_slot 36 = .ok (.iconst 0, 1) := by decide +kernel
theorem dX9_slot_37 : decode cX9_slot 37 = .ok (.invokevirtual 44, 3) := by decide +kernel
theorem dX9_slot_40 : decode cX9_slot 40 = .ok (.iconst 5, 1) := by decide +kernel
theorem dX9_slot_41 : decode cX9_slot 41 = .ok (.if_icmp .ne 9, 3) := by decide +kernel
theorem dX9_slot_44 : decode cX9_slot 44 = .ok (.iinc 2 1, 3) := by decide +kernel
theorem dX9_slot_47 : decode cX9_slot 47 = .ok (.goto 6, 3) := by decide +kernel
theorem dX9_slot_50 : decode cX9_slot 50 = .ok (.iinc 1 1, 3) := by decide +kernel
theorem dX9_slot_53 : decode cX9_slot 53 = .ok (.aload_n 0, 1) := by decide +kernel
theorem dX9_slot_54 : decode cX9_slot 54 = .ok (.iload 4, 2) := by decide +kernel
theorem dX9_slot_56 : decode cX9_slot 56 = .ok (.iconst 0, 1) := by decide +kernel
theorem dX9_slot_57 : decode cX9_slot 57 = .ok (.invokevirtual 44, 3) := by decide +kernel
theorem dX9_slot_60 : decode cX9_slot 60 = .ok (.iconst 5, 1) := by decide +kernel
theorem dX9_slot_61 : decode cX9_slot 61 = .ok (.if_icmp .ne 7, 3) := by decide +kernel
theorem dX9_slot_64 : decode cX9_slot 64 = .ok (.iload_n 3, 1) := by decide +kernel
theorem dX9_slot_65 : decode cX9_slot 65 = .ok (.ifCond .ge 6, 3) := by decide +kernel
theorem dX9_slot_68 : decode cX9_slot 68 = .ok (.iload 4, 2) := by decide +kernel
theorem dX9_slot_70 : decode cX9_slot 70 = .ok (.istore_n 3, 1) := by decide +kernel
theorem dX9_slot_71 : decode cX9_slot 71 = .ok (.iinc 4 1, 3) := by decide +kernel
theorem dX9_slot_74 : decode cX9_slot 74 = .ok (.goto (-65), 3) := by decide +kernel
theorem dX9_slot_77 : decode cX9_slot 77 = .ok (.aload_n 0, 1) := by decide +kernel
theorem dX9_slot_78 : decode cX9_slot 78 = .ok (.iload_n 1, 1) := by decide +kernel
theorem dX9_slot_79 : decode cX9_slot 79 = .ok (.iload_n 2, 1) := by decide +kernel
theorem dX9_slot_80 : decode cX9_slot 80 = .ok (.iadd, 1) := by decide +kernel
theorem dX9_slot_81 : decode cX9_slot 81 = .ok (.iconst 1, 1) := by decide +kernel
theorem dX9_slot_82 : decode cX9_slot 82 = .ok (.if_icmp .eq 18, 3) := by decide +kernel
theorem dX9_slot_85 : decode cX9_slot 85 = .ok (.aload_n 0, 1) := by decide +kernel
theorem dX9_slot_86 : decode cX9_slot 86 = .ok (.getfield 7, 3) := by decide +kernel
theorem dX9_slot_89 : decode cX9_slot 89 = .ok (.iconst 1, 1) := by decide +kernel
theorem dX9_slot_90 : decode cX9_slot 90 = .ok (.iaload, 1) := by decide +kernel
theorem dX9_slot_91 : decode cX9_slot 91 = .ok (.iconst 1, 1) := by decide +kernel
theorem dX9_slot_92 : decode cX9_slot 92 = .ok (.if_icmp .ne 12, 3) := by decide +kernel
theorem dX9_slot_95 : decode cX9_slot 95 = .ok (.iload_n 1, 1) := by decide +kernel
theorem dX9_slot_96 : decode cX9_slot 96 = .ok (.iconst 1, 1) := by decide +kernel
theorem dX9_slot_97 : decode cX9_slot 97 = .ok (.if_icmp .ne 7, 3) := by decide +kernel
theorem dX9_slot_100 : decode cX9_slot 100 = .ok (.iload_n 3, 1) := by decide +kernel
theorem dX9_slot_101 : decode cX9_slot 101 = .ok (.goto 4, 3) := by decide +kernel
theorem dX9_slot_104 : decode cX9_slot 104 = .ok (.iconst (-1), 1) := by decide +kernel
theorem dX9_slot_105 : decode cX9_slot 105 = .ok (.putfield 86, 3) := by decide +kernel
theorem dX9_slot_108 : decode cX9_slot 108 = .ok (.iload_n 1, 1) := by decide +kernel
theorem dX9_slot_109 : decode cX9_slot 109 = .ok (.iload_n 2, 1) := by decide +kernel
theorem dX9_slot_110 : decode cX9_slot 110 = .ok (.iadd, 1) := by decide +kernel
theorem dX9_slot_111 : decode cX9_slot 111 = .ok (.ifCond .ne 7, 3) := by decide +kernel
theorem dX9_slot_114 : decode cX9_slot 114 = .ok (.iconst 0, 1) := by decide +kernel
theorem dX9_slot_115 : decode cX9_slot 115 = .ok (.goto 15, 3) := by decide +kernel
theorem dX9_slot_118 : decode cX9_slot 118 = .ok (.aload_n 0, 1) := by decide +kernel
theorem dX9_slot_119 : decode cX9_slot 119 = .ok (.getfield 86, 3) := by decide +kernel
theorem dX9_slot_122 : decode cX9_slot 122 = .ok (.ifCond .lt 7, 3) := by decide +kernel
theorem dX9_slot_125 : decode cX9_slot 125 = .ok (.iconst 1, 1) := by decide +kernel
theorem dX9_slot_126 : decode cX9_slot 126 = .ok (.goto 4, 3) := by decide +kernel
theorem dX9_slot_129 : decode cX9_slot 129 = .ok (.iconst 2, 1) := by decide +kernel
theorem dX9_slot_130 : decode cX9_slot 130 = .ok (.ireturn, 1) := by decide +kernel
theorem dX9_counted_0 : decode cX9_counted 0 = .ok (.aload_n 0, 1) := by decide +kernel
theorem dX9_counted_1 : decode cX9_counted 1 = .ok (.invokevirtual 90, 3) := by decide +kernel
theorem dX9_counted_4 : decode cX9_counted 4 = .ok (.istore_n 1, 1) := by decide +kernel
theorem dX9_counted_5 : decode cX9_counted 5 = .ok (.aload_n 0, 1) := by decide +kernel
theorem dX9_counted_6 : decode cX9_counted 6 = .ok (.getfield 7, 3) := by decide +kernel
theorem dX9_counted_9 : decode cX9_counted 9 = .ok (.bipush 11, 2) := by decide +kernel
theorem dX9_counted_11 : decode cX9_counted 11 = .ok (.iload_n 1, 1) := by decide +kernel
theorem dX9_counted_12 : decode cX9_counted 12 = .ok (.iadd, 1) := by decide +kernel
theorem dX9_counted_13 : decode cX9_counted 13 = .ok (.dup2, 1) := by decide +kernel
theorem dX9_counted_14 : decode cX9_counted 14 = .ok (.iaload, 1) := by decide +kernel
theorem dX9_counted_15 : decode cX9_counted 15 = .ok (.iconst 1, 1) := by decide +kernel
theorem dX9_counted_16 : decode cX9_counted 16 = .ok (.iadd, 1) := by decide +kernel
theorem dX9_counted_17 : decode cX9_counted 17 = .ok (.iastore, 1) := by decide +kernel
theorem dX9_counted_18 : decode cX9_counted 18 = .ok (.iload_n 1, 1) := by decide +kernel
theorem dX9_counted_19 : decode cX9_counted 19 = .ok (.ireturn, 1) := by decide +kernel
theorem dX9_begins_0 : decode cX9_begins 0 = .ok (.iload 4, 2) := by decide +kernel
theorem dX9_begins_2 : decode cX9_begins 2 = .ok (.ifCond .eq 17, 3) := by decide +kernel
theorem dX9_begins_5 : decode cX9_begins 5 = .ok (.lload_n 0, 1) := by decide +kernel
theorem dX9_begins_6 : decode cX9_begins 6 = .ok (.lload_n 2, 1) := by decide +kernel
theorem dX9_begins_7 : decode cX9_begins 7 = .ok (.lxor, 1) := by decide +kernel
theorem dX9_begins_8 : decode cX9_begins 8 = .ok (.bipush 64, 2) := by decide +kernel
theorem dX9_begins_10 : decode cX9_begins 10 = .ok (.iload 4, 2) := by decide +kernel
theorem dX9_begins_12 : decode cX9_begins 12 = .ok (.isub, 1) := by decide +kernel
theorem dX9_begins_13 : decode cX9_begins 13 = .ok (.lushr, 1) := by decide +kernel
theorem dX9_begins_14 : decode cX9_begins 14 = .ok (.lconst 0, 1) := by decide +kernel
theorem dX9_begins_15 : decode cX9_begins 15 = .ok (.lcmp, 1) := by decide +kernel
theorem dX9_begins_16 : decode cX9_begins 16 = .ok (.ifCond .ne 7, 3) := by decide +kernel
theorem dX9_begins_19 : decode cX9_begins 19 = .ok (.iconst 1, 1) := by decide +kernel
theorem dX9_begins_20 : decode cX9_begins 20 = .ok (.goto 4, 3) := by decide +kernel
theorem dX9_begins_23 : decode cX9_begins 23 = .ok (.iconst 0, 1) := by decide +kernel
theorem dX9_begins_24 : decode cX9_begins 24 = .ok (.ireturn, 1) := by decide +kernel
theorem dX9_called_0 : decode cX9_called 0 = .ok (.iconst 0, 1) := by decide +kernel
theorem dX9_called_1 : decode cX9_called 1 = .ok (.istore 4, 2) := by decide +kernel
theorem dX9_called_3 : decode cX9_called 3 = .ok (.iload 4, 2) := by decide +kernel
theorem dX9_called_5 : decode cX9_called 5 = .ok (.aload_n 0, 1) := by decide +kernel
theorem dX9_called_6 : decode cX9_called 6 = .ok (.getfield 7, 3) := by decide +kernel
theorem dX9_called_9 : decode cX9_called 9 = .ok (.iconst 0, 1) := by decide +kernel
theorem dX9_called_10 : decode cX9_called 10 = .ok (.iaload, 1) := by decide +kernel
theorem dX9_called_11 : decode cX9_called 11 = .ok (.if_icmp .ge 59, 3) := by decide +kernel
theorem dX9_called_14 : decode cX9_called 14 = .ok (.aload_n 0, 1) := by decide +kernel
theorem dX9_called_15 : decode cX9_called 15 = .ok (.getfield 24, 3) := by decide +kernel
theorem dX9_called_18 : decode cX9_called 18 = .ok (.iload 4, 2) := by decide +kernel
theorem dX9_called_20 : decode cX9_called 20 = .ok (.aload_n 0, 1) := by decide +kernel
theorem dX9_called_21 : decode cX9_called 21 = .ok (.iload 4, 2) := by decide +kernel
theorem dX9_called_23 : decode cX9_called 23 = .ok (.invokevirtual 62, 3) := by decide +kernel
theorem dX9_called_26 : decode cX9_called 26 = .ok (.ifCond .eq 36, 3) := by decide +kernel
theorem dX9_called_29 : decode cX9_called 29 = .ok (.aload_n 0, 1) := by decide +kernel
theorem dX9_called_30 : decode cX9_called 30 = .ok (.iload 4, 2) := by decide +kernel
theorem dX9_called_32 : decode cX9_called 32 = .ok (.iconst 0, 1) := by decide +kernel
theorem dX9_called_33 : decode cX9_called 33 = .ok (.invokevirtual 44, 3) := by decide +kernel
theorem dX9_called_36 : decode cX9_called 36 = .ok (.iconst 1, 1) := by decide +kernel
theorem dX9_called_37 : decode cX9_called 37 = .ok (.if_icmp .lt 25, 3) := by decide +kernel
theorem dX9_called_40 : decode cX9_called 40 = .ok (.aload_n 0, 1) := by decide +kernel
theorem dX9_called_41 : decode cX9_called 41 = .ok (.getfield 13, 3) := by decide +kernel
theorem dX9_called_44 : decode cX9_called 44 = .ok (.bipush 84, 2) := by decide +kernel
theorem dX9_called_46 : decode cX9_called 46 = .ok (.iload 4, 2) := by decide +kernel
theorem dX9_called_48 : decode cX9_called 48 = .ok (.iadd, 1) := by decide +kernel
theorem dX9_called_49 : decode cX9_called 49 = .ok (.laload, 1) := by decide +kernel
theorem dX9_called_50 : decode cX9_called 50 = .ok (.lload_n 1, 1) := by decide +kernel
theorem dX9_called_51 : decode cX9_called 51 = .ok (.iload_n 3, 1) := by decide +kernel
theorem dX9_called_52 : decode cX9_called 52 = .ok (.invokestatic 93, 3) := by decide +kernel
theorem dX9_called_55 : decode cX9_called 55 = .ok (.ifCond .eq 7, 3) := by decide +kernel
theorem dX9_called_58 : decode cX9_called 58 = .ok (.iconst 1, 1) := by decide +kernel
theorem dX9_called_59 : decode cX9_called 59 = .ok (.goto 4, 3) := by decide +kernel
theorem dX9_called_62 : decode cX9_called 62 = .ok (.iconst 0, 1) := by decide +kernel
theorem dX9_called_63 : decode cX9_called 63 = .ok (.bastore, 1) := by decide +kernel
theorem dX9_called_64 : decode cX9_called 64 = .ok (.iinc 4 1, 3) := by decide +kernel
theorem dX9_called_67 : decode cX9_called 67 = .ok (.goto (-64), 3) := by decide +kernel
theorem dX9_called_70 : decode cX9_called 70 = .ok (.return_, 1) := by decide +kernel
theorem dX9_ask_0 : decode cX9_ask 0 = .ok (.iload_n 3, 1) := by decide +kernel
theorem dX9_ask_1 : decode cX9_ask 1 = .ok (.ifCond .lt 9, 3) := by decide +kernel
theorem dX9_ask_4 : decode cX9_ask 4 = .ok (.iload_n 3, 1) := by decide +kernel
theorem dX9_ask_5 : decode cX9_ask 5 = .ok (.bipush 64, 2) := by decide +kernel
theorem dX9_ask_7 : decode cX9_ask 7 = .ok (.if_icmp .le 5, 3) := by decide +kernel
theorem dX9_ask_10 : decode cX9_ask 10 = .ok (.iconst (-1), 1) := by decide +kernel
theorem dX9_ask_11 : decode cX9_ask 11 = .ok (.ireturn, 1) := by decide +kernel
theorem dX9_ask_12 : decode cX9_ask 12 = .ok (.aload_n 0, 1) := by decide +kernel
theorem dX9_ask_13 : decode cX9_ask 13 = .ok (.lload_n 1, 1) := by decide +kernel
theorem dX9_ask_14 : decode cX9_ask 14 = .ok (.iload_n 3, 1) := by decide +kernel
theorem dX9_ask_15 : decode cX9_ask 15 = .ok (.invokevirtual 97, 3) := by decide +kernel
theorem dX9_ask_18 : decode cX9_ask 18 = .ok (.aload_n 0, 1) := by decide +kernel
theorem dX9_ask_19 : decode cX9_ask 19 = .ok (.invokevirtual 101, 3) := by decide +kernel
theorem dX9_ask_22 : decode cX9_ask 22 = .ok (.istore 4, 2) := by decide +kernel
theorem dX9_ask_24 : decode cX9_ask 24 = .ok (.aload_n 0, 1) := by decide +kernel
theorem dX9_ask_25 : decode cX9_ask 25 = .ok (.getfield 7, 3) := by decide +kernel
theorem dX9_ask_28 : decode cX9_ask 28 = .ok (.bipush 6, 2) := by decide +kernel
theorem dX9_ask_30 : decode cX9_ask 30 = .ok (.aload_n 0, 1) := by decide +kernel
theorem dX9_ask_31 : decode cX9_ask 31 = .ok (.getfield 86, 3) := by decide +kernel
theorem dX9_ask_34 : decode cX9_ask 34 = .ok (.iastore, 1) := by decide +kernel
theorem dX9_ask_35 : decode cX9_ask 35 = .ok (.iload 4, 2) := by decide +kernel
theorem dX9_ask_37 : decode cX9_ask 37 = .ok (.ireturn, 1) := by decide +kernel
theorem dX9_alone_0 : decode cX9_alone 0 = .ok (.aload_n 0, 1) := by decide +kernel
theorem dX9_alone_1 : decode cX9_alone 1 = .ok (.getfield 7, 3) := by decide +kernel
theorem dX9_alone_4 : decode cX9_alone 4 = .ok (.bipush 6, 2) := by decide +kernel
theorem dX9_alone_6 : decode cX9_alone 6 = .ok (.iaload, 1) := by decide +kernel
theorem dX9_alone_7 : decode cX9_alone 7 = .ok (.ireturn, 1) := by decide +kernel
theorem dX9_piles_0 : decode cX9_piles 0 = .ok (.aload_n 0, 1) := by decide +kernel
theorem dX9_piles_1 : decode cX9_piles 1 = .ok (.getfield 13, 3) := by decide +kernel
theorem dX9_piles_4 : decode cX9_piles 4 = .ok (.iconst 4, 1) := by decide +kernel
theorem dX9_piles_5 : decode cX9_piles 5 = .ok (.aload_n 0, 1) := by decide +kernel
theorem dX9_piles_6 : decode cX9_piles 6 = .ok (.getfield 7, 3) := by decide +kernel
theorem dX9_piles_9 : decode cX9_piles 9 = .ok (.iconst 4, 1) := by decide +kernel
theorem dX9_piles_10 : decode cX9_piles 10 = .ok (.iaload, 1) := by decide +kernel
theorem dX9_piles_11 : decode cX9_piles 11 = .ok (.iadd, 1) := by decide +kernel
theorem dX9_piles_12 : decode cX9_piles 12 = .ok (.lload_n 1, 1) := by decide +kernel
theorem dX9_piles_13 : decode cX9_piles 13 = .ok (.lastore, 1) := by decide +kernel
theorem dX9_piles_14 : decode cX9_piles 14 = .ok (.aload_n 0, 1) := by decide +kernel
theorem dX9_piles_15 : decode cX9_piles 15 = .ok (.getfield 7, 3) := by decide +kernel
theorem dX9_piles_18 : decode cX9_piles 18 = .ok (.bipush 20, 2) := by decide +kernel
theorem dX9_piles_20 : decode cX9_piles 20 = .ok (.aload_n 0, 1) := by decide +kernel
theorem dX9_piles_21 : decode cX9_piles 21 = .ok (.getfield 7, 3) := by decide +kernel
theorem dX9_piles_24 : decode cX9_piles 24 = .ok (.iconst 4, 1) := by decide +kernel
theorem dX9_piles_25 : decode cX9_piles 25 = .ok (.iaload, 1) := by decide +kernel
theorem dX9_piles_26 : decode cX9_piles 26 = .ok (.iadd, 1) := by decide +kernel
theorem dX9_piles_27 : decode cX9_piles 27 = .ok (.iload_n 3, 1) := by decide +kernel
theorem dX9_piles_28 : decode cX9_piles 28 = .ok (.iastore, 1) := by decide +kernel
theorem dX9_piles_29 : decode cX9_piles 29 = .ok (.aload_n 0, 1) := by decide +kernel
theorem dX9_piles_30 : decode cX9_piles 30 = .ok (.getfield 7, 3) := by decide +kernel
theorem dX9_piles_33 : decode cX9_piles 33 = .ok (.iconst 4, 1) := by decide +kernel
theorem dX9_piles_34 : decode cX9_piles 34 = .ok (.dup2, 1) := by decide +kernel
theorem dX9_piles_35 : decode cX9_piles 35 = .ok (.iaload, 1) := by decide +kernel
theorem dX9_piles_36 : decode cX9_piles 36 = .ok (.iconst 1, 1) := by decide +kernel
theorem dX9_piles_37 : decode cX9_piles 37 = .ok (.iadd, 1) := by decide +kernel
theorem dX9_piles_38 : decode cX9_piles 38 = .ok (.iastore, 1) := by decide +kernel
theorem dX9_piles_39 : decode cX9_piles 39 = .ok (.return_, 1) := by decide +kernel
theorem dX9_descend_0 : decode cX9_descend 0 = .ok (.aload_n 0, 1) := by decide +kernel
theorem dX9_descend_1 : decode cX9_descend 1 = .ok (.getfield 7, 3) := by decide +kernel
theorem dX9_descend_4 : decode cX9_descend 4 = .ok (.iconst 4, 1) := by decide +kernel
theorem dX9_descend_5 : decode cX9_descend 5 = .ok (.iconst 0, 1) := by decide +kernel
theorem dX9_descend_6 : decode cX9_descend 6 = .ok (.iastore, 1) := by decide +kernel
theorem dX9_descend_7 : decode cX9_descend 7 = .ok (.aload_n 0, 1) := by decide +kernel
theorem dX9_descend_8 : decode cX9_descend 8 = .ok (.lconst 0, 1) := by decide +kernel
theorem dX9_descend_9 : decode cX9_descend 9 = .ok (.iconst 0, 1) := by decide +kernel
theorem dX9_descend_10 : decode cX9_descend 10 = .ok (.invokevirtual 104, 3) := by decide +kernel
theorem dX9_descend_13 : decode cX9_descend 13 = .ok (.return_, 1) := by decide +kernel
theorem dX9_step_0 : decode cX9_step 0 = .ok (.aload_n 0, 1) := by decide +kernel
theorem dX9_step_1 : decode cX9_step 1 = .ok (.getfield 7, 3) := by decide +kernel
theorem dX9_step_4 : decode cX9_step 4 = .ok (.iconst 4, 1) := by decide +kernel
theorem dX9_step_5 : decode cX9_step 5 = .ok (.iaload, 1) := by decide +kernel
theorem dX9_step_6 : decode cX9_step 6 = .ok (.ifCond .ne 5, 3) := by decide +kernel
theorem dX9_step_9 : decode cX9_step 9 = .ok (.iconst (-1), 1) := by decide +kernel
theorem dX9_step_10 : decode cX9_step 10 = .ok (.ireturn, 1) := by decide +kernel
theorem dX9_step_11 : decode cX9_step 11 = .ok (.aload_n 0, 1) := by decide +kernel
theorem dX9_step_12 : decode cX9_step 12 = .ok (.getfield 7, 3) := by decide +kernel
theorem dX9_step_15 : decode cX9_step 15 = .ok (.iconst 4, 1) := by decide +kernel
theorem dX9_step_16 : decode cX9_step 16 = .ok (.dup2, 1) := by decide +kernel
theorem dX9_step_17 : decode cX9_step 17 = .ok (.iaload, 1) := by decide +kernel
theorem dX9_step_18 : decode cX9_step 18 = .ok (.iconst 1, 1) := by decide +kernel
theorem dX9_step_19 : decode cX9_step 19 = .ok (.isub, 1) := by decide +kernel
theorem dX9_step_20 : decode cX9_step 20 = .ok (.iastore, 1) := by decide +kernel
theorem dX9_step_21 : decode cX9_step 21 = .ok (.aload_n 0, 1) := by decide +kernel
theorem dX9_step_22 : decode cX9_step 22 = .ok (.getfield 13, 3) := by decide +kernel
theorem dX9_step_25 : decode cX9_step 25 = .ok (.iconst 4, 1) := by decide +kernel
theorem dX9_step_26 : decode cX9_step 26 = .ok (.aload_n 0, 1) := by decide +kernel
theorem dX9_step_27 : decode cX9_step 27 = .ok (.getfield 7, 3) := by decide +kernel
theorem dX9_step_30 : decode cX9_step 30 = .ok (.iconst 4, 1) := by decide +kernel
theorem dX9_step_31 : decode cX9_step 31 = .ok (.iaload, 1) := by decide +kernel
theorem dX9_step_32 : decode cX9_step 32 = .ok (.iadd, 1) := by decide +kernel
theorem dX9_step_33 : decode cX9_step 33 = .ok (.laload, 1) := by decide +kernel
theorem dX9_step_34 : decode cX9_step 34 = .ok (.lstore_n 1, 1) := by decide +kernel
theorem dX9_step_35 : decode cX9_step 35 = .ok (.aload_n 0, 1) := by decide +kernel
theorem dX9_step_36 : decode cX9_step 36 = .ok (.getfield 7, 3) := by decide +kernel
theorem dX9_step_39 : decode cX9_step 39 = .ok (.bipush 20, 2) := by decide +kernel
theorem dX9_step_41 : decode cX9_step 41 = .ok (.aload_n 0, 1) := by decide +kernel
theorem dX9_step_42 : decode cX9_step 42 = .ok (.getfield 7, 3) := by decide +kernel
theorem dX9_step_45 : decode cX9_step 45 = .ok (.iconst 4, 1) := by decide +kernel
theorem dX9_step_46 : decode cX9_step 46 = .ok (.iaload, 1) := by decide +kernel
theorem dX9_step_47 : decode cX9_step 47 = .ok (.iadd, 1) := by decide +kernel
theorem dX9_step_48 : decode cX9_step 48 = .ok (.iaload, 1) := by decide +kernel
theorem dX9_step_49 : decode cX9_step 49 = .ok (.istore_n 3, 1) := by decide +kernel
theorem dX9_step_50 : decode cX9_step 50 = .ok (.aload_n 0, 1) := by decide +kernel
theorem dX9_step_51 : decode cX9_step 51 = .ok (.lload_n 1, 1) := by decide +kernel
theorem dX9_step_52 : decode cX9_step 52 = .ok (.iload_n 3, 1) := by decide +kernel
theorem dX9_step_53 : decode cX9_step 53 = .ok (.invokevirtual 97, 3) := by decide +kernel
theorem dX9_step_56 : decode cX9_step 56 = .ok (.aload_n 0, 1) := by decide +kernel
theorem dX9_step_57 : decode cX9_step 57 = .ok (.invokevirtual 101, 3) := by decide +kernel
theorem dX9_step_60 : decode cX9_step 60 = .ok (.istore 4, 2) := by decide +kernel
theorem dX9_step_62 : decode cX9_step 62 = .ok (.aload_n 0, 1) := by decide +kernel
theorem dX9_step_63 : decode cX9_step 63 = .ok (.getfield 7, 3) := by decide +kernel
theorem dX9_step_66 : decode cX9_step 66 = .ok (.bipush 6, 2) := by decide +kernel
theorem dX9_step_68 : decode cX9_step 68 = .ok (.aload_n 0, 1) := by decide +kernel
theorem dX9_step_69 : decode cX9_step 69 = .ok (.getfield 86, 3) := by decide +kernel
theorem dX9_step_72 : decode cX9_step 72 = .ok (.iastore, 1) := by decide +kernel
theorem dX9_step_73 : decode cX9_step 73 = .ok (.iload 4, 2) := by decide +kernel
theorem dX9_step_75 : decode cX9_step 75 = .ok (.iconst 1, 1) := by decide +kernel
theorem dX9_step_76 : decode cX9_step 76 = .ok (.if_icmp .ne 11, 3) := by decide +kernel
theorem dX9_step_79 : decode cX9_step 79 = .ok (.aload_n 0, 1) := by decide +kernel
theorem dX9_step_80 : decode cX9_step 80 = .ok (.aload_n 0, 1) := by decide +kernel
theorem dX9_step_81 : decode cX9_step 81 = .ok (.getfield 86, 3) := by decide +kernel
theorem dX9_step_84 : decode cX9_step 84 = .ok (.invokevirtual 82, 3) := by decide +kernel
theorem dX9_step_87 : decode cX9_step 87 = .ok (.iload 4, 2) := by decide +kernel
theorem dX9_step_89 : decode cX9_step 89 = .ok (.iconst 2, 1) := by decide +kernel
theorem dX9_step_90 : decode cX9_step 90 = .ok (.if_icmp .ne 32, 3) := by decide +kernel
theorem dX9_step_93 : decode cX9_step 93 = .ok (.iload_n 3, 1) := by decide +kernel
theorem dX9_step_94 : decode cX9_step 94 = .ok (.bipush 64, 2) := by decide +kernel
theorem dX9_step_96 : decode cX9_step 96 = .ok (.if_icmp .ge 26, 3) := by decide +kernel
theorem dX9_step_99 : decode cX9_step 99 = .ok (.aload_n 0, 1) := by decide +kernel
theorem dX9_step_100 : decode cX9_step 100 = .ok (.lload_n 1, 1) := by decide +kernel
theorem dX9_step_101 : decode cX9_step 101 = .ok (.lconst 1, 1) := by decide +kernel
theorem dX9_step_102 : decode cX9_step 102 = .ok (.bipush 63, 2) := by decide +kernel
theorem dX9_step_104 : decode cX9_step 104 = .ok (.iload_n 3, 1) := by decide +kernel
theorem dX9_step_105 : decode cX9_step 105 = .ok (.isub, 1) := by decide +kernel
theorem dX9_step_106 : decode cX9_step 106 = .ok (.lshl, 1) := by decide +kernel
theorem dX9_step_107 : decode cX9_step 107 = .ok (.lor, 1) := by decide +kernel
theorem dX9_step_108 : decode cX9_step 108 = .ok (.iload_n 3, 1) := by decide +kernel
theorem dX9_step_109 : decode cX9_step 109 = .ok (.iconst 1, 1) := by decide +kernel
theorem dX9_step_110 : decode cX9_step 110 = .ok (.iadd, 1) := by decide +kernel
theorem dX9_step_111 : decode cX9_step 111 = .ok (.invokevirtual 104, 3) := by decide +kernel
theorem dX9_step_114 : decode cX9_step 114 = .ok (.aload_n 0, 1) := by decide +kernel
theorem dX9_step_115 : decode cX9_step 115 = .ok (.lload_n 1, 1) := by decide +kernel
theorem dX9_step_116 : decode cX9_step 116 = .ok (.iload_n 3, 1) := by decide +kernel
theorem dX9_step_117 : decode cX9_step 117 = .ok (.iconst 1, 1) := by decide +kernel
theorem dX9_step_118 : decode cX9_step 118 = .ok (.iadd, 1) := by decide +kernel
theorem dX9_step_119 : decode cX9_step 119 = .ok (.invokevirtual 104, 3) := by decide +kernel
theorem dX9_step_122 : decode cX9_step 122 = .ok (.iload 4, 2) := by decide +kernel
theorem dX9_step_124 : decode cX9_step 124 = .ok (.ireturn, 1) := by decide +kernel
theorem dX9_nodes_0 : decode cX9_nodes 0 = .ok (.iconst 0, 1) := by decide +kernel
theorem dX9_nodes_1 : decode cX9_nodes 1 = .ok (.istore_n 1, 1) := by decide +kernel
theorem dX9_nodes_2 : decode cX9_nodes 2 = .ok (.iconst 1, 1) := by decide +kernel
theorem dX9_nodes_3 : decode cX9_nodes 3 = .ok (.istore_n 2, 1) := by decide +kernel
theorem dX9_nodes_4 : decode cX9_nodes 4 = .ok (.aload_n 0, 1) := by decide +kernel
theorem dX9_nodes_5 : decode cX9_nodes 5 = .ok (.getfield 27, 3) := by decide +kernel
theorem dX9_nodes_8 : decode cX9_nodes 8 = .ok (.iconst 0, 1) := by decide +kernel
theorem dX9_nodes_9 : decode cX9_nodes 9 = .ok (.lconst 0, 1) := by decide +kernel
theorem dX9_nodes_10 : decode cX9_nodes 10 = .ok (.lastore, 1) := by decide +kernel
theorem dX9_nodes_11 : decode cX9_nodes 11 = .ok (.aload_n 0, 1) := by decide +kernel
theorem dX9_nodes_12 : decode cX9_nodes 12 = .ok (.getfield 30, 3) := by decide +kernel
theorem dX9_nodes_15 : decode cX9_nodes 15 = .ok (.iconst 0, 1) := by decide +kernel
theorem dX9_nodes_16 : decode cX9_nodes 16 = .ok (.iconst 0, 1) := by decide +kernel
theorem dX9_nodes_17 : decode cX9_nodes 17 = .ok (.iastore, 1) := by decide +kernel
theorem dX9_nodes_18 : decode cX9_nodes 18 = .ok (.iload_n 2, 1) := by decide +kernel
theorem dX9_nodes_19 : decode cX9_nodes 19 = .ok (.ifCond .le 101, 3) := by decide +kernel
theorem dX9_nodes_22 : decode cX9_nodes 22 = .ok (.iinc 2 (-1), 3) := by decide +kernel
theorem dX9_nodes_25 : decode cX9_nodes 25 = .ok (.aload_n 0, 1) := by decide +kernel
theorem dX9_nodes_26 : decode cX9_nodes 26 = .ok (.getfield 27, 3) := by decide +kernel
theorem dX9_nodes_29 : decode cX9_nodes 29 = .ok (.iload_n 2, 1) := by decide +kernel
theorem dX9_nodes_30 : decode cX9_nodes 30 = .ok (.laload, 1) := by decide +kernel
theorem dX9_nodes_31 : decode cX9_nodes 31 = .ok (.lstore_n 3, 1) := by decide +kernel
theorem dX9_nodes_32 : decode cX9_nodes 32 = .ok (.aload_n 0, 1) := by decide +kernel
theorem dX9_nodes_33 : decode cX9_nodes 33 = .ok (.getfield 30, 3) := by decide +kernel
theorem dX9_nodes_36 : decode cX9_nodes 36 = .ok (.iload_n 2, 1) := by decide +kernel
theorem dX9_nodes_37 : decode cX9_nodes 37 = .ok (.iaload, 1) := by decide +kernel
theorem dX9_nodes_38 : decode cX9_nodes 38 = .ok (.istore 5, 2) := by decide +kernel
theorem dX9_nodes_40 : decode cX9_nodes 40 = .ok (.iinc 1 1, 3) := by decide +kernel
theorem dX9_nodes_43 : decode cX9_nodes 43 = .ok (.aload_n 0, 1) := by decide +kernel
theorem dX9_nodes_44 : decode cX9_nodes 44 = .ok (.lload_n 3, 1) := by decide +kernel
theorem dX9_nodes_45 : decode cX9_nodes 45 = .ok (.iload 5, 2) := by decide +kernel
theorem dX9_nodes_47 : decode cX9_nodes 47 = .ok (.invokevirtual 97, 3) := by decide +kernel
theorem dX9_nodes_50 : decode cX9_nodes 50 = .ok (.aload_n 0, 1) := by decide +kernel
theorem dX9_nodes_51 : decode cX9_nodes 51 = .ok (.invokevirtual 90, 3) := by decide +kernel
theorem dX9_nodes_54 : decode cX9_nodes 54 = .ok (.iconst 2, 1) := by decide +kernel
theorem dX9_nodes_55 : decode cX9_nodes 55 = .ok (.if_icmp .ne (-37), 3) := by decide +kernel
theorem dX9_nodes_58 : decode cX9_nodes 58 = .ok (.iload 5, 2) := by decide +kernel
theorem dX9_nodes_60 : decode cX9_nodes 60 = .ok (.bipush 64, 2) := by decide +kernel
theorem dX9_nodes_62 : decode cX9_nodes 62 = .ok (.if_icmp .ne 6, 3) := by decide +kernel
theorem dX9_nodes_65 : decode cX9_nodes 65 = .ok (.goto (-47), 3) := by decide +kernel
theorem dX9_nodes_68 : decode cX9_nodes 68 = .ok (.aload_n 0, 1) := by decide +kernel
theorem dX9_nodes_69 : decode cX9_nodes 69 = .ok (.getfield 27, 3) := by decide +kernel
theorem dX9_nodes_72 : decode cX9_nodes 72 = .ok (.iload_n 2, 1) := by decide +kernel
theorem dX9_nodes_73 : decode cX9_nodes 73 = .ok (.lload_n 3, 1) := by decide +kernel
theorem dX9_nodes_74 : decode cX9_nodes 74 = .ok (.lconst 1, 1) := by decide +kernel
theorem dX9_nodes_75 : decode cX9_nodes 75 = .ok (.bipush 63, 2) := by decide +kernel
theorem dX9_nodes_77 : decode cX9_nodes 77 = .ok (.iload 5, 2) := by decide +kernel
theorem dX9_nodes_79 : decode cX9_nodes 79 = .ok (.isub, 1) := by decide +kernel
theorem dX9_nodes_80 : decode cX9_nodes 80 = .ok (.lshl, 1) := by decide +kernel
theorem dX9_nodes_81 : decode cX9_nodes 81 = .ok (.lor, 1) := by decide +kernel
theorem dX9_nodes_82 : decode cX9_nodes 82 = .ok (.lastore, 1) := by decide +kernel
theorem dX9_nodes_83 : decode cX9_nodes 83 = .ok (.aload_n 0, 1) := by decide +kernel
theorem dX9_nodes_84 : decode cX9_nodes 84 = .ok (.getfield 30, 3) := by decide +kernel
theorem dX9_nodes_87 : decode cX9_nodes 87 = .ok (.iload_n 2, 1) := by decide +kernel
theorem dX9_nodes_88 : decode cX9_nodes 88 = .ok (.iload 5, 2) := by decide +kernel
theorem dX9_nodes_90 : decode cX9_nodes 90 = .ok (.iconst 1, 1) := by decide +kernel
theorem dX9_nodes_91 : decode cX9_nodes 91 = .ok (.iadd, 1) := by decide +kernel
theorem dX9_nodes_92 : decode cX9_nodes 92 = .ok (.iastore, 1) := by decide +kernel
theorem dX9_nodes_93 : decode cX9_nodes 93 = .ok (.aload_n 0, 1) := by decide +kernel
theorem dX9_nodes_94 : decode cX9_nodes 94 = .ok (.getfield 27, 3) := by decide +kernel
theorem dX9_nodes_97 : decode cX9_nodes 97 = .ok (.iload_n 2, 1) := by decide +kernel
theorem dX9_nodes_98 : decode cX9_nodes 98 = .ok (.iconst 1, 1) := by decide +kernel
theorem dX9_nodes_99 : decode cX9_nodes 99 = .ok (.iadd, 1) := by decide +kernel
theorem dX9_nodes_100 : decode cX9_nodes 100 = .ok (.lload_n 3, 1) := by decide +kernel
theorem dX9_nodes_101 : decode cX9_nodes 101 = .ok (.lastore, 1) := by decide +kernel
theorem dX9_nodes_102 : decode cX9_nodes 102 = .ok (.aload_n 0, 1) := by decide +kernel
theorem dX9_nodes_103 : decode cX9_nodes 103 = .ok (.getfield 30, 3) := by decide +kernel
theorem dX9_nodes_106 : decode cX9_nodes 106 = .ok (.iload_n 2, 1) := by decide +kernel
theorem dX9_nodes_107 : decode cX9_nodes 107 = .ok (.iconst 1, 1) := by decide +kernel
theorem dX9_nodes_108 : decode cX9_nodes 108 = .ok (.iadd, 1) := by decide +kernel
theorem dX9_nodes_109 : decode cX9_nodes 109 = .ok (.iload 5, 2) := by decide +kernel
theorem dX9_nodes_111 : decode cX9_nodes 111 = .ok (.iconst 1, 1) := by decide +kernel
theorem dX9_nodes_112 : decode cX9_nodes 112 = .ok (.iadd, 1) := by decide +kernel
theorem dX9_nodes_113 : decode cX9_nodes 113 = .ok (.iastore, 1) := by decide +kernel
theorem dX9_nodes_114 : decode cX9_nodes 114 = .ok (.iinc 2 2, 3) := by decide +kernel
theorem dX9_nodes_117 : decode cX9_nodes 117 = .ok (.goto (-99), 3) := by decide +kernel
theorem dX9_nodes_120 : decode cX9_nodes 120 = .ok (.iload_n 1, 1) := by decide +kernel
theorem dX9_nodes_121 : decode cX9_nodes 121 = .ok (.ireturn, 1) := by decide +kernel
theorem dX9_splits_0 : decode cX9_splits 0 = .ok (.aload_n 0, 1) := by decide +kernel
theorem dX9_splits_1 : decode cX9_splits 1 = .ok (.iload_n 1, 1) := by decide +kernel
theorem dX9_splits_2 : decode cX9_splits 2 = .ok (.iconst 0, 1) := by decide +kernel
theorem dX9_splits_3 : decode cX9_splits 3 = .ok (.invokevirtual 44, 3) := by decide +kernel
theorem dX9_splits_6 : decode cX9_splits 6 = .ok (.iconst 3, 1) := by decide +kernel
theorem dX9_splits_7 : decode cX9_splits 7 = .ok (.if_icmp .eq 13, 3) := by decide +kernel
theorem dX9_splits_10 : decode cX9_splits 10 = .ok (.aload_n 0, 1) := by decide +kernel
theorem dX9_splits_11 : decode cX9_splits 11 = .ok (.iload_n 1, 1) := by decide +kernel
theorem dX9_splits_12 : decode cX9_splits 12 = .ok (.iconst 0, 1) := by decide +kernel
theorem dX9_splits_13 : decode cX9_splits 13 = .ok (.invokevirtual 44, 3) := by decide +kernel
theorem dX9_splits_16 : decode cX9_splits 16 = .ok (.iconst 4, 1) := by decide +kernel
theorem dX9_splits_17 : decode cX9_splits 17 = .ok (.if_icmp .ne 15, 3) := by decide +kernel
theorem dX9_splits_20 : decode cX9_splits 20 = .ok (.aload_n 0, 1) := by decide +kernel
theorem dX9_splits_21 : decode cX9_splits 21 = .ok (.iload_n 1, 1) := by decide +kernel
theorem dX9_splits_22 : decode cX9_splits 22 = .ok (.invokevirtual 62, 3) := by decide +kernel
theorem dX9_splits_25 : decode cX9_splits 25 = .ok (.ifCond .eq 7, 3) := by decide +kernel
theorem dX9_splits_28 : decode cX9_splits 28 = .ok (.iconst 1, 1) := by decide +kernel
theorem dX9_splits_29 : decode cX9_splits 29 = .ok (.goto 4, 3) := by decide +kernel
theorem dX9_splits_32 : decode cX9_splits 32 = .ok (.iconst 0, 1) := by decide +kernel
theorem dX9_splits_33 : decode cX9_splits 33 = .ok (.ireturn, 1) := by decide +kernel
theorem dX9_begin_0 : decode cX9_begin 0 = .ok (.aload_n 0, 1) := by decide +kernel
theorem dX9_begin_1 : decode cX9_begin 1 = .ok (.getfield 7, 3) := by decide +kernel
theorem dX9_begin_4 : decode cX9_begin 4 = .ok (.iconst 5, 1) := by decide +kernel
theorem dX9_begin_5 : decode cX9_begin 5 = .ok (.iconst 0, 1) := by decide +kernel
theorem dX9_begin_6 : decode cX9_begin 6 = .ok (.iastore, 1) := by decide +kernel
theorem dX9_begin_7 : decode cX9_begin 7 = .ok (.iconst 0, 1) := by decide +kernel
theorem dX9_begin_8 : decode cX9_begin 8 = .ok (.istore_n 1, 1) := by decide +kernel
theorem dX9_begin_9 : decode cX9_begin 9 = .ok (.iconst 0, 1) := by decide +kernel
theorem dX9_begin_10 : decode cX9_begin 10 = .ok (.istore_n 2, 1) := by decide +kernel
theorem dX9_begin_11 : decode cX9_begin 11 = .ok (.iload_n 2, 1) := by decide +kernel
theorem dX9_begin_12 : decode cX9_begin 12 = .ok (.aload_n 0, 1) := by decide +kernel
theorem dX9_begin_13 : decode cX9_begin 13 = .ok (.getfield 7, 3) := by decide +kernel
theorem dX9_begin_16 : decode cX9_begin 16 = .ok (.iconst 0, 1) := by decide +kernel
theorem dX9_begin_17 : decode cX9_begin 17 = .ok (.iaload, 1) := by decide +kernel
theorem dX9_begin_18 : decode cX9_begin 18 = .ok (.if_icmp .ge 44, 3) := by decide +kernel
theorem dX9_begin_21 : decode cX9_begin 21 = .ok (.aload_n 0, 1) := by decide +kernel
theorem dX9_begin_22 : decode cX9_begin 22 = .ok (.iload_n 2, 1) := by decide +kernel
theorem dX9_begin_23 : decode cX9_begin 23 = .ok (.iconst 3, 1) := by decide +kernel
theorem dX9_begin_24 : decode cX9_begin 24 = .ok (.aload_n 0, 1) := by decide +kernel
theorem dX9_begin_25 : decode cX9_begin 25 = .ok (.iload_n 2, 1) := by decide +kernel
theorem dX9_begin_26 : decode cX9_begin 26 = .ok (.invokevirtual 107, 3) := by decide +kernel
theorem dX9_begin_29 : decode cX9_begin 29 = .ok (.ifCond .eq 7, 3) := by decide +kernel
theorem dX9_begin_32 : decode cX9_begin 32 = .ok (.iconst 0, 1) := by decide +kernel
theorem dX9_begin_33 : decode cX9_begin 33 = .ok (.goto 4, 3) := by decide +kernel
theorem dX9_begin_36 : decode cX9_begin 36 = .ok (.iconst (-1), 1) := by decide +kernel
theorem dX9_begin_37 : decode cX9_begin 37 = .ok (.invokevirtual 52, 3) := by decide +kernel
theorem dX9_begin_40 : decode cX9_begin 40 = .ok (.iload_n 1, 1) := by decide +kernel
theorem dX9_begin_41 : decode cX9_begin 41 = .ok (.aload_n 0, 1) := by decide +kernel
theorem dX9_begin_42 : decode cX9_begin 42 = .ok (.iload_n 2, 1) := by decide +kernel
theorem dX9_begin_43 : decode cX9_begin 43 = .ok (.invokevirtual 107, 3) := by decide +kernel
theorem dX9_begin_46 : decode cX9_begin 46 = .ok (.ifCond .eq 7, 3) := by decide +kernel
theorem dX9_begin_49 : decode cX9_begin 49 = .ok (.iconst 1, 1) := by decide +kernel
theorem dX9_begin_50 : decode cX9_begin 50 = .ok (.goto 4, 3) := by decide +kernel
theorem dX9_begin_53 : decode cX9_begin 53 = .ok (.iconst 0, 1) := by decide +kernel
theorem dX9_begin_54 : decode cX9_begin 54 = .ok (.iadd, 1) := by decide +kernel
theorem dX9_begin_55 : decode cX9_begin 55 = .ok (.istore_n 1, 1) := by decide +kernel
theorem dX9_begin_56 : decode cX9_begin 56 = .ok (.iinc 2 1, 3) := by decide +kernel
theorem dX9_begin_59 : decode cX9_begin 59 = .ok (.goto (-48), 3) := by decide +kernel
theorem dX9_begin_62 : decode cX9_begin 62 = .ok (.iload_n 1, 1) := by decide +kernel
theorem dX9_begin_63 : decode cX9_begin 63 = .ok (.ireturn, 1) := by decide +kernel
theorem dX9_draw_0 : decode cX9_draw 0 = .ok (.aload_n 0, 1) := by decide +kernel
theorem dX9_draw_1 : decode cX9_draw 1 = .ok (.iload_n 1, 1) := by decide +kernel
theorem dX9_draw_2 : decode cX9_draw 2 = .ok (.iconst 4, 1) := by decide +kernel
theorem dX9_draw_3 : decode cX9_draw 3 = .ok (.invokevirtual 44, 3) := by decide +kernel
theorem dX9_draw_6 : decode cX9_draw 6 = .ok (.ldc 110, 2) := by decide +kernel
theorem dX9_draw_8 : decode cX9_draw 8 = .ok (.imul, 1) := by decide +kernel
theorem dX9_draw_9 : decode cX9_draw 9 = .ok (.sipush 12345, 3) := by decide +kernel
theorem dX9_draw_12 : decode cX9_draw 12 = .ok (.iadd, 1) := by decide +kernel
theorem dX9_draw_13 : decode cX9_draw 13 = .ok (.istore_n 3, 1) := by decide +kernel
theorem dX9_draw_14 : decode cX9_draw 14 = .ok (.aload_n 0, 1) := by decide +kernel
theorem dX9_draw_15 : decode cX9_draw 15 = .ok (.iload_n 1, 1) := by decide +kernel
theorem dX9_draw_16 : decode cX9_draw 16 = .ok (.iconst 4, 1) := by decide +kernel
theorem dX9_draw_17 : decode cX9_draw 17 = .ok (.iload_n 3, 1) := by decide +kernel
theorem dX9_draw_18 : decode cX9_draw 18 = .ok (.invokevirtual 52, 3) := by decide +kernel
theorem dX9_draw_21 : decode cX9_draw 21 = .ok (.iload_n 3, 1) := by decide +kernel
theorem dX9_draw_22 : decode cX9_draw 22 = .ok (.bipush 16, 2) := by decide +kernel
theorem dX9_draw_24 : decode cX9_draw 24 = .ok (.iushr, 1) := by decide +kernel
theorem dX9_draw_25 : decode cX9_draw 25 = .ok (.iload_n 2, 1) := by decide +kernel
theorem dX9_draw_26 : decode cX9_draw 26 = .ok (.irem, 1) := by decide +kernel
theorem dX9_draw_27 : decode cX9_draw 27 = .ok (.ireturn, 1) := by decide +kernel
theorem dX9_sleeps_0 : decode cX9_sleeps 0 = .ok (.aload_n 0, 1) := by decide +kernel
theorem dX9_sleeps_1 : decode cX9_sleeps 1 = .ok (.iload_n 1, 1) := by decide +kernel
theorem dX9_sleeps_2 : decode cX9_sleeps 2 = .ok (.iconst 0, 1) := by decide +kernel
theorem dX9_sleeps_3 : decode cX9_sleeps 3 = .ok (.invokevirtual 44, 3) := by decide +kernel
theorem dX9_sleeps_6 : decode cX9_sleeps 6 = .ok (.iconst 4, 1) := by decide +kernel
theorem dX9_sleeps_7 : decode cX9_sleeps 7 = .ok (.if_icmp .ne 10, 3) := by decide +kernel
theorem dX9_sleeps_10 : decode cX9_sleeps 10 = .ok (.aload_n 0, 1) := by decide +kernel
theorem dX9_sleeps_11 : decode cX9_sleeps 11 = .ok (.iload_n 1, 1) := by decide +kernel
theorem dX9_sleeps_12 : decode cX9_sleeps 12 = .ok (.iconst 2, 1) := by decide +kernel
theorem dX9_sleeps_13 : decode cX9_sleeps 13 = .ok (.iconst 0, 1) := by decide +kernel
theorem dX9_sleeps_14 : decode cX9_sleeps 14 = .ok (.invokevirtual 52, 3) := by decide +kernel
theorem dX9_sleeps_17 : decode cX9_sleeps 17 = .ok (.return_, 1) := by decide +kernel
theorem dX9_split_0 : decode cX9_split 0 = .ok (.aload_n 0, 1) := by decide +kernel
theorem dX9_split_1 : decode cX9_split 1 = .ok (.getfield 7, 3) := by decide +kernel
theorem dX9_split_4 : decode cX9_split 4 = .ok (.iconst 5, 1) := by decide +kernel
theorem dX9_split_5 : decode cX9_split 5 = .ok (.iaload, 1) := by decide +kernel
theorem dX9_split_6 : decode cX9_split 6 = .ok (.ifCond .ge 5, 3) := by decide +kernel
theorem dX9_split_9 : decode cX9_split 9 = .ok (.iconst (-1), 1) := by decide +kernel
theorem dX9_split_10 : decode cX9_split 10 = .ok (.ireturn, 1) := by decide +kernel
theorem dX9_split_11 : decode cX9_split 11 = .ok (.iconst 0, 1) := by decide +kernel
theorem dX9_split_12 : decode cX9_split 12 = .ok (.istore_n 1, 1) := by decide +kernel
theorem dX9_split_13 : decode cX9_split 13 = .ok (.iload_n 1, 1) := by decide +kernel
theorem dX9_split_14 : decode cX9_split 14 = .ok (.aload_n 0, 1) := by decide +kernel
theorem dX9_split_15 : decode cX9_split 15 = .ok (.getfield 7, 3) := by decide +kernel
theorem dX9_split_18 : decode cX9_split 18 = .ok (.iconst 0, 1) := by decide +kernel
theorem dX9_split_19 : decode cX9_split 19 = .ok (.iaload, 1) := by decide +kernel
theorem dX9_split_20 : decode cX9_split 20 = .ok (.if_icmp .ge 37, 3) := by decide +kernel
theorem dX9_split_23 : decode cX9_split 23 = .ok (.aload_n 0, 1) := by decide +kernel
theorem dX9_split_24 : decode cX9_split 24 = .ok (.getfield 24, 3) := by decide +kernel
theorem dX9_split_27 : decode cX9_split 27 = .ok (.iload_n 1, 1) := by decide +kernel
theorem dX9_split_28 : decode cX9_split 28 = .ok (.aload_n 0, 1) := by decide +kernel
theorem dX9_split_29 : decode cX9_split 29 = .ok (.iload_n 1, 1) := by decide +kernel
theorem dX9_split_30 : decode cX9_split 30 = .ok (.invokevirtual 107, 3) := by decide +kernel
theorem dX9_split_33 : decode cX9_split 33 = .ok (.ifCond .eq 16, 3) := by decide +kernel
theorem dX9_split_36 : decode cX9_split 36 = .ok (.aload_n 0, 1) := by decide +kernel
theorem dX9_split_37 : decode cX9_split 37 = .ok (.iload_n 1, 1) := by decide +kernel
theorem dX9_split_38 : decode cX9_split 38 = .ok (.iconst 3, 1) := by decide +kernel
theorem dX9_split_39 : decode cX9_split 39 = .ok (.invokevirtual 44, 3) := by decide +kernel
theorem dX9_split_42 : decode cX9_split 42 = .ok (.ifCond .ne 7, 3) := by decide +kernel
theorem dX9_split_45 : decode cX9_split 45 = .ok (.iconst 1, 1) := by decide +kernel
theorem dX9_split_46 : decode cX9_split 46 = .ok (.goto 4, 3) := by decide +kernel
theorem dX9_split_49 : decode cX9_split 49 = .ok (.iconst 0, 1) := by decide +kernel
theorem dX9_split_50 : decode cX9_split 50 = .ok (.bastore, 1) := by decide +kernel
theorem dX9_split_51 : decode cX9_split 51 = .ok (.iinc 1 1, 3) := by decide +kernel
theorem dX9_split_54 : decode cX9_split 54 = .ok (.goto (-41), 3) := by decide +kernel
theorem dX9_split_57 : decode cX9_split 57 = .ok (.aload_n 0, 1) := by decide +kernel
theorem dX9_split_58 : decode cX9_split 58 = .ok (.invokevirtual 101, 3) := by decide +kernel
theorem dX9_split_61 : decode cX9_split 61 = .ok (.istore_n 1, 1) := by decide +kernel
theorem dX9_split_62 : decode cX9_split 62 = .ok (.aload_n 0, 1) := by decide +kernel
theorem dX9_split_63 : decode cX9_split 63 = .ok (.getfield 7, 3) := by decide +kernel
theorem dX9_split_66 : decode cX9_split 66 = .ok (.bipush 6, 2) := by decide +kernel
theorem dX9_split_68 : decode cX9_split 68 = .ok (.aload_n 0, 1) := by decide +kernel
theorem dX9_split_69 : decode cX9_split 69 = .ok (.getfield 86, 3) := by decide +kernel
theorem dX9_split_72 : decode cX9_split 72 = .ok (.iastore, 1) := by decide +kernel
theorem dX9_split_73 : decode cX9_split 73 = .ok (.iconst 0, 1) := by decide +kernel
theorem dX9_split_74 : decode cX9_split 74 = .ok (.istore_n 2, 1) := by decide +kernel
theorem dX9_split_75 : decode cX9_split 75 = .ok (.iload_n 2, 1) := by decide +kernel
theorem dX9_split_76 : decode cX9_split 76 = .ok (.aload_n 0, 1) := by decide +kernel
theorem dX9_split_77 : decode cX9_split 77 = .ok (.getfield 7, 3) := by decide +kernel
theorem dX9_split_80 : decode cX9_split 80 = .ok (.iconst 0, 1) := by decide +kernel
theorem dX9_split_81 : decode cX9_split 81 = .ok (.iaload, 1) := by decide +kernel
theorem dX9_split_82 : decode cX9_split 82 = .ok (.if_icmp .ge 96, 3) := by decide +kernel
theorem dX9_split_85 : decode cX9_split 85 = .ok (.aload_n 0, 1) := by decide +kernel
theorem dX9_split_86 : decode cX9_split 86 = .ok (.iload_n 2, 1) := by decide +kernel
theorem dX9_split_87 : decode cX9_split 87 = .ok (.invokevirtual 107, 3) := by decide +kernel
theorem dX9_split_90 : decode cX9_split 90 = .ok (.ifCond .eq 82, 3) := by decide +kernel
theorem dX9_split_93 : decode cX9_split 93 = .ok (.aload_n 0, 1) := by decide +kernel
theorem dX9_split_94 : decode cX9_split 94 = .ok (.iload_n 2, 1) := by decide +kernel
theorem dX9_split_95 : decode cX9_split 95 = .ok (.iconst 3, 1) := by decide +kernel
theorem dX9_split_96 : decode cX9_split 96 = .ok (.invokevirtual 44, 3) := by decide +kernel
theorem dX9_split_99 : decode cX9_split 99 = .ok (.ifCond .lt 73, 3) := by decide +kernel
theorem dX9_split_102 : decode cX9_split 102 = .ok (.iload_n 2, 1) := by decide +kernel
theorem dX9_split_103 : decode cX9_split 103 = .ok (.aload_n 0, 1) := by decide +kernel
theorem dX9_split_104 : decode cX9_split 104 = .ok (.getfield 86, 3) := by decide +kernel
theorem dX9_split_107 : decode cX9_split 107 = .ok (.if_icmp .ne 6, 3) := by decide +kernel
theorem dX9_split_110 : decode cX9_split 110 = .ok (.goto 62, 3) := by decide +kernel
theorem dX9_split_113 : decode cX9_split 113 = .ok (.aload_n 0, 1) := by decide +kernel
theorem dX9_split_114 : decode cX9_split 114 = .ok (.iload_n 2, 1) := by decide +kernel
theorem dX9_split_115 : decode cX9_split 115 = .ok (.iconst 3, 1) := by decide +kernel
theorem dX9_split_116 : decode cX9_split 116 = .ok (.invokevirtual 44, 3) := by decide +kernel
theorem dX9_split_119 : decode cX9_split 119 = .ok (.istore_n 3, 1) := by decide +kernel
theorem dX9_split_120 : decode cX9_split 120 = .ok (.iload_n 1, 1) := by decide +kernel
theorem dX9_split_121 : decode cX9_split 121 = .ok (.iconst 2, 1) := by decide +kernel
theorem dX9_split_122 : decode cX9_split 122 = .ok (.if_icmp .eq 23, 3) := by decide +kernel
theorem dX9_split_125 : decode cX9_split 125 = .ok (.aload_n 0, 1) := by decide +kernel
theorem dX9_split_126 : decode cX9_split 126 = .ok (.iload_n 2, 1) := by decide +kernel
theorem dX9_split_127 : decode cX9_split 127 = .ok (.iconst 3, 1) := by decide +kernel
theorem dX9_split_128 : decode cX9_split 128 = .ok (.iload_n 3, 1) := by decide +kernel
theorem dX9_split_129 : decode cX9_split 129 = .ok (.ifCond .le 9, 3) := by decide +kernel
theorem dX9_split_132 : decode cX9_split 132 = .ok (.iload_n 3, 1) := by decide +kernel
theorem dX9_split_133 : decode cX9_split 133 = .ok (.iconst 1, 1) := by decide +kernel
theorem dX9_split_134 : decode cX9_split 134 = .ok (.isub, 1) := by decide +kernel
theorem dX9_split_135 : decode cX9_split 135 = .ok (.goto 4, 3) := by decide +kernel
theorem dX9_split_138 : decode cX9_split 138 = .ok (.iconst 0, 1) := by decide +kernel
theorem dX9_split_139 : decode cX9_split 139 = .ok (.invokevirtual 52, 3) := by decide +kernel
theorem dX9_split_142 : decode cX9_split 142 = .ok (.goto 30, 3) := by decide +kernel
theorem dX9_split_145 : decode cX9_split 145 = .ok (.aload_n 0, 1) := by decide +kernel
theorem dX9_split_146 : decode cX9_split 146 = .ok (.iload_n 2, 1) := by decide +kernel
theorem dX9_split_147 : decode cX9_split 147 = .ok (.iconst 3, 1) := by decide +kernel
theorem dX9_split_148 : decode cX9_split 148 = .ok (.aload_n 0, 1) := by decide +kernel
theorem dX9_split_149 : decode cX9_split 149 = .ok (.getfield 24, 3) := by decide +kernel
theorem dX9_split_152 : decode cX9_split 152 = .ok (.iload_n 2, 1) := by decide +kernel
theorem dX9_split_153 : decode cX9_split 153 = .ok (.baload, 1) := by decide +kernel
theorem dX9_split_154 : decode cX9_split 154 = .ok (.ifCond .eq 12, 3) := by decide +kernel
theorem dX9_split_157 : decode cX9_split 157 = .ok (.aload_n 0, 1) := by decide +kernel
theorem dX9_split_158 : decode cX9_split 158 = .ok (.iload_n 2, 1) := by decide +kernel
theorem dX9_split_159 : decode cX9_split 159 = .ok (.iconst 2, 1) := by decide +kernel
theorem dX9_split_160 : decode cX9_split 160 = .ok (.invokevirtual 111, 3) := by decide +kernel
theorem dX9_split_163 : decode cX9_split 163 = .ok (.goto 6, 3) := by decide +kernel
theorem dX9_split_166 : decode cX9_split 166 = .ok (.iload_n 3, 1) := by decide +kernel
theorem dX9_split_167 : decode cX9_split 167 = .ok (.iconst 1, 1) := by decide +kernel
theorem dX9_split_168 : decode cX9_split 168 = .ok (.iadd, 1) := by decide +kernel
theorem dX9_split_169 : decode cX9_split 169 = .ok (.invokevirtual 52, 3) := by decide +kernel
theorem dX9_split_172 : decode cX9_split 172 = .ok (.iinc 2 1, 3) := by decide +kernel
theorem dX9_split_175 : decode cX9_split 175 = .ok (.goto (-100), 3) := by decide +kernel
theorem dX9_split_178 : decode cX9_split 178 = .ok (.aload_n 0, 1) := by decide +kernel
theorem dX9_split_179 : decode cX9_split 179 = .ok (.getfield 7, 3) := by decide +kernel
theorem dX9_split_182 : decode cX9_split 182 = .ok (.iconst 5, 1) := by decide +kernel
theorem dX9_split_183 : decode cX9_split 183 = .ok (.dup2, 1) := by decide +kernel
theorem dX9_split_184 : decode cX9_split 184 = .ok (.iaload, 1) := by decide +kernel
theorem dX9_split_185 : decode cX9_split 185 = .ok (.iload_n 1, 1) := by decide +kernel
theorem dX9_split_186 : decode cX9_split 186 = .ok (.iconst 2, 1) := by decide +kernel
theorem dX9_split_187 : decode cX9_split 187 = .ok (.if_icmp .ne 7, 3) := by decide +kernel
theorem dX9_split_190 : decode cX9_split 190 = .ok (.iconst 1, 1) := by decide +kernel
theorem dX9_split_191 : decode cX9_split 191 = .ok (.goto 4, 3) := by decide +kernel
theorem dX9_split_194 : decode cX9_split 194 = .ok (.iconst (-1), 1) := by decide +kernel
theorem dX9_split_195 : decode cX9_split 195 = .ok (.iadd, 1) := by decide +kernel
theorem dX9_split_196 : decode cX9_split 196 = .ok (.iastore, 1) := by decide +kernel
theorem dX9_split_197 : decode cX9_split 197 = .ok (.iload_n 1, 1) := by decide +kernel
theorem dX9_split_198 : decode cX9_split 198 = .ok (.iconst 1, 1) := by decide +kernel
theorem dX9_split_199 : decode cX9_split 199 = .ok (.if_icmp .ne 29, 3) := by decide +kernel
theorem dX9_split_202 : decode cX9_split 202 = .ok (.aload_n 0, 1) := by decide +kernel
theorem dX9_split_203 : decode cX9_split 203 = .ok (.aload_n 0, 1) := by decide +kernel
theorem dX9_split_204 : decode cX9_split 204 = .ok (.getfield 86, 3) := by decide +kernel
theorem dX9_split_207 : decode cX9_split 207 = .ok (.iconst 3, 1) := by decide +kernel
theorem dX9_split_208 : decode cX9_split 208 = .ok (.iconst (-1), 1) := by decide +kernel
theorem dX9_split_209 : decode cX9_split 209 = .ok (.invokevirtual 52, 3) := by decide +kernel
theorem dX9_split_212 : decode cX9_split 212 = .ok (.aload_n 0, 1) := by decide +kernel
theorem dX9_split_213 : decode cX9_split 213 = .ok (.aload_n 0, 1) := by decide +kernel
theorem dX9_split_214 : decode cX9_split 214 = .ok (.getfield 86, 3) := by decide +kernel
theorem dX9_split_217 : decode cX9_split 217 = .ok (.invokevirtual 82, 3) := by decide +kernel
theorem dX9_split_220 : decode cX9_split 220 = .ok (.aload_n 0, 1) := by decide +kernel
theorem dX9_split_221 : decode cX9_split 221 = .ok (.aload_n 0, 1) := by decide +kernel
theorem dX9_split_222 : decode cX9_split 222 = .ok (.getfield 86, 3) := by decide +kernel
theorem dX9_split_225 : decode cX9_split 225 = .ok (.invokevirtual 114, 3) := by decide +kernel
theorem dX9_split_228 : decode cX9_split 228 = .ok (.iload_n 1, 1) := by decide +kernel
theorem dX9_split_229 : decode cX9_split 229 = .ok (.ireturn, 1) := by decide +kernel
theorem dX9_frames_0 : decode cX9_frames 0 = .ok (.iconst 0, 1) := by decide +kernel
theorem dX9_frames_1 : decode cX9_frames 1 = .ok (.istore_n 1, 1) := by decide +kernel
theorem dX9_frames_2 : decode cX9_frames 2 = .ok (.iload_n 1, 1) := by decide +kernel
theorem dX9_frames_3 : decode cX9_frames 3 = .ok (.aload_n 0, 1) := by decide +kernel
theorem dX9_frames_4 : decode cX9_frames 4 = .ok (.getfield 7, 3) := by decide +kernel
theorem dX9_frames_7 : decode cX9_frames 7 = .ok (.iconst 0, 1) := by decide +kernel
theorem dX9_frames_8 : decode cX9_frames 8 = .ok (.iaload, 1) := by decide +kernel
theorem dX9_frames_9 : decode cX9_frames 9 = .ok (.if_icmp .ge 16, 3) := by decide +kernel
theorem dX9_frames_12 : decode cX9_frames 12 = .ok (.aload_n 0, 1) := by decide +kernel
theorem dX9_frames_13 : decode cX9_frames 13 = .ok (.iload_n 1, 1) := by decide +kernel
theorem dX9_frames_14 : decode cX9_frames 14 = .ok (.iconst 5, 1) := by decide +kernel
theorem dX9_frames_15 : decode cX9_frames 15 = .ok (.iconst 0, 1) := by decide +kernel
theorem dX9_frames_16 : decode cX9_frames 16 = .ok (.invokevirtual 52, 3) := by decide +kernel
theorem dX9_frames_19 : decode cX9_frames 19 = .ok (.iinc 1 1, 3) := by decide +kernel
theorem dX9_frames_22 : decode cX9_frames 22 = .ok (.goto (-20), 3) := by decide +kernel
theorem dX9_frames_25 : decode cX9_frames 25 = .ok (.return_, 1) := by decide +kernel
theorem dX9_frame_0 : decode cX9_frame 0 = .ok (.iload_n 1, 1) := by decide +kernel
theorem dX9_frame_1 : decode cX9_frame 1 = .ok (.iconst 1, 1) := by decide +kernel
theorem dX9_frame_2 : decode cX9_frame 2 = .ok (.if_icmp .lt 9, 3) := by decide +kernel
theorem dX9_frame_5 : decode cX9_frame 5 = .ok (.iload_n 1, 1) := by decide +kernel
theorem dX9_frame_6 : decode cX9_frame 6 = .ok (.bipush 64, 2) := by decide +kernel
theorem dX9_frame_8 : decode cX9_frame 8 = .ok (.if_icmp .le 5, 3) := by decide +kernel
theorem dX9_frame_11 : decode cX9_frame 11 = .ok (.iconst (-1), 1) := by decide +kernel
theorem dX9_frame_12 : decode cX9_frame 12 = .ok (.ireturn, 1) := by decide +kernel
theorem dX9_frame_13 : decode cX9_frame 13 = .ok (.iconst 0, 1) := by decide +kernel
theorem dX9_frame_14 : decode cX9_frame 14 = .ok (.istore_n 2, 1) := by decide +kernel
theorem dX9_frame_15 : decode cX9_frame 15 = .ok (.iload_n 2, 1) := by decide +kernel
theorem dX9_frame_16 : decode cX9_frame 16 = .ok (.aload_n 0, 1) := by decide +kernel
theorem dX9_frame_17 : decode cX9_frame 17 = .ok (.getfield 7, 3) := by decide +kernel
theorem dX9_frame_20 : decode cX9_frame 20 = .ok (.iconst 0, 1) := by decide +kernel
theorem dX9_frame_21 : decode cX9_frame 21 = .ok (.iaload, 1) := by decide +kernel
theorem dX9_frame_22 : decode cX9_frame 22 = .ok (.if_icmp .ge 52, 3) := by decide +kernel
theorem dX9_frame_25 : decode cX9_frame 25 = .ok (.aload_n 0, 1) := by decide +kernel
theorem dX9_frame_26 : decode cX9_frame 26 = .ok (.getfield 33, 3) := by decide +kernel
theorem dX9_frame_29 : decode cX9_frame 29 = .ok (.iload_n 2, 1) := by decide +kernel
theorem dX9_frame_30 : decode cX9_frame 30 = .ok (.aload_n 0, 1) := by decide +kernel
theorem dX9_frame_31 : decode cX9_frame 31 = .ok (.iload_n 2, 1) := by decide +kernel
theorem dX9_frame_32 : decode cX9_frame 32 = .ok (.iconst 0, 1) := by decide +kernel
theorem dX9_frame_33 : decode cX9_frame 33 = .ok (.invokevirtual 44, 3) := by decide +kernel
theorem dX9_frame_36 : decode cX9_frame 36 = .ok (.iconst 2, 1) := by decide +kernel
theorem dX9_frame_37 : decode cX9_frame 37 = .ok (.if_icmp .lt 29, 3) := by decide +kernel
theorem dX9_frame_40 : decode cX9_frame 40 = .ok (.aload_n 0, 1) := by decide +kernel
theorem dX9_frame_41 : decode cX9_frame 41 = .ok (.iload_n 2, 1) := by decide +kernel
theorem dX9_frame_42 : decode cX9_frame 42 = .ok (.iconst 5, 1) := by decide +kernel
theorem dX9_frame_43 : decode cX9_frame 43 = .ok (.invokevirtual 44, 3) := by decide +kernel
theorem dX9_frame_46 : decode cX9_frame 46 = .ok (.ifCond .ne 20, 3) := by decide +kernel
theorem dX9_frame_49 : decode cX9_frame 49 = .ok (.aload_n 0, 1) := by decide +kernel
theorem dX9_frame_50 : decode cX9_frame 50 = .ok (.iload_n 2, 1) := by decide +kernel
theorem dX9_frame_51 : decode cX9_frame 51 = .ok (.invokevirtual 62, 3) := by decide +kernel
theorem dX9_frame_54 : decode cX9_frame 54 = .ok (.ifCond .eq 12, 3) := by decide +kernel
theorem dX9_frame_57 : decode cX9_frame 57 = .ok (.aload_n 0, 1) := by decide +kernel
theorem dX9_frame_58 : decode cX9_frame 58 = .ok (.iload_n 2, 1) := by decide +kernel
theorem dX9_frame_59 : decode cX9_frame 59 = .ok (.iload_n 1, 1) := by decide +kernel
theorem dX9_frame_60 : decode cX9_frame 60 = .ok (.invokevirtual 111, 3) := by decide +kernel
theorem dX9_frame_63 : decode cX9_frame 63 = .ok (.goto 4, 3) := by decide +kernel
theorem dX9_frame_66 : decode cX9_frame 66 = .ok (.iconst (-1), 1) := by decide +kernel
theorem dX9_frame_67 : decode cX9_frame 67 = .ok (.iastore, 1) := by decide +kernel
theorem dX9_frame_68 : decode cX9_frame 68 = .ok (.iinc 2 1, 3) := by decide +kernel
theorem dX9_frame_71 : decode cX9_frame 71 = .ok (.goto (-56), 3) := by decide +kernel
theorem dX9_frame_74 : decode cX9_frame 74 = .ok (.iconst 0, 1) := by decide +kernel
theorem dX9_frame_75 : decode cX9_frame 75 = .ok (.istore_n 2, 1) := by decide +kernel
theorem dX9_frame_76 : decode cX9_frame 76 = .ok (.iload_n 2, 1) := by decide +kernel
theorem dX9_frame_77 : decode cX9_frame 77 = .ok (.iconst 3, 1) := by decide +kernel
theorem dX9_frame_78 : decode cX9_frame 78 = .ok (.if_icmp .ge 19, 3) := by decide +kernel
theorem dX9_frame_81 : decode cX9_frame 81 = .ok (.aload_n 0, 1) := by decide +kernel
theorem dX9_frame_82 : decode cX9_frame 82 = .ok (.getfield 7, 3) := by decide +kernel
theorem dX9_frame_85 : decode cX9_frame 85 = .ok (.bipush 7, 2) := by decide +kernel
theorem dX9_frame_87 : decode cX9_frame 87 = .ok (.iload_n 2, 1) := by decide +kernel
theorem dX9_frame_88 : decode cX9_frame 88 = .ok (.iadd, 1) := by decide +kernel
theorem dX9_frame_89 : decode cX9_frame 89 = .ok (.iconst 0, 1) := by decide +kernel
theorem dX9_frame_90 : decode cX9_frame 90 = .ok (.iastore, 1) := by decide +kernel
theorem dX9_frame_91 : decode cX9_frame 91 = .ok (.iinc 2 1, 3) := by decide +kernel
theorem dX9_frame_94 : decode cX9_frame 94 = .ok (.goto (-18), 3) := by decide +kernel
theorem dX9_frame_97 : decode cX9_frame 97 = .ok (.iconst 0, 1) := by decide +kernel
theorem dX9_frame_98 : decode cX9_frame 98 = .ok (.istore_n 2, 1) := by decide +kernel
theorem dX9_frame_99 : decode cX9_frame 99 = .ok (.iconst 0, 1) := by decide +kernel
theorem dX9_frame_100 : decode cX9_frame 100 = .ok (.istore_n 3, 1) := by decide +kernel
theorem dX9_frame_101 : decode cX9_frame 101 = .ok (.iload_n 3, 1) := by decide +kernel
theorem dX9_frame_102 : decode cX9_frame 102 = .ok (.iload_n 1, 1) := by decide +kernel
theorem dX9_frame_103 : decode cX9_frame 103 = .ok (.if_icmp .ge 110, 3) := by decide +kernel
theorem dX9_frame_106 : decode cX9_frame 106 = .ok (.iconst 0, 1) := by decide +kernel
theorem dX9_frame_107 : decode cX9_frame 107 = .ok (.istore 4, 2) := by decide +kernel
theorem dX9_frame_109 : decode cX9_frame 109 = .ok (.iload 4, 2) := by decide +kernel
theorem dX9_frame_111 : decode cX9_frame 111 = .ok (.aload_n 0, 1) := by decide +kernel
theorem dX9_frame_112 : decode cX9_frame 112 = .ok (.getfield 7, 3) := by decide +kernel
theorem dX9_frame_115 : decode cX9_frame 115 = .ok (.iconst 0, 1) := by decide +kernel
theorem dX9_frame_116 : decode cX9_frame 116 = .ok (.iaload, 1) := by decide +kernel
theorem dX9_frame_117 : decode cX9_frame 117 = .ok (.if_icmp .ge 32, 3) := by decide +kernel
theorem dX9_frame_120 : decode cX9_frame 120 = .ok (.aload_n 0, 1) := by decide +kernel
theorem dX9_frame_121 : decode cX9_frame 121 = .ok (.getfield 24, 3) := by decide +kernel
theorem dX9_frame_124 : decode cX9_frame 124 = .ok (.iload 4, 2) := by decide +kernel
theorem dX9_frame_126 : decode cX9_frame 126 = .ok (.aload_n 0, 1) := by decide +kernel
theorem dX9_frame_127 : decode cX9_frame 127 = .ok (.getfield 33, 3) := by decide +kernel
theorem dX9_frame_130 : decode cX9_frame 130 = .ok (.iload 4, 2) := by decide +kernel
theorem dX9_frame_132 : decode cX9_frame 132 = .ok (.iaload, 1) := by decide +kernel
theorem dX9_frame_133 : decode cX9_frame 133 = .ok (.iload_n 3, 1) := by decide +kernel
theorem dX9_frame_134 : decode cX9_frame 134 = .ok (.if_icmp .ne 7, 3) := by decide +kernel
theorem dX9_frame_137 : decode cX9_frame 137 = .ok (.iconst 1, 1) := by decide +kernel
theorem dX9_frame_138 : decode cX9_frame 138 = .ok (.goto 4, 3) := by decide +kernel
theorem dX9_frame_141 : decode cX9_frame 141 = .ok (.iconst 0, 1) := by decide +kernel
theorem dX9_frame_142 : decode cX9_frame 142 = .ok (.bastore, 1) := by decide +kernel
theorem dX9_frame_143 : decode cX9_frame 143 = .ok (.iinc 4 1, 3) := by decide +kernel
theorem dX9_frame_146 : decode cX9_frame 146 = .ok (.goto (-37), 3) := by decide +kernel
theorem dX9_frame_149 : decode cX9_frame 149 = .ok (.aload_n 0, 1) := by decide +kernel
theorem dX9_frame_150 : decode cX9_frame 150 = .ok (.invokevirtual 101, 3) := by decide +kernel
theorem dX9_frame_153 : decode cX9_frame 153 = .ok (.istore 4, 2) := by decide +kernel
theorem dX9_frame_155 : decode cX9_frame 155 = .ok (.aload_n 0, 1) := by decide +kernel
theorem dX9_frame_156 : decode cX9_frame 156 = .ok (.getfield 7, 3) := by decide +kernel
theorem dX9_frame_159 : decode cX9_frame 159 = .ok (.bipush 7, 2) := by decide +kernel
theorem dX9_frame_161 : decode cX9_frame 161 = .ok (.iload 4, 2) := by decide +kernel
theorem dX9_frame_163 : decode cX9_frame 163 = .ok (.iadd, 1) := by decide +kernel
theorem dX9_frame_164 : decode cX9_frame 164 = .ok (.dup2, 1) := by decide +kernel
theorem dX9_frame_165 : decode cX9_frame 165 = .ok (.iaload, 1) := by decide +kernel
theorem dX9_frame_166 : decode cX9_frame 166 = .ok (.iconst 1, 1) := by decide +kernel
theorem dX9_frame_167 : decode cX9_frame 167 = .ok (.iadd, 1) := by decide +kernel
theorem dX9_frame_168 : decode cX9_frame 168 = .ok (.iastore, 1) := by decide +kernel
theorem dX9_frame_169 : decode cX9_frame 169 = .ok (.iload 4, 2) := by decide +kernel
theorem dX9_frame_171 : decode cX9_frame 171 = .ok (.iconst 1, 1) := by decide +kernel
theorem dX9_frame_172 : decode cX9_frame 172 = .ok (.if_icmp .eq 6, 3) := by decide +kernel
theorem dX9_frame_175 : decode cX9_frame 175 = .ok (.goto 32, 3) := by decide +kernel
theorem dX9_frame_178 : decode cX9_frame 178 = .ok (.aload_n 0, 1) := by decide +kernel
theorem dX9_frame_179 : decode cX9_frame 179 = .ok (.aload_n 0, 1) := by decide +kernel
theorem dX9_frame_180 : decode cX9_frame 180 = .ok (.getfield 86, 3) := by decide +kernel
theorem dX9_frame_183 : decode cX9_frame 183 = .ok (.invokevirtual 82, 3) := by decide +kernel
theorem dX9_frame_186 : decode cX9_frame 186 = .ok (.aload_n 0, 1) := by decide +kernel
theorem dX9_frame_187 : decode cX9_frame 187 = .ok (.aload_n 0, 1) := by decide +kernel
theorem dX9_frame_188 : decode cX9_frame 188 = .ok (.getfield 86, 3) := by decide +kernel
theorem dX9_frame_191 : decode cX9_frame 191 = .ok (.iconst 5, 1) := by decide +kernel
theorem dX9_frame_192 : decode cX9_frame 192 = .ok (.iconst 1, 1) := by decide +kernel
theorem dX9_frame_193 : decode cX9_frame 193 = .ok (.invokevirtual 52, 3) := by decide +kernel
theorem dX9_frame_196 : decode cX9_frame 196 = .ok (.aload_n 0, 1) := by decide +kernel
theorem dX9_frame_197 : decode cX9_frame 197 = .ok (.aload_n 0, 1) := by decide +kernel
theorem dX9_frame_198 : decode cX9_frame 198 = .ok (.getfield 86, 3) := by decide +kernel
theorem dX9_frame_201 : decode cX9_frame 201 = .ok (.invokevirtual 114, 3) := by decide +kernel
theorem dX9_frame_204 : decode cX9_frame 204 = .ok (.iinc 2 1, 3) := by decide +kernel
theorem dX9_frame_207 : decode cX9_frame 207 = .ok (.iinc 3 1, 3) := by decide +kernel
theorem dX9_frame_210 : decode cX9_frame 210 = .ok (.goto (-109), 3) := by decide +kernel
theorem dX9_frame_213 : decode cX9_frame 213 = .ok (.sipush 239, 3) := by decide +kernel
theorem dX9_frame_216 : decode cX9_frame 216 = .ok (.aload_n 0, 1) := by decide +kernel
theorem dX9_frame_217 : decode cX9_frame 217 = .ok (.getfield 7, 3) := by decide +kernel
theorem dX9_frame_220 : decode cX9_frame 220 = .ok (.bipush 9, 2) := by decide +kernel
theorem dX9_frame_222 : decode cX9_frame 222 = .ok (.iaload, 1) := by decide +kernel
theorem dX9_frame_223 : decode cX9_frame 223 = .ok (.imul, 1) := by decide +kernel
theorem dX9_frame_224 : decode cX9_frame 224 = .ok (.bipush 100, 2) := by decide +kernel
theorem dX9_frame_226 : decode cX9_frame 226 = .ok (.idiv, 1) := by decide +kernel
theorem dX9_frame_227 : decode cX9_frame 227 = .ok (.istore_n 3, 1) := by decide +kernel
theorem dX9_frame_228 : decode cX9_frame 228 = .ok (.aload_n 0, 1) := by decide +kernel
theorem dX9_frame_229 : decode cX9_frame 229 = .ok (.getfield 7, 3) := by decide +kernel
theorem dX9_frame_232 : decode cX9_frame 232 = .ok (.bipush 10, 2) := by decide +kernel
theorem dX9_frame_234 : decode cX9_frame 234 = .ok (.iload_n 3, 1) := by decide +kernel
theorem dX9_frame_235 : decode cX9_frame 235 = .ok (.iconst 1, 1) := by decide +kernel
theorem dX9_frame_236 : decode cX9_frame 236 = .ok (.if_icmp .ge 7, 3) := by decide +kernel
theorem dX9_frame_239 : decode cX9_frame 239 = .ok (.iconst 1, 1) := by decide +kernel
theorem dX9_frame_240 : decode cX9_frame 240 = .ok (.goto 15, 3) := by decide +kernel
theorem dX9_frame_243 : decode cX9_frame 243 = .ok (.iload_n 3, 1) := by decide +kernel
theorem dX9_frame_244 : decode cX9_frame 244 = .ok (.bipush 64, 2) := by decide +kernel
theorem dX9_frame_246 : decode cX9_frame 246 = .ok (.if_icmp .le 8, 3) := by decide +kernel
theorem dX9_frame_249 : decode cX9_frame 249 = .ok (.bipush 64, 2) := by decide +kernel
theorem dX9_frame_251 : decode cX9_frame 251 = .ok (.goto 4, 3) := by decide +kernel
theorem dX9_frame_254 : decode cX9_frame 254 = .ok (.iload_n 3, 1) := by decide +kernel
theorem dX9_frame_255 : decode cX9_frame 255 = .ok (.iastore, 1) := by decide +kernel
theorem dX9_frame_256 : decode cX9_frame 256 = .ok (.iload_n 2, 1) := by decide +kernel
theorem dX9_frame_257 : decode cX9_frame 257 = .ok (.ireturn, 1) := by decide +kernel
theorem dX9_heard_0 : decode cX9_heard 0 = .ok (.iload_n 1, 1) := by decide +kernel
theorem dX9_heard_1 : decode cX9_heard 1 = .ok (.iconst 4, 1) := by decide +kernel
theorem dX9_heard_2 : decode cX9_heard 2 = .ok (.invokestatic 36, 3) := by decide +kernel
theorem dX9_heard_5 : decode cX9_heard 5 = .ok (.ifCond .eq 15, 3) := by decide +kernel
theorem dX9_heard_8 : decode cX9_heard 8 = .ok (.aload_n 0, 1) := by decide +kernel
theorem dX9_heard_9 : decode cX9_heard 9 = .ok (.getfield 7, 3) := by decide +kernel
theorem dX9_heard_12 : decode cX9_heard 12 = .ok (.bipush 7, 2) := by decide +kernel
theorem dX9_heard_14 : decode cX9_heard 14 = .ok (.iload_n 1, 1) := by decide +kernel
theorem dX9_heard_15 : decode cX9_heard 15 = .ok (.iadd, 1) := by decide +kernel
theorem dX9_heard_16 : decode cX9_heard 16 = .ok (.iaload, 1) := by decide +kernel
theorem dX9_heard_17 : decode cX9_heard 17 = .ok (.goto 4, 3) := by decide +kernel
theorem dX9_heard_20 : decode cX9_heard 20 = .ok (.iconst (-1), 1) := by decide +kernel
theorem dX9_heard_21 : decode cX9_heard 21 = .ok (.ireturn, 1) := by decide +kernel
theorem dX9_found_0 : decode cX9_found 0 = .ok (.iload_n 1, 1) := by decide +kernel
theorem dX9_found_1 : decode cX9_found 1 = .ok (.aload_n 0, 1) := by decide +kernel
theorem dX9_found_2 : decode cX9_found 2 = .ok (.getfield 7, 3) := by decide +kernel
theorem dX9_found_5 : decode cX9_found 5 = .ok (.bipush 15, 2) := by decide +kernel
theorem dX9_found_7 : decode cX9_found 7 = .ok (.iaload, 1) := by decide +kernel
theorem dX9_found_8 : decode cX9_found 8 = .ok (.invokestatic 36, 3) := by decide +kernel
theorem dX9_found_11 : decode cX9_found 11 = .ok (.ifCond .eq 15, 3) := by decide +kernel
theorem dX9_found_14 : decode cX9_found 14 = .ok (.aload_n 0, 1) := by decide +kernel
theorem dX9_found_15 : decode cX9_found 15 = .ok (.getfield 7, 3) := by decide +kernel
theorem dX9_found_18 : decode cX9_found 18 = .ok (.bipush 100, 2) := by decide +kernel
theorem dX9_found_20 : decode cX9_found 20 = .ok (.iload_n 1, 1) := by decide +kernel
theorem dX9_found_21 : decode cX9_found 21 = .ok (.iadd, 1) := by decide +kernel
theorem dX9_found_22 : decode cX9_found 22 = .ok (.iaload, 1) := by decide +kernel
theorem dX9_found_23 : decode cX9_found 23 = .ok (.goto 4, 3) := by decide +kernel
theorem dX9_found_26 : decode cX9_found 26 = .ok (.iconst (-1), 1) := by decide +kernel
theorem dX9_found_27 : decode cX9_found 27 = .ok (.ireturn, 1) := by decide +kernel
theorem dX9_cost_0 : decode cX9_cost 0 = .ok (.iload_n 1, 1) := by decide +kernel
theorem dX9_cost_1 : decode cX9_cost 1 = .ok (.iconst 4, 1) := by decide +kernel
theorem dX9_cost_2 : decode cX9_cost 2 = .ok (.if_icmp .ne 35, 3) := by decide +kernel
theorem dX9_cost_5 : decode cX9_cost 5 = .ok (.aload_n 0, 1) := by decide +kernel
theorem dX9_cost_6 : decode cX9_cost 6 = .ok (.getfield 7, 3) := by decide +kernel
theorem dX9_cost_9 : decode cX9_cost 9 = .ok (.bipush 11, 2) := by decide +kernel
theorem dX9_cost_11 : decode cX9_cost 11 = .ok (.iaload, 1) := by decide +kernel
theorem dX9_cost_12 : decode cX9_cost 12 = .ok (.aload_n 0, 1) := by decide +kernel
theorem dX9_cost_13 : decode cX9_cost 13 = .ok (.getfield 7, 3) := by decide +kernel
theorem dX9_cost_16 : decode cX9_cost 16 = .ok (.bipush 12, 2) := by decide +kernel
theorem dX9_cost_18 : decode cX9_cost 18 = .ok (.iaload, 1) := by decide +kernel
theorem dX9_cost_19 : decode cX9_cost 19 = .ok (.iadd, 1) := by decide +kernel
theorem dX9_cost_20 : decode cX9_cost 20 = .ok (.aload_n 0, 1) := by decide +kernel
theorem dX9_cost_21 : decode cX9_cost 21 = .ok (.getfield 7, 3) := by decide +kernel
theorem dX9_cost_24 : decode cX9_cost 24 = .ok (.bipush 13, 2) := by decide +kernel
theorem dX9_cost_26 : decode cX9_cost 26 = .ok (.iaload, 1) := by decide +kernel
theorem dX9_cost_27 : decode cX9_cost 27 = .ok (.iadd, 1) := by decide +kernel
theorem dX9_cost_28 : decode cX9_cost 28 = .ok (.aload_n 0, 1) := by decide +kernel
theorem dX9_cost_29 : decode cX9_cost 29 = .ok (.getfield 7, 3) := by decide +kernel
theorem dX9_cost_32 : decode cX9_cost 32 = .ok (.bipush 14, 2) := by decide +kernel
theorem dX9_cost_34 : decode cX9_cost 34 = .ok (.iaload, 1) := by decide +kernel
theorem dX9_cost_35 : decode cX9_cost 35 = .ok (.iadd, 1) := by decide +kernel
theorem dX9_cost_36 : decode cX9_cost 36 = .ok (.ireturn, 1) := by decide +kernel
theorem dX9_cost_37 : decode cX9_cost 37 = .ok (.iload_n 1, 1) := by decide +kernel
theorem dX9_cost_38 : decode cX9_cost 38 = .ok (.iconst 4, 1) := by decide +kernel
theorem dX9_cost_39 : decode cX9_cost 39 = .ok (.invokestatic 36, 3) := by decide +kernel
theorem dX9_cost_42 : decode cX9_cost 42 = .ok (.ifCond .eq 15, 3) := by decide +kernel
theorem dX9_cost_45 : decode cX9_cost 45 = .ok (.aload_n 0, 1) := by decide +kernel
theorem dX9_cost_46 : decode cX9_cost 46 = .ok (.getfield 7, 3) := by decide +kernel
theorem dX9_cost_49 : decode cX9_cost 49 = .ok (.bipush 11, 2) := by decide +kernel
theorem dX9_cost_51 : decode cX9_cost 51 = .ok (.iload_n 1, 1) := by decide +kernel
theorem dX9_cost_52 : decode cX9_cost 52 = .ok (.iadd, 1) := by decide +kernel
theorem dX9_cost_53 : decode cX9_cost 53 = .ok (.iaload, 1) := by decide +kernel
theorem dX9_cost_54 : decode cX9_cost 54 = .ok (.goto 4, 3) := by decide +kernel
theorem dX9_cost_57 : decode cX9_cost 57 = .ok (.iconst (-1), 1) := by decide +kernel
theorem dX9_cost_58 : decode cX9_cost 58 = .ok (.ireturn, 1) := by decide +kernel
theorem dX9_count_0 : decode cX9_count 0 = .ok (.iload_n 1, 1) := by decide +kernel
theorem dX9_count_1 : decode cX9_count 1 = .ok (.tableswitch 69 0 4 #[35, 42, 47, 55, 62], 35) := by decide +kernel
theorem dX9_count_36 : decode cX9_count 36 = .ok (.aload_n 0, 1) := by decide +kernel
theorem dX9_count_37 : decode cX9_count 37 = .ok (.getfield 7, 3) := by decide +kernel
theorem dX9_count_40 : decode cX9_count 40 = .ok (.iconst 0, 1) := by decide +kernel
theorem dX9_count_41 : decode cX9_count 41 = .ok (.iaload, 1) := by decide +kernel
theorem dX9_count_42 : decode cX9_count 42 = .ok (.ireturn, 1) := by decide +kernel
theorem dX9_count_43 : decode cX9_count 43 = .ok (.aload_n 0, 1) := by decide +kernel
theorem dX9_count_44 : decode cX9_count 44 = .ok (.invokevirtual 65, 3) := by decide +kernel
theorem dX9_count_47 : decode cX9_count 47 = .ok (.ireturn, 1) := by decide +kernel
theorem dX9_count_48 : decode cX9_count 48 = .ok (.aload_n 0, 1) := by decide +kernel
theorem dX9_count_49 : decode cX9_count 49 = .ok (.getfield 7, 3) := by decide +kernel
theorem dX9_count_52 : decode cX9_count 52 = .ok (.bipush 15, 2) := by decide +kernel
theorem dX9_count_54 : decode cX9_count 54 = .ok (.iaload, 1) := by decide +kernel
theorem dX9_count_55 : decode cX9_count 55 = .ok (.ireturn, 1) := by decide +kernel
theorem dX9_count_56 : decode cX9_count 56 = .ok (.aload_n 0, 1) := by decide +kernel
theorem dX9_count_57 : decode cX9_count 57 = .ok (.getfield 7, 3) := by decide +kernel
theorem dX9_count_60 : decode cX9_count 60 = .ok (.iconst 4, 1) := by decide +kernel
theorem dX9_count_61 : decode cX9_count 61 = .ok (.iaload, 1) := by decide +kernel
theorem dX9_count_62 : decode cX9_count 62 = .ok (.ireturn, 1) := by decide +kernel
theorem dX9_count_63 : decode cX9_count 63 = .ok (.aload_n 0, 1) := by decide +kernel
theorem dX9_count_64 : decode cX9_count 64 = .ok (.getfield 7, 3) := by decide +kernel
theorem dX9_count_67 : decode cX9_count 67 = .ok (.iconst 5, 1) := by decide +kernel
theorem dX9_count_68 : decode cX9_count 68 = .ok (.iaload, 1) := by decide +kernel
theorem dX9_count_69 : decode cX9_count 69 = .ok (.ireturn, 1) := by decide +kernel
theorem dX9_count_70 : decode cX9_count 70 = .ok (.iconst (-1), 1) := by decide +kernel
theorem dX9_count_71 : decode cX9_count 71 = .ok (.ireturn, 1) := by decide +kernel
theorem dX9_image_0 : decode cX9_image 0 = .ok (.iload_n 1, 1) := by decide +kernel
theorem dX9_image_1 : decode cX9_image 1 = .ok (.iconst 4, 1) := by decide +kernel
theorem dX9_image_2 : decode cX9_image 2 = .ok (.invokestatic 36, 3) := by decide +kernel
theorem dX9_image_5 : decode cX9_image 5 = .ok (.ifCond .ne 5, 3) := by decide +kernel
theorem dX9_image_8 : decode cX9_image 8 = .ok (.iconst 0, 1) := by decide +kernel
theorem dX9_image_9 : decode cX9_image 9 = .ok (.ireturn, 1) := by decide +kernel
theorem dX9_image_10 : decode cX9_image 10 = .ok (.aload_n 0, 1) := by decide +kernel
theorem dX9_image_11 : decode cX9_image 11 = .ok (.getfield 17, 3) := by decide +kernel
theorem dX9_image_14 : decode cX9_image 14 = .ok (.iload_n 1, 1) := by decide +kernel
theorem dX9_image_15 : decode cX9_image 15 = .ok (.iconst 1, 1) := by decide +kernel
theorem dX9_image_16 : decode cX9_image 16 = .ok (.bastore, 1) := by decide +kernel
theorem dX9_image_17 : decode cX9_image 17 = .ok (.iconst 0, 1) := by decide +kernel
theorem dX9_image_18 : decode cX9_image 18 = .ok (.istore_n 2, 1) := by decide +kernel
theorem dX9_image_19 : decode cX9_image 19 = .ok (.iload_n 2, 1) := by decide +kernel
theorem dX9_image_20 : decode cX9_image 20 = .ok (.sipush 540, 3) := by decide +kernel
theorem dX9_image_23 : decode cX9_image 23 = .ok (.if_icmp .ge 29, 3) := by decide +kernel
theorem dX9_image_26 : decode cX9_image 26 = .ok (.aload_n 0, 1) := by decide +kernel
theorem dX9_image_27 : decode cX9_image 27 = .ok (.getfield 7, 3) := by decide +kernel
theorem dX9_image_30 : decode cX9_image 30 = .ok (.sipush 540, 3) := by decide +kernel
theorem dX9_image_33 : decode cX9_image 33 = .ok (.iload_n 1, 1) := by decide +kernel
theorem dX9_image_34 : decode cX9_image 34 = .ok (.iconst 1, 1) := by decide +kernel
theorem dX9_image_35 : decode cX9_image 35 = .ok (.iadd, 1) := by decide +kernel
theorem dX9_image_36 : decode cX9_image 36 = .ok (.imul, 1) := by decide +kernel
theorem dX9_image_37 : decode cX9_image 37 = .ok (.iload_n 2, 1) := by decide +kernel
theorem dX9_image_38 : decode cX9_image 38 = .ok (.iadd, 1) := by decide +kernel
theorem dX9_image_39 : decode cX9_image 39 = .ok (.aload_n 0, 1) := by decide +kernel
theorem dX9_image_40 : decode cX9_image 40 = .ok (.getfield 7, 3) := by decide +kernel
theorem dX9_image_43 : decode cX9_image 43 = .ok (.iload_n 2, 1) := by decide +kernel
theorem dX9_image_44 : decode cX9_image 44 = .ok (.iaload, 1) := by decide +kernel
theorem dX9_image_45 : decode cX9_image 45 = .ok (.iastore, 1) := by decide +kernel
theorem dX9_image_46 : decode cX9_image 46 = .ok (.iinc 2 1, 3) := by decide +kernel
theorem dX9_image_49 : decode cX9_image 49 = .ok (.goto (-30), 3) := by decide +kernel
theorem dX9_image_52 : decode cX9_image 52 = .ok (.iconst 0, 1) := by decide +kernel
theorem dX9_image_53 : decode cX9_image 53 = .ok (.istore_n 2, 1) := by decide +kernel
theorem dX9_image_54 : decode cX9_image 54 = .ok (.iload_n 2, 1) := by decide +kernel
theorem dX9_image_55 : decode cX9_image 55 = .ok (.bipush 124, 2) := by decide +kernel
theorem dX9_image_57 : decode cX9_image 57 = .ok (.if_icmp .ge 28, 3) := by decide +kernel
theorem dX9_image_60 : decode cX9_image 60 = .ok (.aload_n 0, 1) := by decide +kernel
theorem dX9_image_61 : decode cX9_image 61 = .ok (.getfield 13, 3) := by decide +kernel
theorem dX9_image_64 : decode cX9_image 64 = .ok (.bipush 124, 2) := by decide +kernel
theorem dX9_image_66 : decode cX9_image 66 = .ok (.iload_n 1, 1) := by decide +kernel
theorem dX9_image_67 : decode cX9_image 67 = .ok (.iconst 1, 1) := by decide +kernel
theorem dX9_image_68 : decode cX9_image 68 = .ok (.iadd, 1) := by decide +kernel
theorem dX9_image_69 : decode cX9_image 69 = .ok (.imul, 1) := by decide +kernel
theorem dX9_image_70 : decode cX9_image 70 = .ok (.iload_n 2, 1) := by decide +kernel
theorem dX9_image_71 : decode cX9_image 71 = .ok (.iadd, 1) := by decide +kernel
theorem dX9_image_72 : decode cX9_image 72 = .ok (.aload_n 0, 1) := by decide +kernel
theorem dX9_image_73 : decode cX9_image 73 = .ok (.getfield 13, 3) := by decide +kernel
theorem dX9_image_76 : decode cX9_image 76 = .ok (.iload_n 2, 1) := by decide +kernel
theorem dX9_image_77 : decode cX9_image 77 = .ok (.laload, 1) := by decide +kernel
theorem dX9_image_78 : decode cX9_image 78 = .ok (.lastore, 1) := by decide +kernel
theorem dX9_image_79 : decode cX9_image 79 = .ok (.iinc 2 1, 3) := by decide +kernel
theorem dX9_image_82 : decode cX9_image 82 = .ok (.goto (-28), 3) := by decide +kernel
theorem dX9_image_85 : decode cX9_image 85 = .ok (.iconst 1, 1) := by decide +kernel
theorem dX9_image_86 : decode cX9_image 86 = .ok (.ireturn, 1) := by decide +kernel
theorem dX9_again_0 : decode cX9_again 0 = .ok (.iload_n 1, 1) := by decide +kernel
theorem dX9_again_1 : decode cX9_again 1 = .ok (.iconst 4, 1) := by decide +kernel
theorem dX9_again_2 : decode cX9_again 2 = .ok (.invokestatic 36, 3) := by decide +kernel
theorem dX9_again_5 : decode cX9_again 5 = .ok (.ifCond .eq 12, 3) := by decide +kernel
theorem dX9_again_8 : decode cX9_again 8 = .ok (.aload_n 0, 1) := by decide +kernel
theorem dX9_again_9 : decode cX9_again 9 = .ok (.getfield 17, 3) := by decide +kernel
theorem dX9_again_12 : decode cX9_again 12 = .ok (.iload_n 1, 1) := by decide +kernel
theorem dX9_again_13 : decode cX9_again 13 = .ok (.baload, 1) := by decide +kernel
theorem dX9_again_14 : decode cX9_again 14 = .ok (.ifCond .ne 5, 3) := by decide +kernel
theorem dX9_again_17 : decode cX9_again 17 = .ok (.iconst 0, 1) := by decide +kernel
theorem dX9_again_18 : decode cX9_again 18 = .ok (.ireturn, 1) := by decide +kernel
theorem dX9_again_19 : decode cX9_again 19 = .ok (.iconst 0, 1) := by decide +kernel
theorem dX9_again_20 : decode cX9_again 20 = .ok (.istore_n 2, 1) := by decide +kernel
theorem dX9_again_21 : decode cX9_again 21 = .ok (.iload_n 2, 1) := by decide +kernel
theorem dX9_again_22 : decode cX9_again 22 = .ok (.sipush 540, 3) := by decide +kernel
theorem dX9_again_25 : decode cX9_again 25 = .ok (.if_icmp .ge 29, 3) := by decide +kernel
theorem dX9_again_28 : decode cX9_again 28 = .ok (.aload_n 0, 1) := by decide +kernel
theorem dX9_again_29 : decode cX9_again 29 = .ok (.getfield 7, 3) := by decide +kernel
theorem dX9_again_32 : decode cX9_again 32 = .ok (.iload_n 2, 1) := by decide +kernel
theorem dX9_again_33 : decode cX9_again 33 = .ok (.aload_n 0, 1) := by decide +kernel
theorem dX9_again_34 : decode cX9_again 34 = .ok (.getfield 7, 3) := by decide +kernel
theorem dX9_again_37 : decode cX9_again 37 = .ok (.sipush 540, 3) := by decide +kernel
theorem dX9_again_40 : decode cX9_again 40 = .ok (.iload_n 1, 1) := by decide +kernel
theorem dX9_again_41 : decode cX9_again 41 = .ok (.iconst 1, 1) := by decide +kernel
theorem dX9_again_42 : decode cX9_again 42 = .ok (.iadd, 1) := by decide +kernel
theorem dX9_again_43 : decode cX9_again 43 = .ok (.imul, 1) := by decide +kernel
theorem dX9_again_44 : decode cX9_again 44 = .ok (.iload_n 2, 1) := by decide +kernel
theorem dX9_again_45 : decode cX9_again 45 = .ok (.iadd, 1) := by decide +kernel
theorem dX9_again_46 : decode cX9_again 46 = .ok (.iaload, 1) := by decide +kernel
theorem dX9_again_47 : decode cX9_again 47 = .ok (.iastore, 1) := by decide +kernel
theorem dX9_again_48 : decode cX9_again 48 = .ok (.iinc 2 1, 3) := by decide +kernel
theorem dX9_again_51 : decode cX9_again 51 = .ok (.goto (-30), 3) := by decide +kernel
theorem dX9_again_54 : decode cX9_again 54 = .ok (.iconst 0, 1) := by decide +kernel
theorem dX9_again_55 : decode cX9_again 55 = .ok (.istore_n 2, 1) := by decide +kernel
theorem dX9_again_56 : decode cX9_again 56 = .ok (.iload_n 2, 1) := by decide +kernel
theorem dX9_again_57 : decode cX9_again 57 = .ok (.bipush 124, 2) := by decide +kernel
theorem dX9_again_59 : decode cX9_again 59 = .ok (.if_icmp .ge 28, 3) := by decide +kernel
theorem dX9_again_62 : decode cX9_again 62 = .ok (.aload_n 0, 1) := by decide +kernel
theorem dX9_again_63 : decode cX9_again 63 = .ok (.getfield 13, 3) := by decide +kernel
theorem dX9_again_66 : decode cX9_again 66 = .ok (.iload_n 2, 1) := by decide +kernel
theorem dX9_again_67 : decode cX9_again 67 = .ok (.aload_n 0, 1) := by decide +kernel
theorem dX9_again_68 : decode cX9_again 68 = .ok (.getfield 13, 3) := by decide +kernel
theorem dX9_again_71 : decode cX9_again 71 = .ok (.bipush 124, 2) := by decide +kernel
theorem dX9_again_73 : decode cX9_again 73 = .ok (.iload_n 1, 1) := by decide +kernel
theorem dX9_again_74 : decode cX9_again 74 = .ok (.iconst 1, 1) := by decide +kernel
theorem dX9_again_75 : decode cX9_again 75 = .ok (.iadd, 1) := by decide +kernel
theorem dX9_again_76 : decode cX9_again 76 = .ok (.imul, 1) := by decide +kernel
theorem dX9_again_77 : decode cX9_again 77 = .ok (.iload_n 2, 1) := by decide +kernel
theorem dX9_again_78 : decode cX9_again 78 = .ok (.iadd, 1) := by decide +kernel
theorem dX9_again_79 : decode cX9_again 79 = .ok (.laload, 1) := by decide +kernel
theorem dX9_again_80 : decode cX9_again 80 = .ok (.lastore, 1) := by decide +kernel
theorem dX9_again_81 : decode cX9_again 81 = .ok (.iinc 2 1, 3) := by decide +kernel
theorem dX9_again_84 : decode cX9_again 84 = .ok (.goto (-28), 3) := by decide +kernel
theorem dX9_again_87 : decode cX9_again 87 = .ok (.iconst 1, 1) := by decide +kernel
theorem dX9_again_88 : decode cX9_again 88 = .ok (.ireturn, 1) := by decide +kernel
theorem dJ13_bitCount_95d88_0 : decode cJ13_bitCount_95d88 0 = .ok (.lload_n 0, 1) := by decide +kernel
theorem dJ13_bitCount_95d88_1 : decode cJ13_bitCount_95d88 1 = .ok (.lload_n 0, 1) := by decide +kernel
theorem dJ13_bitCount_95d88_2 : decode cJ13_bitCount_95d88 2 = .ok (.iconst 1, 1) := by decide +kernel
theorem dJ13_bitCount_95d88_3 : decode cJ13_bitCount_95d88 3 = .ok (.lushr, 1) := by decide +kernel
theorem dJ13_bitCount_95d88_4 : decode cJ13_bitCount_95d88 4 = .ok (.ldc2_w 314, 3) := by decide +kernel
theorem dJ13_bitCount_95d88_7 : decode cJ13_bitCount_95d88 7 = .ok (.land, 1) := by decide +kernel
theorem dJ13_bitCount_95d88_8 : decode cJ13_bitCount_95d88 8 = .ok (.lsub, 1) := by decide +kernel
theorem dJ13_bitCount_95d88_9 : decode cJ13_bitCount_95d88 9 = .ok (.lstore_n 0, 1) := by decide +kernel
theorem dJ13_bitCount_95d88_10 : decode cJ13_bitCount_95d88 10 = .ok (.lload_n 0, 1) := by decide +kernel
theorem dJ13_bitCount_95d88_11 : decode cJ13_bitCount_95d88 11 = .ok (.ldc2_w 316, 3) := by decide +kernel
theorem dJ13_bitCount_95d88_14 : decode cJ13_bitCount_95d88 14 = .ok (.land, 1) := by decide +kernel
theorem dJ13_bitCount_95d88_15 : decode cJ13_bitCount_95d88 15 = .ok (.lload_n 0, 1) := by decide +kernel
theorem dJ13_bitCount_95d88_16 : decode cJ13_bitCount_95d88 16 = .ok (.iconst 2, 1) := by decide +kernel
theorem dJ13_bitCount_95d88_17 : decode cJ13_bitCount_95d88 17 = .ok (.lushr, 1) := by decide +kernel
theorem dJ13_bitCount_95d88_18 : decode cJ13_bitCount_95d88 18 = .ok (.ldc2_w 316, 3) := by decide +kernel
theorem dJ13_bitCount_95d88_21 : decode cJ13_bitCount_95d88 21 = .ok (.land, 1) := by decide +kernel
theorem dJ13_bitCount_95d88_22 : decode cJ13_bitCount_95d88 22 = .ok (.ladd, 1) := by decide +kernel
theorem dJ13_bitCount_95d88_23 : decode cJ13_bitCount_95d88 23 = .ok (.lstore_n 0, 1) := by decide +kernel
theorem dJ13_bitCount_95d88_24 : decode cJ13_bitCount_95d88 24 = .ok (.lload_n 0, 1) := by decide +kernel
theorem dJ13_bitCount_95d88_25 : decode cJ13_bitCount_95d88 25 = .ok (.lload_n 0, 1) := by decide +kernel
theorem dJ13_bitCount_95d88_26 : decode cJ13_bitCount_95d88 26 = .ok (.iconst 4, 1) := by decide +kernel
theorem dJ13_bitCount_95d88_27 : decode cJ13_bitCount_95d88 27 = .ok (.lushr, 1) := by decide +kernel
theorem dJ13_bitCount_95d88_28 : decode cJ13_bitCount_95d88 28 = .ok (.ladd, 1) := by decide +kernel
theorem dJ13_bitCount_95d88_29 : decode cJ13_bitCount_95d88 29 = .ok (.ldc2_w 318, 3) := by decide +kernel
theorem dJ13_bitCount_95d88_32 : decode cJ13_bitCount_95d88 32 = .ok (.land, 1) := by decide +kernel
theorem dJ13_bitCount_95d88_33 : decode cJ13_bitCount_95d88 33 = .ok (.lstore_n 0, 1) := by decide +kernel
theorem dJ13_bitCount_95d88_34 : decode cJ13_bitCount_95d88 34 = .ok (.lload_n 0, 1) := by decide +kernel
theorem dJ13_bitCount_95d88_35 : decode cJ13_bitCount_95d88 35 = .ok (.lload_n 0, 1) := by decide +kernel
theorem dJ13_bitCount_95d88_36 : decode cJ13_bitCount_95d88 36 = .ok (.bipush 8, 2) := by decide +kernel
theorem dJ13_bitCount_95d88_38 : decode cJ13_bitCount_95d88 38 = .ok (.lushr, 1) := by decide +kernel
theorem dJ13_bitCount_95d88_39 : decode cJ13_bitCount_95d88 39 = .ok (.ladd, 1) := by decide +kernel
theorem dJ13_bitCount_95d88_40 : decode cJ13_bitCount_95d88 40 = .ok (.lstore_n 0, 1) := by decide +kernel
theorem dJ13_bitCount_95d88_41 : decode cJ13_bitCount_95d88 41 = .ok (.lload_n 0, 1) := by decide +kernel
theorem dJ13_bitCount_95d88_42 : decode cJ13_bitCount_95d88 42 = .ok (.lload_n 0, 1) := by decide +kernel
theorem dJ13_bitCount_95d88_43 : decode cJ13_bitCount_95d88 43 = .ok (.bipush 16, 2) := by decide +kernel
theorem dJ13_bitCount_95d88_45 : decode cJ13_bitCount_95d88 45 = .ok (.lushr, 1) := by decide +kernel
theorem dJ13_bitCount_95d88_46 : decode cJ13_bitCount_95d88 46 = .ok (.ladd, 1) := by decide +kernel
theorem dJ13_bitCount_95d88_47 : decode cJ13_bitCount_95d88 47 = .ok (.lstore_n 0, 1) := by decide +kernel
theorem dJ13_bitCount_95d88_48 : decode cJ13_bitCount_95d88 48 = .ok (.lload_n 0, 1) := by decide +kernel
theorem dJ13_bitCount_95d88_49 : decode cJ13_bitCount_95d88 49 = .ok (.lload_n 0, 1) := by decide +kernel
theorem dJ13_bitCount_95d88_50 : decode cJ13_bitCount_95d88 50 = .ok (.bipush 32, 2) := by decide +kernel
theorem dJ13_bitCount_95d88_52 : decode cJ13_bitCount_95d88 52 = .ok (.lushr, 1) := by decide +kernel
theorem dJ13_bitCount_95d88_53 : decode cJ13_bitCount_95d88 53 = .ok (.ladd, 1) := by decide +kernel
theorem dJ13_bitCount_95d88_54 : decode cJ13_bitCount_95d88 54 = .ok (.lstore_n 0, 1) := by decide +kernel
theorem dJ13_bitCount_95d88_55 : decode cJ13_bitCount_95d88 55 = .ok (.lload_n 0, 1) := by decide +kernel
theorem dJ13_bitCount_95d88_56 : decode cJ13_bitCount_95d88 56 = .ok (.l2i, 1) := by decide +kernel
theorem dJ13_bitCount_95d88_57 : decode cJ13_bitCount_95d88 57 = .ok (.bipush 127, 2) := by decide +kernel
theorem dJ13_bitCount_95d88_59 : decode cJ13_bitCount_95d88 59 = .ok (.iand, 1) := by decide +kernel
theorem dJ13_bitCount_95d88_60 : decode cJ13_bitCount_95d88 60 = .ok (.ireturn, 1) := by decide +kernel
theorem dJ9_max_7cf53_0 : decode cJ9_max_7cf53 0 = .ok (.iload_n 0, 1) := by decide +kernel
theorem dJ9_max_7cf53_1 : decode cJ9_max_7cf53 1 = .ok (.iload_n 1, 1) := by decide +kernel
theorem dJ9_max_7cf53_2 : decode cJ9_max_7cf53 2 = .ok (.if_icmp .lt 7, 3) := by decide +kernel
theorem dJ9_max_7cf53_5 : decode cJ9_max_7cf53 5 = .ok (.iload_n 0, 1) := by decide +kernel
theorem dJ9_max_7cf53_6 : decode cJ9_max_7cf53 6 = .ok (.goto 4, 3) := by decide +kernel
theorem dJ9_max_7cf53_9 : decode cJ9_max_7cf53 9 = .ok (.iload_n 1, 1) := by decide +kernel
theorem dJ9_max_7cf53_10 : decode cJ9_max_7cf53 10 = .ok (.ireturn, 1) := by decide +kernel
theorem dJ9_min_7cf53_0 : decode cJ9_min_7cf53 0 = .ok (.iload_n 0, 1) := by decide +kernel
theorem dJ9_min_7cf53_1 : decode cJ9_min_7cf53 1 = .ok (.iload_n 1, 1) := by decide +kernel
theorem dJ9_min_7cf53_2 : decode cJ9_min_7cf53 2 = .ok (.if_icmp .gt 7, 3) := by decide +kernel
theorem dJ9_min_7cf53_5 : decode cJ9_min_7cf53 5 = .ok (.iload_n 0, 1) := by decide +kernel
theorem dJ9_min_7cf53_6 : decode cJ9_min_7cf53 6 = .ok (.goto 4, 3) := by decide +kernel
theorem dJ9_min_7cf53_9 : decode cJ9_min_7cf53 9 = .ok (.iload_n 1, 1) := by decide +kernel
theorem dJ9_min_7cf53_10 : decode cJ9_min_7cf53 10 = .ok (.ireturn, 1) := by decide +kernel
theorem dJ7_fill_d0a16_0 : decode cJ7_fill_d0a16 0 = .ok (.iconst 0, 1) := by decide +kernel
theorem dJ7_fill_d0a16_1 : decode cJ7_fill_d0a16 1 = .ok (.istore_n 3, 1) := by decide +kernel
theorem dJ7_fill_d0a16_2 : decode cJ7_fill_d0a16 2 = .ok (.aload_n 0, 1) := by decide +kernel
theorem dJ7_fill_d0a16_3 : decode cJ7_fill_d0a16 3 = .ok (.arraylength, 1) := by decide +kernel
theorem dJ7_fill_d0a16_4 : decode cJ7_fill_d0a16 4 = .ok (.istore 4, 2) := by decide +kernel
theorem dJ7_fill_d0a16_6 : decode cJ7_fill_d0a16 6 = .ok (.iload_n 3, 1) := by decide +kernel
theorem dJ7_fill_d0a16_7 : decode cJ7_fill_d0a16 7 = .ok (.iload 4, 2) := by decide +kernel
theorem dJ7_fill_d0a16_9 : decode cJ7_fill_d0a16 9 = .ok (.if_icmp .ge 13, 3) := by decide +kernel
theorem dJ7_fill_d0a16_12 : decode cJ7_fill_d0a16 12 = .ok (.aload_n 0, 1) := by decide +kernel
theorem dJ7_fill_d0a16_13 : decode cJ7_fill_d0a16 13 = .ok (.iload_n 3, 1) := by decide +kernel
theorem dJ7_fill_d0a16_14 : decode cJ7_fill_d0a16 14 = .ok (.lload_n 1, 1) := by decide +kernel
theorem dJ7_fill_d0a16_15 : decode cJ7_fill_d0a16 15 = .ok (.lastore, 1) := by decide +kernel
theorem dJ7_fill_d0a16_16 : decode cJ7_fill_d0a16 16 = .ok (.iinc 3 1, 3) := by decide +kernel
theorem dJ7_fill_d0a16_19 : decode cJ7_fill_d0a16 19 = .ok (.goto (-13), 3) := by decide +kernel
theorem dJ7_fill_d0a16_22 : decode cJ7_fill_d0a16 22 = .ok (.return_, 1) := by decide +kernel
theorem dJ7_fill_53178_0 : decode cJ7_fill_53178 0 = .ok (.iconst 0, 1) := by decide +kernel
theorem dJ7_fill_53178_1 : decode cJ7_fill_53178 1 = .ok (.istore_n 2, 1) := by decide +kernel
theorem dJ7_fill_53178_2 : decode cJ7_fill_53178 2 = .ok (.aload_n 0, 1) := by decide +kernel
theorem dJ7_fill_53178_3 : decode cJ7_fill_53178 3 = .ok (.arraylength, 1) := by decide +kernel
theorem dJ7_fill_53178_4 : decode cJ7_fill_53178 4 = .ok (.istore_n 3, 1) := by decide +kernel
theorem dJ7_fill_53178_5 : decode cJ7_fill_53178 5 = .ok (.iload_n 2, 1) := by decide +kernel
theorem dJ7_fill_53178_6 : decode cJ7_fill_53178 6 = .ok (.iload_n 3, 1) := by decide +kernel
theorem dJ7_fill_53178_7 : decode cJ7_fill_53178 7 = .ok (.if_icmp .ge 13, 3) := by decide +kernel
theorem dJ7_fill_53178_10 : decode cJ7_fill_53178 10 = .ok (.aload_n 0, 1) := by decide +kernel
theorem dJ7_fill_53178_11 : decode cJ7_fill_53178 11 = .ok (.iload_n 2, 1) := by decide +kernel
theorem dJ7_fill_53178_12 : decode cJ7_fill_53178 12 = .ok (.iload_n 1, 1) := by decide +kernel
theorem dJ7_fill_53178_13 : decode cJ7_fill_53178 13 = .ok (.iastore, 1) := by decide +kernel
theorem dJ7_fill_53178_14 : decode cJ7_fill_53178 14 = .ok (.iinc 2 1, 3) := by decide +kernel
theorem dJ7_fill_53178_17 : decode cJ7_fill_53178 17 = .ok (.goto (-12), 3) := by decide +kernel
theorem dJ7_fill_53178_20 : decode cJ7_fill_53178 20 = .ok (.return_, 1) := by decide +kernel
abbrev vwCl : List vw_C := [(RX0, TX0, 3), (RX1, TX1, 4), (RX2, TX2, 5), (RX3, TX3, 3), (RX4, TX4, 3), (RX5, TX5, 8), (RX6, TX6, 11), (RX7, TX7, 6), (RX8, TX8, 4), (RX9, TX9, 9)]
end
section
section AWL
/-- all words of the tables that a method may hand on -/
def TT : List Cond := lw_tbl.filter goodWord
theorem TT_mem {w : Cond} (i : Nat) (h : lw_tbl[i]? = some w) (hg : goodWord w = true) : w ∈ TT := List.mem_filter.mpr ⟨List.mem_of_getElem? h, hg⟩
theorem TT_by {ws : List Cond} (ps : List Nat) (h : ps.map (fun i => lw_tbl[i]?) = ws.map some) (hg : ws.all goodWord = true) : ∀ w ∈ ws, w ∈ TT := fun w hw => by
  have h1 : some w ∈ ws.map some := List.mem_map.mpr ⟨w, hw, rfl⟩
  rw [← h] at h1
  obtain ⟨i, -, hi⟩ := List.mem_map.mp h1
  exact TT_mem i hi (List.all_eq_true.mp hg w hw)
def nst : List (String × Nat × MethodName) := [(RX8, 11, yX5_init), (RX8, 26, yX1_init), (RX5, 11, yX6_init), (RX5, 20, yX3_init), (RX5, 27, yX4_init), (RX5, 34, yX0_init), (RX5, 41, yX2_init), (RX5, 48, yX7_init), (RX6, 36, yX8_setOf), (RX6, 57, yX8_isOneAt), (RX6, 67, yX8_isIn), (RX0, 29, yX8_isIn), (RX0, 33, yX8_setOf), (RX3, 19, yX8_isOneAt)]
def NK (U : State) : Prop := ∀ q ∈ nst, va_Nw (.methodLinkNest q.1 q.2.1 q.2.2 RX8) U
def KK (D : va_G) (tys : List (ClassId × FieldType)) (U : State) : Prop := va_K D vwCl tys U ∧ NK U
theorem KK.warm {D : va_G} {tys : List (ClassId × FieldType)} {s U : State} (hW : s.WarmedH U.vm) (h : KK D tys s) : KK D tys U := ⟨va_K.moved hW.alike h.1, fun q hq => va_Nw.warmM hW (h.2 q hq)⟩
theorem KK.same {D : va_G} {tys : List (ClassId × FieldType)} {U : State} {g : JFrame} {mk : MethodId} {a : Array Value} (h : KK D tys U) : KK D tys (U.calling g mk a) := ⟨va_K.moved (u := U) (U := U.calling g mk a) (Vm.Alike.refl U.vm) h.1, fun q hq => va_Nw.same (U := U.calling g mk a) rfl rfl (h.2 q hq)⟩
theorem KK.sub {D : va_G} {tys tys' : List (ClassId × FieldType)} {U : State} (h : KK D tys U) (is : List Nat) (hs : is.filterMap (fun i => tys[i]?) = tys') : KK D tys' U := ⟨h.1.sub is hs, h.2⟩
/-- a writer's (or reader's) contract: from the world w, with the arguments As: it answers r, and the world is w' (the same cells) -/
def MW (l : Launch) (D : va_G) (y : MethodName) (ws : List Cond) (rm : Room) (As : List Value) (tys : List (ClassId × FieldType)) (w : va_W) (r : Option Value) (w' : va_W) : Prop :=
  w'.map Prod.fst = w.map Prod.fst ∧ ∀ sz : Nat, Met l y ws rm (va_Pc As (fun U => U.heap.size = sz ∧ va_P D vwCl w U.heap ∧ KK D tys U ∧ va_D (fun _ => True) w)) (fun _ st oc t => (oc = .returned r ∧ va_P D vwCl w' t.heap) ∧ va_F (va_A w sz) st t) 0 0 (va_A w sz)
def FQ (below : List Frame) (args : Array Value) (s : State) (D : va_G) (A : Nat → Prop) (r : Option Value) (w' : va_W) : State → Prop := MQ below (fun _ st oc t => (oc = .returned r ∧ va_P D vwCl w' t.heap) ∧ va_F A st t) args s 0 0 A
def Cx (p : Program) (s : State) (m : MethodId) (args : Array Value) (meth : Method) (c : Code) (cc : ByteArray) (nL : Nat) (ret : Option FieldType) (own : String) (D : va_G) (tys : List (ClassId × FieldType)) (A : Nat → Prop) : Prop :=
  CallFix p m c cc nL s args TT own ∧ meth.sig.returnType = ret ∧ meth.locks = false ∧ KK D tys s ∧ ∀ q, s.heap.size ≤ q → A q
def AW (p : Program) (l : Launch) (e : Env) (R : Room) (s : State) (m : MethodId) (args : Array Value) (below : List Frame) (meth : Method) (c : Code) (D : va_G) (A : Nat → Prop) (nL cells slots : Nat) (Q : State → Prop) (pc : Nat) (lv : List (Nat × Value)) (st : List Value) (ws : va_W) : Prop :=
  ∀ (H : Heap) (locs : List Loc) (ls : Array Slot), va_P D vwCl ws H → va_D A ws → va_S A s.heap H locs → lv_has ls nL lv → W p l e R s m args below meth c H locs cells slots Q (F0 m pc ls st)
theorem MW.of {l : Launch} {D : va_G} {y : MethodName} {rm : Room} {As : List Value} {tys : List (ClassId × FieldType)} {w : va_W} {r : Option Value} {w' : va_W} {cc : ByteArray} {nL : Nat} {ret : Option FieldType} {lv : List (Nat × Value)} (hy : plainName y.cls = true) (hm : w'.map Prod.fst = w.map Prod.fst) (hlv : lv_args 0 As = lv) (hn : (lg_sl As).length ≤ nL)
    (body : ∀ (p : Program) (e : Env) (s : State) (m : MethodId) (args : Array Value) (below : List Frame) (meth : Method) (c : Code) (A : Nat → Prop) (Q : State → Prop), Q = FQ below args s D A r w' → Cx p s m args meth c cc nL ret y.cls D tys A → AW p l e rm s m args below meth c D A nL 0 0 Q 0 lv [] w) : MW l D y (Cond.code y cc nL ret :: TT) rm As tys w r w' := by
  refine ⟨hm, fun sz => ?_⟩
  refine Met.ofW (cc := cc) (maxL := nL) (ret := ret) hy rfl ?_
  intro p e s m args below meth c s₁ B hml hv
  obtain ⟨rfl, hsz, hP, hK, hD0⟩ := hv
  have hts := atoms_spec (ws := Cond.code y cc nL ret :: TT) B.pre
  have hown : s.vm.findClass y.cls = some m.cls := findClass_of_methodNamed B.named
  subst hsz
  have hD := hD0.self (sz := s.heap.size)
  have hl := lv_entry As (n := nL) hn
  rw [lg_entry_eq]
  rw [hlv] at hl
  exact body p e s m _ below meth c (va_A w s.heap.size) _ rfl ⟨⟨B.exec, B.bytes, hml, hown, fun w hw => hts w (List.mem_cons_of_mem _ hw)⟩, B.returns, B.notSynchronized, hK, fun q h => Or.inr h⟩ s.heap [] _ hP hD va_S.rf hl
/-- a world with some of its cells put anew, by their places -/
def w_repl : va_W → List Nat → va_W → va_W
  | ws, i :: is, q :: cs => w_repl (ws.set i q) is cs
  | ws, _, _ => ws
theorem w_repl_at : ∀ (is : List Nat) (cs ws : va_W) (k : Nat) (q : Nat × va_E), (w_repl ws is cs)[k]? = some q → (∃ j : Nat, is[j]? = some k ∧ cs[j]? = some q) ∨ (ws[k]? = some q ∧ (cs.length = is.length → k ∉ is))
  | [], cs, ws, k, q, h => Or.inr ⟨by cases cs <;> exact h, fun _ => List.not_mem_nil⟩
  | i :: is, [], ws, k, q, h => Or.inr ⟨h, fun z => by simp at z⟩
  | i :: is, c :: cs, ws, k, q, h => by
    rcases w_repl_at is cs (ws.set i c) k q h with ⟨j, h1, h2⟩ | ⟨h1, h2⟩
    · exact Or.inl ⟨j + 1, by simpa using h1, by simpa using h2⟩
    · by_cases hki : k = i
      · subst hki
        have hl : k < (ws.set k c).length := (List.getElem?_eq_some_iff.mp h1).1
        rw [List.length_set] at hl
        rw [List.getElem?_set_self hl] at h1
        exact Or.inl ⟨0, rfl, by simpa using h1⟩
      · rw [List.getElem?_set_ne (fun z => hki z.symm)] at h1
        refine Or.inr ⟨h1, fun z hm => ?_⟩
        rcases List.mem_cons.mp hm with e | e
        · exact hki e
        · exact h2 (by simpa using z) e
theorem w_repl_ad {A : Nat → Prop} {ws wc wc' : va_W} {is : List Nat} (hD : va_D A ws) (his : is.map (fun i => ws[i]?) = wc.map some) (hm : wc'.map Prod.fst = wc.map Prod.fst) : ∀ (k : Nat) (q : Nat × va_E), (w_repl ws is wc')[k]? = some q → ∃ q0, ws[k]? = some q0 ∧ q0.1 = q.1 := by
  intro k q hk
  rcases w_repl_at is wc' ws k q hk with ⟨j, h1, h2⟩ | ⟨h1, -⟩
  · have e1 : (is.map (fun i => ws[i]?))[j]? = some (ws[k]?) := by rw [List.getElem?_map, h1]; rfl
    rw [his, List.getElem?_map] at e1
    have e2 : (wc'.map Prod.fst)[j]? = some q.1 := by rw [List.getElem?_map, h2]; rfl
    rw [hm, List.getElem?_map] at e2
    cases hc : wc[j]? with
    | none => rw [hc] at e1; cases e1
    | some z =>
      rw [hc] at e1 e2
      have e3 : some z = ws[k]? := Option.some.inj e1
      exact ⟨z, e3.symm, Option.some.inj e2⟩
  · exact ⟨q, h1, rfl⟩
theorem w_repl_D {A : Nat → Prop} {ws wc wc' : va_W} {is : List Nat} (hD : va_D A ws) (his : is.map (fun i => ws[i]?) = wc.map some) (hm : wc'.map Prod.fst = wc.map Prod.fst) : va_D A (w_repl ws is wc') := by
  refine ⟨fun i j x y hi hj hxy => ?_, fun k q hk => ?_⟩
  · obtain ⟨x0, h1, h2⟩ := w_repl_ad hD his hm i x hi
    obtain ⟨y0, h3, h4⟩ := w_repl_ad hD his hm j y hj
    exact hD.1 i j x0 y0 h1 h3 (h2.trans (hxy.trans h4.symm))
  · obtain ⟨q0, h1, h2⟩ := w_repl_ad hD his hm k q hk
    rw [← h2]
    exact hD.2 k q0 h1
theorem w_repl_P {A : Nat → Prop} {D : va_G} {ws wc wc' : va_W} {is : List Nat} {H H1 : Heap} (hP : va_P D vwCl ws H) (hD : va_D A ws) (his : is.map (fun i => ws[i]?) = wc.map some) (hm : wc'.map Prod.fst = wc.map Prod.fst) (hk : ∀ q : Nat, q < H.size → ¬ va_A wc H.size q → H1[q]? = H[q]?) (hP1 : va_P D vwCl wc' H1) : va_P D vwCl (w_repl ws is wc') H1 := by
  intro k q hq
  rcases w_repl_at is wc' ws k q hq with ⟨j, h1, h2⟩ | ⟨h1, h2⟩
  · exact hP1 j q h2
  · refine (hP k q h1).kept (hk q.1 (hP k q h1).lt ?_)
    have hlen : wc'.length = is.length := by
      have a1 := congrArg List.length his
      have a2 := congrArg List.length hm
      simp only [List.length_map] at a1 a2
      omega
    rintro (⟨j, e, hj⟩ | hj)
    · have e1 : (is.map (fun i => ws[i]?))[j]? = some (some (q.1, e)) := by rw [his, List.getElem?_map, hj]; rfl
      rw [List.getElem?_map] at e1
      cases hi : is[j]? with
      | none => rw [hi] at e1; cases e1
      | some i =>
        rw [hi] at e1
        have e2 : ws[i]? = some (q.1, e) := Option.some.inj e1
        have hki := hD.1 k i q (q.1, e) h1 e2 rfl
        subst hki
        exact h2 hlen (List.mem_of_getElem? hi)
    · have := (hP k q h1).lt
      omega
theorem w_repl_F {A : Nat → Prop} {ws wc : va_W} {is : List Nat} {H0 H : Heap} {locs : List Loc} (hD : va_D A ws) (hS : va_S A H0 H locs) (hA : ∀ q, H0.size ≤ q → A q) (his : is.map (fun i => ws[i]?) = wc.map some) : ∀ q, va_A wc H.size q → A q := va_free hD hS hA is his

variable {p : Program} {l : Launch} {e : Env} {R : Room} {s : State} {m : MethodId} {args : Array Value} {below : List Frame} {meth : Method} {c : Code} {cc : ByteArray} {nL : Nat} {ret : Option FieldType} {own : String} {D : va_G} {tys : List (ClassId × FieldType)} {A : Nat → Prop} {cells slots : Nat} {Q : State → Prop} {pc : Nat} {lv : List (Nat × Value)} {st : List Value} {ws : va_W}
theorem aw_iconst (X : Cx p s m args meth c cc nL ret own D tys A) {n : Int} {v : Int32} (hd : decode cc pc = .ok (.iconst n, 1)) (hv : Int32.ofInt n = v) (k : AW p l e R s m args below meth c D A nL cells slots Q (pc + 1) lv (.int v :: st) ws) : AW p l e R s m args below meth c D A nL cells slots Q pc lv (st) ws := fun H locs ls h1 h2 h3 hl => lv_iconst X.1.1 X.1.2.1 hd hv (k H locs ls h1 h2 h3 hl)
theorem aw_bipush (X : Cx p s m args meth c cc nL ret own D tys A) {n : Int} {v : Int32} (hd : decode cc pc = .ok (.bipush n, 2)) (hv : (Int8.ofInt n).toInt32 = v) (k : AW p l e R s m args below meth c D A nL cells slots Q (pc + 2) lv (.int v :: st) ws) : AW p l e R s m args below meth c D A nL cells slots Q pc lv (st) ws := fun H locs ls h1 h2 h3 hl => lv_bipush X.1.1 X.1.2.1 hd hv (k H locs ls h1 h2 h3 hl)
theorem aw_sipush (X : Cx p s m args meth c cc nL ret own D tys A) {n : Int} {v : Int32} (hd : decode cc pc = .ok (.sipush n, 3)) (hv : (Int16.ofInt n).toInt32 = v) (k : AW p l e R s m args below meth c D A nL cells slots Q (pc + 3) lv (.int v :: st) ws) : AW p l e R s m args below meth c D A nL cells slots Q pc lv (st) ws := fun H locs ls h1 h2 h3 hl => lv_sipush X.1.1 X.1.2.1 hd hv (k H locs ls h1 h2 h3 hl)
theorem aw_lconst (X : Cx p s m args meth c cc nL ret own D tys A) {n : Fin 2} {v : Int64} (hd : decode cc pc = .ok (.lconst n, 1)) (hv : Int64.ofNat (n : Nat) = v) (k : AW p l e R s m args below meth c D A nL cells slots Q (pc + 1) lv (.long v :: st) ws) : AW p l e R s m args below meth c D A nL cells slots Q pc lv (st) ws := fun H locs ls h1 h2 h3 hl => lv_lconst X.1.1 X.1.2.1 hd hv (k H locs ls h1 h2 h3 hl)
theorem aw_ldc (X : Cx p s m args meth c cc nL ret own D tys A) {index : Nat} {v : Int32} (hw : Cond.constant own index v ∈ TT) (hd : decode cc pc = .ok (.ldc index, 2)) (k : AW p l e R s m args below meth c D A nL cells slots Q (pc + 2) lv (.int v :: st) ws) : AW p l e R s m args below meth c D A nL cells slots Q pc lv st ws := fun H locs ls h1 h2 h3 hl => lv_ldc X.1.1 X.1.2.1 X.1.2.2.2.1 (X.1.2.2.2.2 _ hw) hd (k H locs ls h1 h2 h3 hl)
theorem aw_ldc2 (X : Cx p s m args meth c cc nL ret own D tys A) {index : Nat} {v : Int64} (hw : Cond.constantLong own index v ∈ TT) (hd : decode cc pc = .ok (.ldc2_w index, 3)) (k : AW p l e R s m args below meth c D A nL cells slots Q (pc + 3) lv (.long v :: st) ws) : AW p l e R s m args below meth c D A nL cells slots Q pc lv st ws := fun H locs ls h1 h2 h3 hl => lv_ldc2 X.1.1 X.1.2.1 X.1.2.2.2.1 (X.1.2.2.2.2 _ hw) hd (k H locs ls h1 h2 h3 hl)
theorem aw_ldcf (X : Cx p s m args meth c cc nL ret own D tys A) {index : Nat} {v : UInt32} (hw : Cond.constantFloat own index v ∈ TT) (hd : decode cc pc = .ok (.ldc index, 2)) (k : AW p l e R s m args below meth c D A nL cells slots Q (pc + 2) lv (.float v :: st) ws) : AW p l e R s m args below meth c D A nL cells slots Q pc lv st ws := fun H locs ls h1 h2 h3 hl => lv_ldcf X.1.1 X.1.2.1 X.1.2.2.2.1 (X.1.2.2.2.2 _ hw) hd (k H locs ls h1 h2 h3 hl)
theorem aw_iload_n (X : Cx p s m args meth c cc nL ret own D tys A) {kk : Fin 4} {x : Int32} (j : Nat) {i : Nat} (hj : lv[j]? = some (i, .int x)) (hi : (kk : Nat) = i) (hd : decode cc pc = .ok (.iload_n kk, 1)) (k : AW p l e R s m args below meth c D A nL cells slots Q (pc + 1) lv (.int x :: st) ws) : AW p l e R s m args below meth c D A nL cells slots Q pc lv st ws := fun H locs ls h1 h2 h3 hl => lv_iload_n X.1.1 X.1.2.1 hd hi (lv_at hl j hj) (k H locs ls h1 h2 h3 hl)
theorem aw_iload (X : Cx p s m args meth c cc nL ret own D tys A) {x : Int32} (j : Nat) {i : Nat} (hj : lv[j]? = some (i, .int x)) (hd : decode cc pc = .ok (.iload i, 2)) (k : AW p l e R s m args below meth c D A nL cells slots Q (pc + 2) lv (.int x :: st) ws) : AW p l e R s m args below meth c D A nL cells slots Q pc lv st ws := fun H locs ls h1 h2 h3 hl => lv_iload X.1.1 X.1.2.1 hd (lv_at hl j hj) (k H locs ls h1 h2 h3 hl)
theorem aw_istore_n (X : Cx p s m args meth c cc nL ret own D tys A) {kk : Fin 4} {x : Int32} {i : Nat} {lv' : List (Nat × Value)} (hi : (kk : Nat) = i) (hn : i < nL) (hl' : (i, Value.int x) :: lv.filter (fun q => !(q.1 == i) && !(q.1 + 1 == i && q.2.category == 2)) = lv') (hd : decode cc pc = .ok (.istore_n kk, 1)) (k : AW p l e R s m args below meth c D A nL cells slots Q (pc + 1) lv' st ws) : AW p l e R s m args below meth c D A nL cells slots Q pc lv (.int x :: st) ws := fun H locs ls h1 h2 h3 hl => lv_istore_n X.1.1 X.1.2.1 hd hi hl hn hl' (fun ls' hl9 => k H locs ls' h1 h2 h3 hl9)
theorem aw_istore (X : Cx p s m args meth c cc nL ret own D tys A) {x : Int32} {i : Nat} {lv' : List (Nat × Value)} (hn : i < nL) (hl' : (i, Value.int x) :: lv.filter (fun q => !(q.1 == i) && !(q.1 + 1 == i && q.2.category == 2)) = lv') (hd : decode cc pc = .ok (.istore i, 2)) (k : AW p l e R s m args below meth c D A nL cells slots Q (pc + 2) lv' st ws) : AW p l e R s m args below meth c D A nL cells slots Q pc lv (.int x :: st) ws := fun H locs ls h1 h2 h3 hl => lv_istore X.1.1 X.1.2.1 hd hl hn hl' (fun ls' hl9 => k H locs ls' h1 h2 h3 hl9)
theorem aw_lload_n (X : Cx p s m args meth c cc nL ret own D tys A) {kk : Fin 4} {x : Int64} (j : Nat) {i : Nat} (hj : lv[j]? = some (i, .long x)) (hi : (kk : Nat) = i) (hd : decode cc pc = .ok (.lload_n kk, 1)) (k : AW p l e R s m args below meth c D A nL cells slots Q (pc + 1) lv (.long x :: st) ws) : AW p l e R s m args below meth c D A nL cells slots Q pc lv st ws := fun H locs ls h1 h2 h3 hl => lv_lload_n X.1.1 X.1.2.1 hd hi (lv_at hl j hj) (k H locs ls h1 h2 h3 hl)
theorem aw_lload (X : Cx p s m args meth c cc nL ret own D tys A) {x : Int64} (j : Nat) {i : Nat} (hj : lv[j]? = some (i, .long x)) (hd : decode cc pc = .ok (.lload i, 2)) (k : AW p l e R s m args below meth c D A nL cells slots Q (pc + 2) lv (.long x :: st) ws) : AW p l e R s m args below meth c D A nL cells slots Q pc lv st ws := fun H locs ls h1 h2 h3 hl => lv_lload X.1.1 X.1.2.1 hd (lv_at hl j hj) (k H locs ls h1 h2 h3 hl)
theorem aw_lstore_n (X : Cx p s m args meth c cc nL ret own D tys A) {kk : Fin 4} {x : Int64} {i : Nat} {lv' : List (Nat × Value)} (hi : (kk : Nat) = i) (hn : i + 1 < nL) (hl' : (i, Value.long x) :: lv.filter (fun q => !(q.1 == i) && (!(q.1 == i + 1) && !(q.1 + 1 == i && q.2.category == 2))) = lv') (hd : decode cc pc = .ok (.lstore_n kk, 1)) (k : AW p l e R s m args below meth c D A nL cells slots Q (pc + 1) lv' st ws) : AW p l e R s m args below meth c D A nL cells slots Q pc lv (.long x :: st) ws := fun H locs ls h1 h2 h3 hl => lv_lstore_n X.1.1 X.1.2.1 hd hi hl hn hl' (fun ls' hl9 => k H locs ls' h1 h2 h3 hl9)
theorem aw_lstore (X : Cx p s m args meth c cc nL ret own D tys A) {x : Int64} {i : Nat} {lv' : List (Nat × Value)} (hn : i + 1 < nL) (hl' : (i, Value.long x) :: lv.filter (fun q => !(q.1 == i) && (!(q.1 == i + 1) && !(q.1 + 1 == i && q.2.category == 2))) = lv') (hd : decode cc pc = .ok (.lstore i, 2)) (k : AW p l e R s m args below meth c D A nL cells slots Q (pc + 2) lv' st ws) : AW p l e R s m args below meth c D A nL cells slots Q pc lv (.long x :: st) ws := fun H locs ls h1 h2 h3 hl => lv_lstore X.1.1 X.1.2.1 hd hl hn hl' (fun ls' hl9 => k H locs ls' h1 h2 h3 hl9)
theorem aw_aload_n (X : Cx p s m args meth c cc nL ret own D tys A) {kk : Fin 4} {x : Nat} (j : Nat) {i : Nat} (hj : lv[j]? = some (i, .ref x)) (hi : (kk : Nat) = i) (hd : decode cc pc = .ok (.aload_n kk, 1)) (k : AW p l e R s m args below meth c D A nL cells slots Q (pc + 1) lv (.ref x :: st) ws) : AW p l e R s m args below meth c D A nL cells slots Q pc lv st ws := fun H locs ls h1 h2 h3 hl => lv_aload_n X.1.1 X.1.2.1 hd hi (lv_at hl j hj) (k H locs ls h1 h2 h3 hl)
theorem aw_aload (X : Cx p s m args meth c cc nL ret own D tys A) {x : Nat} (j : Nat) {i : Nat} (hj : lv[j]? = some (i, .ref x)) (hd : decode cc pc = .ok (.aload i, 2)) (k : AW p l e R s m args below meth c D A nL cells slots Q (pc + 2) lv (.ref x :: st) ws) : AW p l e R s m args below meth c D A nL cells slots Q pc lv st ws := fun H locs ls h1 h2 h3 hl => lv_aload X.1.1 X.1.2.1 hd (lv_at hl j hj) (k H locs ls h1 h2 h3 hl)
theorem aw_astore_n (X : Cx p s m args meth c cc nL ret own D tys A) {kk : Fin 4} {x : Nat} {i : Nat} {lv' : List (Nat × Value)} (hi : (kk : Nat) = i) (hn : i < nL) (hl' : (i, Value.ref x) :: lv.filter (fun q => !(q.1 == i) && !(q.1 + 1 == i && q.2.category == 2)) = lv') (hd : decode cc pc = .ok (.astore_n kk, 1)) (k : AW p l e R s m args below meth c D A nL cells slots Q (pc + 1) lv' st ws) : AW p l e R s m args below meth c D A nL cells slots Q pc lv (.ref x :: st) ws := fun H locs ls h1 h2 h3 hl => lv_astore_n X.1.1 X.1.2.1 hd hi hl hn hl' (fun ls' hl9 => k H locs ls' h1 h2 h3 hl9)
theorem aw_astore (X : Cx p s m args meth c cc nL ret own D tys A) {x : Nat} {i : Nat} {lv' : List (Nat × Value)} (hn : i < nL) (hl' : (i, Value.ref x) :: lv.filter (fun q => !(q.1 == i) && !(q.1 + 1 == i && q.2.category == 2)) = lv') (hd : decode cc pc = .ok (.astore i, 2)) (k : AW p l e R s m args below meth c D A nL cells slots Q (pc + 2) lv' st ws) : AW p l e R s m args below meth c D A nL cells slots Q pc lv (.ref x :: st) ws := fun H locs ls h1 h2 h3 hl => lv_astore X.1.1 X.1.2.1 hd hl hn hl' (fun ls' hl9 => k H locs ls' h1 h2 h3 hl9)
theorem aw_iinc (X : Cx p s m args meth c cc nL ret own D tys A) {i kx : Nat} {n : Int} {x v : Int32} {lv' : List (Nat × Value)} (hk : lv[kx]? = some (i, .int x)) (hv : x + Int32.ofInt n = v) (hn : i < nL) (hl' : (i, Value.int v) :: lv.filter (fun q => !(q.1 == i) && !(q.1 + 1 == i && q.2.category == 2)) = lv') (hd : decode cc pc = .ok (.iinc i n, 3)) (k : AW p l e R s m args below meth c D A nL cells slots Q (pc + 3) lv' st ws) : AW p l e R s m args below meth c D A nL cells slots Q pc lv st ws := fun H locs ls h1 h2 h3 hl => lv_iinc X.1.1 X.1.2.1 hd hl hk hv hn hl' (fun ls' hl9 => k H locs ls' h1 h2 h3 hl9)
theorem aw_iadd (X : Cx p s m args meth c cc nL ret own D tys A) {x y : Int32} {z : Int32} (hz : x + y = z)  (hd : decode cc pc = .ok (.iadd, 1)) (k : AW p l e R s m args below meth c D A nL cells slots Q (pc + 1) lv (.int z :: st) ws) : AW p l e R s m args below meth c D A nL cells slots Q pc lv (.int y :: .int x :: st) ws := by subst hz; exact fun H locs ls h1 h2 h3 hl => lv_iadd X.1.1 X.1.2.1 hd  (k H locs ls h1 h2 h3 hl)
theorem aw_isub (X : Cx p s m args meth c cc nL ret own D tys A) {x y : Int32} {z : Int32} (hz : x - y = z)  (hd : decode cc pc = .ok (.isub, 1)) (k : AW p l e R s m args below meth c D A nL cells slots Q (pc + 1) lv (.int z :: st) ws) : AW p l e R s m args below meth c D A nL cells slots Q pc lv (.int y :: .int x :: st) ws := by subst hz; exact fun H locs ls h1 h2 h3 hl => lv_isub X.1.1 X.1.2.1 hd  (k H locs ls h1 h2 h3 hl)
theorem aw_imul (X : Cx p s m args meth c cc nL ret own D tys A) {x y : Int32} {z : Int32} (hz : x * y = z)  (hd : decode cc pc = .ok (.imul, 1)) (k : AW p l e R s m args below meth c D A nL cells slots Q (pc + 1) lv (.int z :: st) ws) : AW p l e R s m args below meth c D A nL cells slots Q pc lv (.int y :: .int x :: st) ws := by subst hz; exact fun H locs ls h1 h2 h3 hl => lv_imul X.1.1 X.1.2.1 hd  (k H locs ls h1 h2 h3 hl)
theorem aw_iand (X : Cx p s m args meth c cc nL ret own D tys A) {x y : Int32} {z : Int32} (hz : x &&& y = z)  (hd : decode cc pc = .ok (.iand, 1)) (k : AW p l e R s m args below meth c D A nL cells slots Q (pc + 1) lv (.int z :: st) ws) : AW p l e R s m args below meth c D A nL cells slots Q pc lv (.int y :: .int x :: st) ws := by subst hz; exact fun H locs ls h1 h2 h3 hl => lv_iand X.1.1 X.1.2.1 hd  (k H locs ls h1 h2 h3 hl)
theorem aw_ior (X : Cx p s m args meth c cc nL ret own D tys A) {x y : Int32} {z : Int32} (hz : x ||| y = z)  (hd : decode cc pc = .ok (.ior, 1)) (k : AW p l e R s m args below meth c D A nL cells slots Q (pc + 1) lv (.int z :: st) ws) : AW p l e R s m args below meth c D A nL cells slots Q pc lv (.int y :: .int x :: st) ws := by subst hz; exact fun H locs ls h1 h2 h3 hl => lv_ior X.1.1 X.1.2.1 hd  (k H locs ls h1 h2 h3 hl)
theorem aw_ixor (X : Cx p s m args meth c cc nL ret own D tys A) {x y : Int32} {z : Int32} (hz : x ^^^ y = z)  (hd : decode cc pc = .ok (.ixor, 1)) (k : AW p l e R s m args below meth c D A nL cells slots Q (pc + 1) lv (.int z :: st) ws) : AW p l e R s m args below meth c D A nL cells slots Q pc lv (.int y :: .int x :: st) ws := by subst hz; exact fun H locs ls h1 h2 h3 hl => lv_ixor X.1.1 X.1.2.1 hd  (k H locs ls h1 h2 h3 hl)
theorem aw_ishl (X : Cx p s m args meth c cc nL ret own D tys A) {x y : Int32} {z : Int32} (hz : x <<< (y &&& 31) = z)  (hd : decode cc pc = .ok (.ishl, 1)) (k : AW p l e R s m args below meth c D A nL cells slots Q (pc + 1) lv (.int z :: st) ws) : AW p l e R s m args below meth c D A nL cells slots Q pc lv (.int y :: .int x :: st) ws := by subst hz; exact fun H locs ls h1 h2 h3 hl => lv_ishl X.1.1 X.1.2.1 hd  (k H locs ls h1 h2 h3 hl)
theorem aw_ishr (X : Cx p s m args meth c cc nL ret own D tys A) {x y : Int32} {z : Int32} (hz : x >>> (y &&& 31) = z)  (hd : decode cc pc = .ok (.ishr, 1)) (k : AW p l e R s m args below meth c D A nL cells slots Q (pc + 1) lv (.int z :: st) ws) : AW p l e R s m args below meth c D A nL cells slots Q pc lv (.int y :: .int x :: st) ws := by subst hz; exact fun H locs ls h1 h2 h3 hl => lv_ishr X.1.1 X.1.2.1 hd  (k H locs ls h1 h2 h3 hl)
theorem aw_idiv (X : Cx p s m args meth c cc nL ret own D tys A) {x y : Int32} {z : Int32} (hz : x / y = z) (hne : ¬ y = 0) (hd : decode cc pc = .ok (.idiv, 1)) (k : AW p l e R s m args below meth c D A nL cells slots Q (pc + 1) lv (.int z :: st) ws) : AW p l e R s m args below meth c D A nL cells slots Q pc lv (.int y :: .int x :: st) ws := by subst hz; exact fun H locs ls h1 h2 h3 hl => lv_idiv X.1.1 X.1.2.1 hd hne (k H locs ls h1 h2 h3 hl)
theorem aw_irem (X : Cx p s m args meth c cc nL ret own D tys A) {x y : Int32} {z : Int32} (hz : x - x / y * y = z) (hne : ¬ y = 0) (hd : decode cc pc = .ok (.irem, 1)) (k : AW p l e R s m args below meth c D A nL cells slots Q (pc + 1) lv (.int z :: st) ws) : AW p l e R s m args below meth c D A nL cells slots Q pc lv (.int y :: .int x :: st) ws := by subst hz; exact fun H locs ls h1 h2 h3 hl => lv_irem X.1.1 X.1.2.1 hd hne (k H locs ls h1 h2 h3 hl)
theorem aw_ineg (X : Cx p s m args meth c cc nL ret own D tys A) {x : Int32} {z : Int32} (hz : -x = z)  (hd : decode cc pc = .ok (.ineg, 1)) (k : AW p l e R s m args below meth c D A nL cells slots Q (pc + 1) lv (.int z :: st) ws) : AW p l e R s m args below meth c D A nL cells slots Q pc lv (.int x :: st) ws := by subst hz; exact fun H locs ls h1 h2 h3 hl => lv_ineg X.1.1 X.1.2.1 hd  (k H locs ls h1 h2 h3 hl)
theorem aw_ladd (X : Cx p s m args meth c cc nL ret own D tys A) {x y : Int64} {z : Int64} (hz : x + y = z)  (hd : decode cc pc = .ok (.ladd, 1)) (k : AW p l e R s m args below meth c D A nL cells slots Q (pc + 1) lv (.long z :: st) ws) : AW p l e R s m args below meth c D A nL cells slots Q pc lv (.long y :: .long x :: st) ws := by subst hz; exact fun H locs ls h1 h2 h3 hl => lv_ladd X.1.1 X.1.2.1 hd  (k H locs ls h1 h2 h3 hl)
theorem aw_lsub (X : Cx p s m args meth c cc nL ret own D tys A) {x y : Int64} {z : Int64} (hz : x - y = z)  (hd : decode cc pc = .ok (.lsub, 1)) (k : AW p l e R s m args below meth c D A nL cells slots Q (pc + 1) lv (.long z :: st) ws) : AW p l e R s m args below meth c D A nL cells slots Q pc lv (.long y :: .long x :: st) ws := by subst hz; exact fun H locs ls h1 h2 h3 hl => lv_lsub X.1.1 X.1.2.1 hd  (k H locs ls h1 h2 h3 hl)
theorem aw_land (X : Cx p s m args meth c cc nL ret own D tys A) {x y : Int64} {z : Int64} (hz : x &&& y = z)  (hd : decode cc pc = .ok (.land, 1)) (k : AW p l e R s m args below meth c D A nL cells slots Q (pc + 1) lv (.long z :: st) ws) : AW p l e R s m args below meth c D A nL cells slots Q pc lv (.long y :: .long x :: st) ws := by subst hz; exact fun H locs ls h1 h2 h3 hl => lv_land X.1.1 X.1.2.1 hd  (k H locs ls h1 h2 h3 hl)
theorem aw_lor (X : Cx p s m args meth c cc nL ret own D tys A) {x y : Int64} {z : Int64} (hz : x ||| y = z)  (hd : decode cc pc = .ok (.lor, 1)) (k : AW p l e R s m args below meth c D A nL cells slots Q (pc + 1) lv (.long z :: st) ws) : AW p l e R s m args below meth c D A nL cells slots Q pc lv (.long y :: .long x :: st) ws := by subst hz; exact fun H locs ls h1 h2 h3 hl => lv_lor X.1.1 X.1.2.1 hd  (k H locs ls h1 h2 h3 hl)
theorem aw_lxor (X : Cx p s m args meth c cc nL ret own D tys A) {x y : Int64} {z : Int64} (hz : x ^^^ y = z)  (hd : decode cc pc = .ok (.lxor, 1)) (k : AW p l e R s m args below meth c D A nL cells slots Q (pc + 1) lv (.long z :: st) ws) : AW p l e R s m args below meth c D A nL cells slots Q pc lv (.long y :: .long x :: st) ws := by subst hz; exact fun H locs ls h1 h2 h3 hl => lv_lxor X.1.1 X.1.2.1 hd  (k H locs ls h1 h2 h3 hl)
theorem aw_lneg (X : Cx p s m args meth c cc nL ret own D tys A) {x : Int64} {z : Int64} (hz : -x = z)  (hd : decode cc pc = .ok (.lneg, 1)) (k : AW p l e R s m args below meth c D A nL cells slots Q (pc + 1) lv (.long z :: st) ws) : AW p l e R s m args below meth c D A nL cells slots Q pc lv (.long x :: st) ws := by subst hz; exact fun H locs ls h1 h2 h3 hl => lv_lneg X.1.1 X.1.2.1 hd  (k H locs ls h1 h2 h3 hl)
theorem aw_i2l (X : Cx p s m args meth c cc nL ret own D tys A) {x : Int32} {z : Int64} (hz : x.toInt64 = z)  (hd : decode cc pc = .ok (.i2l, 1)) (k : AW p l e R s m args below meth c D A nL cells slots Q (pc + 1) lv (.long z :: st) ws) : AW p l e R s m args below meth c D A nL cells slots Q pc lv (.int x :: st) ws := by subst hz; exact fun H locs ls h1 h2 h3 hl => lv_i2l X.1.1 X.1.2.1 hd rfl (k H locs ls h1 h2 h3 hl)
theorem aw_l2i (X : Cx p s m args meth c cc nL ret own D tys A) {x : Int64} {z : Int32} (hz : x.toInt32 = z)  (hd : decode cc pc = .ok (.l2i, 1)) (k : AW p l e R s m args below meth c D A nL cells slots Q (pc + 1) lv (.int z :: st) ws) : AW p l e R s m args below meth c D A nL cells slots Q pc lv (.long x :: st) ws := by subst hz; exact fun H locs ls h1 h2 h3 hl => lv_l2i X.1.1 X.1.2.1 hd rfl (k H locs ls h1 h2 h3 hl)
theorem aw_iushr (X : Cx p s m args meth c cc nL ret own D tys A) {x y : Int32} {z : Int32} (hz : (x.toUInt32 >>> (y.toUInt32 &&& Int32.toUInt32 31)).toInt32 = z)  (hd : decode cc pc = .ok (.iushr, 1)) (k : AW p l e R s m args below meth c D A nL cells slots Q (pc + 1) lv (.int z :: st) ws) : AW p l e R s m args below meth c D A nL cells slots Q pc lv (.int y :: .int x :: st) ws := by subst hz; exact fun H locs ls h1 h2 h3 hl => lv_iushr X.1.1 X.1.2.1 hd rfl (k H locs ls h1 h2 h3 hl)
theorem aw_lushr (X : Cx p s m args meth c cc nL ret own D tys A) {x : Int64} {y : Int32} {z : Int64} (hz : (x.toUInt64 >>> (y.toInt64.toUInt64 &&& Int64.toUInt64 63)).toInt64 = z)  (hd : decode cc pc = .ok (.lushr, 1)) (k : AW p l e R s m args below meth c D A nL cells slots Q (pc + 1) lv (.long z :: st) ws) : AW p l e R s m args below meth c D A nL cells slots Q pc lv (.int y :: .long x :: st) ws := by subst hz; exact fun H locs ls h1 h2 h3 hl => lv_lushr X.1.1 X.1.2.1 hd rfl (k H locs ls h1 h2 h3 hl)
theorem aw_lshl (X : Cx p s m args meth c cc nL ret own D tys A) {x : Int64} {y : Int32} {z : Int64} (hz : x <<< (y.toInt64 &&& 63) = z)  (hd : decode cc pc = .ok (.lshl, 1)) (k : AW p l e R s m args below meth c D A nL cells slots Q (pc + 1) lv (.long z :: st) ws) : AW p l e R s m args below meth c D A nL cells slots Q pc lv (.int y :: .long x :: st) ws := by subst hz; exact fun H locs ls h1 h2 h3 hl => lv_lshl X.1.1 X.1.2.1 hd rfl (k H locs ls h1 h2 h3 hl)
theorem aw_lcmp (X : Cx p s m args meth c cc nL ret own D tys A) {x y : Int64} (hd : decode cc pc = .ok (.lcmp, 1)) (k : AW p l e R s m args below meth c D A nL cells slots Q (pc + 1) lv (.int (lg_cmp x y) :: st) ws) : AW p l e R s m args below meth c D A nL cells slots Q pc lv (.long y :: .long x :: st) ws := fun H locs ls h1 h2 h3 hl => W.lcmp X.1.1 X.1.2.1 hd (k H locs ls h1 h2 h3 hl)
theorem aw_i2f (X : Cx p s m args meth c cc nL ret own D tys A) {x : Int32} (hd : decode cc pc = .ok (.i2f, 1))  (k : AW p l e R s m args below meth c D A nL cells slots Q (pc + 1) lv (.float (FP.i2f x) :: st) ws) : AW p l e R s m args below meth c D A nL cells slots Q pc lv (.int x :: st) ws := fun H locs ls h1 h2 h3 hl => lv_i2f X.1.1 X.1.2.1 hd  (k H locs ls h1 h2 h3 hl)
theorem aw_f2i (X : Cx p s m args meth c cc nL ret own D tys A) {x : UInt32} (hd : decode cc pc = .ok (.f2i, 1))  (k : AW p l e R s m args below meth c D A nL cells slots Q (pc + 1) lv (.int (FP.f2i x) :: st) ws) : AW p l e R s m args below meth c D A nL cells slots Q pc lv (.float x :: st) ws := fun H locs ls h1 h2 h3 hl => lv_f2i X.1.1 X.1.2.1 hd  (k H locs ls h1 h2 h3 hl)
theorem aw_fmul (X : Cx p s m args meth c cc nL ret own D tys A) {x y : UInt32} (hd : decode cc pc = .ok (.fmul, 1)) (hne : vf_n32 (FP.fmul x y)) (k : AW p l e R s m args below meth c D A nL cells slots Q (pc + 1) lv (.float (FP.fmul x y) :: st) ws) : AW p l e R s m args below meth c D A nL cells slots Q pc lv (.float y :: .float x :: st) ws := fun H locs ls h1 h2 h3 hl => lv_fmul X.1.1 X.1.2.1 hd hne (k H locs ls h1 h2 h3 hl)
theorem aw_dup (X : Cx p s m args meth c cc nL ret own D tys A) {va : Value} (hd : decode cc pc = .ok (.dup, 1)) (hva : va.category = 1) (k : AW p l e R s m args below meth c D A nL cells slots Q (pc + 1) lv (va :: va :: st) ws) : AW p l e R s m args below meth c D A nL cells slots Q pc lv (va :: st) ws := fun H locs ls h1 h2 h3 hl => lv_dup X.1.1 X.1.2.1 hd hva (k H locs ls h1 h2 h3 hl)
theorem aw_dup2_11 (X : Cx p s m args meth c cc nL ret own D tys A) {va vb : Value} (hd : decode cc pc = .ok (.dup2, 1)) (hva : va.category = 1) (hvb : vb.category = 1) (k : AW p l e R s m args below meth c D A nL cells slots Q (pc + 1) lv (va :: vb :: va :: vb :: st) ws) : AW p l e R s m args below meth c D A nL cells slots Q pc lv (va :: vb :: st) ws := fun H locs ls h1 h2 h3 hl => lv_dup2_11 X.1.1 X.1.2.1 hd hva hvb (k H locs ls h1 h2 h3 hl)
theorem aw_dup2_2 (X : Cx p s m args meth c cc nL ret own D tys A) {va : Value} (hd : decode cc pc = .ok (.dup2, 1)) (hva : va.category = 2) (k : AW p l e R s m args below meth c D A nL cells slots Q (pc + 1) lv (va :: va :: st) ws) : AW p l e R s m args below meth c D A nL cells slots Q pc lv (va :: st) ws := fun H locs ls h1 h2 h3 hl => lv_dup2_2 X.1.1 X.1.2.1 hd hva (k H locs ls h1 h2 h3 hl)
theorem aw_if_eq (X : Cx p s m args meth c cc nL ret own D tys A) {x : Int32} {off : Int} {tgt : Nat} (ht : (pc : Int) + off = (tgt : Int)) (hd : decode cc pc = .ok (.ifCond .eq off, 3)) (kt : x = 0 → AW p l e R s m args below meth c D A nL cells slots Q tgt lv st ws) (kf : ¬ (x = 0) → AW p l e R s m args below meth c D A nL cells slots Q (pc + 3) lv st ws) : AW p l e R s m args below meth c D A nL cells slots Q pc lv (.int x :: st) ws := fun H locs ls h1 h2 h3 hl => lv_if_eq X.1.1 X.1.2.1 hd ht (fun q => kt q H locs ls h1 h2 h3 hl) (fun q => kf q H locs ls h1 h2 h3 hl)
theorem aw_icmp_eq (X : Cx p s m args meth c cc nL ret own D tys A) {x y : Int32} {off : Int} {tgt : Nat} (ht : (pc : Int) + off = (tgt : Int)) (hd : decode cc pc = .ok (.if_icmp .eq off, 3)) (kt : x = y → AW p l e R s m args below meth c D A nL cells slots Q tgt lv st ws) (kf : ¬ (x = y) → AW p l e R s m args below meth c D A nL cells slots Q (pc + 3) lv st ws) : AW p l e R s m args below meth c D A nL cells slots Q pc lv (.int y :: .int x :: st) ws := fun H locs ls h1 h2 h3 hl => lv_icmp_eq X.1.1 X.1.2.1 hd ht (fun q => kt q H locs ls h1 h2 h3 hl) (fun q => kf q H locs ls h1 h2 h3 hl)
theorem aw_if_ne (X : Cx p s m args meth c cc nL ret own D tys A) {x : Int32} {off : Int} {tgt : Nat} (ht : (pc : Int) + off = (tgt : Int)) (hd : decode cc pc = .ok (.ifCond .ne off, 3)) (kt : ¬ x = 0 → AW p l e R s m args below meth c D A nL cells slots Q tgt lv st ws) (kf : x = 0 → AW p l e R s m args below meth c D A nL cells slots Q (pc + 3) lv st ws) : AW p l e R s m args below meth c D A nL cells slots Q pc lv (.int x :: st) ws := fun H locs ls h1 h2 h3 hl => lv_if_ne X.1.1 X.1.2.1 hd ht (fun q => kt q H locs ls h1 h2 h3 hl) (fun q => kf q H locs ls h1 h2 h3 hl)
theorem aw_icmp_ne (X : Cx p s m args meth c cc nL ret own D tys A) {x y : Int32} {off : Int} {tgt : Nat} (ht : (pc : Int) + off = (tgt : Int)) (hd : decode cc pc = .ok (.if_icmp .ne off, 3)) (kt : ¬ x = y → AW p l e R s m args below meth c D A nL cells slots Q tgt lv st ws) (kf : x = y → AW p l e R s m args below meth c D A nL cells slots Q (pc + 3) lv st ws) : AW p l e R s m args below meth c D A nL cells slots Q pc lv (.int y :: .int x :: st) ws := fun H locs ls h1 h2 h3 hl => lv_icmp_ne X.1.1 X.1.2.1 hd ht (fun q => kt q H locs ls h1 h2 h3 hl) (fun q => kf q H locs ls h1 h2 h3 hl)
theorem aw_if_lt (X : Cx p s m args meth c cc nL ret own D tys A) {x : Int32} {off : Int} {tgt : Nat} (ht : (pc : Int) + off = (tgt : Int)) (hd : decode cc pc = .ok (.ifCond .lt off, 3)) (kt : x < 0 → AW p l e R s m args below meth c D A nL cells slots Q tgt lv st ws) (kf : ¬ (x < 0) → AW p l e R s m args below meth c D A nL cells slots Q (pc + 3) lv st ws) : AW p l e R s m args below meth c D A nL cells slots Q pc lv (.int x :: st) ws := fun H locs ls h1 h2 h3 hl => lv_if_lt X.1.1 X.1.2.1 hd ht (fun q => kt q H locs ls h1 h2 h3 hl) (fun q => kf q H locs ls h1 h2 h3 hl)
theorem aw_icmp_lt (X : Cx p s m args meth c cc nL ret own D tys A) {x y : Int32} {off : Int} {tgt : Nat} (ht : (pc : Int) + off = (tgt : Int)) (hd : decode cc pc = .ok (.if_icmp .lt off, 3)) (kt : x < y → AW p l e R s m args below meth c D A nL cells slots Q tgt lv st ws) (kf : ¬ (x < y) → AW p l e R s m args below meth c D A nL cells slots Q (pc + 3) lv st ws) : AW p l e R s m args below meth c D A nL cells slots Q pc lv (.int y :: .int x :: st) ws := fun H locs ls h1 h2 h3 hl => lv_icmp_lt X.1.1 X.1.2.1 hd ht (fun q => kt q H locs ls h1 h2 h3 hl) (fun q => kf q H locs ls h1 h2 h3 hl)
theorem aw_if_ge (X : Cx p s m args meth c cc nL ret own D tys A) {x : Int32} {off : Int} {tgt : Nat} (ht : (pc : Int) + off = (tgt : Int)) (hd : decode cc pc = .ok (.ifCond .ge off, 3)) (kt : 0 ≤ x → AW p l e R s m args below meth c D A nL cells slots Q tgt lv st ws) (kf : ¬ (0 ≤ x) → AW p l e R s m args below meth c D A nL cells slots Q (pc + 3) lv st ws) : AW p l e R s m args below meth c D A nL cells slots Q pc lv (.int x :: st) ws := fun H locs ls h1 h2 h3 hl => lv_if_ge X.1.1 X.1.2.1 hd ht (fun q => kt q H locs ls h1 h2 h3 hl) (fun q => kf q H locs ls h1 h2 h3 hl)
theorem aw_icmp_ge (X : Cx p s m args meth c cc nL ret own D tys A) {x y : Int32} {off : Int} {tgt : Nat} (ht : (pc : Int) + off = (tgt : Int)) (hd : decode cc pc = .ok (.if_icmp .ge off, 3)) (kt : y ≤ x → AW p l e R s m args below meth c D A nL cells slots Q tgt lv st ws) (kf : ¬ (y ≤ x) → AW p l e R s m args below meth c D A nL cells slots Q (pc + 3) lv st ws) : AW p l e R s m args below meth c D A nL cells slots Q pc lv (.int y :: .int x :: st) ws := fun H locs ls h1 h2 h3 hl => lv_icmp_ge X.1.1 X.1.2.1 hd ht (fun q => kt q H locs ls h1 h2 h3 hl) (fun q => kf q H locs ls h1 h2 h3 hl)
theorem aw_if_gt (X : Cx p s m args meth c cc nL ret own D tys A) {x : Int32} {off : Int} {tgt : Nat} (ht : (pc : Int) + off = (tgt : Int)) (hd : decode cc pc = .ok (.ifCond .gt off, 3)) (kt : 0 < x → AW p l e R s m args below meth c D A nL cells slots Q tgt lv st ws) (kf : ¬ (0 < x) → AW p l e R s m args below meth c D A nL cells slots Q (pc + 3) lv st ws) : AW p l e R s m args below meth c D A nL cells slots Q pc lv (.int x :: st) ws := fun H locs ls h1 h2 h3 hl => lv_if_gt X.1.1 X.1.2.1 hd ht (fun q => kt q H locs ls h1 h2 h3 hl) (fun q => kf q H locs ls h1 h2 h3 hl)
theorem aw_icmp_gt (X : Cx p s m args meth c cc nL ret own D tys A) {x y : Int32} {off : Int} {tgt : Nat} (ht : (pc : Int) + off = (tgt : Int)) (hd : decode cc pc = .ok (.if_icmp .gt off, 3)) (kt : y < x → AW p l e R s m args below meth c D A nL cells slots Q tgt lv st ws) (kf : ¬ (y < x) → AW p l e R s m args below meth c D A nL cells slots Q (pc + 3) lv st ws) : AW p l e R s m args below meth c D A nL cells slots Q pc lv (.int y :: .int x :: st) ws := fun H locs ls h1 h2 h3 hl => lv_icmp_gt X.1.1 X.1.2.1 hd ht (fun q => kt q H locs ls h1 h2 h3 hl) (fun q => kf q H locs ls h1 h2 h3 hl)
theorem aw_if_le (X : Cx p s m args meth c cc nL ret own D tys A) {x : Int32} {off : Int} {tgt : Nat} (ht : (pc : Int) + off = (tgt : Int)) (hd : decode cc pc = .ok (.ifCond .le off, 3)) (kt : x ≤ 0 → AW p l e R s m args below meth c D A nL cells slots Q tgt lv st ws) (kf : ¬ (x ≤ 0) → AW p l e R s m args below meth c D A nL cells slots Q (pc + 3) lv st ws) : AW p l e R s m args below meth c D A nL cells slots Q pc lv (.int x :: st) ws := fun H locs ls h1 h2 h3 hl => lv_if_le X.1.1 X.1.2.1 hd ht (fun q => kt q H locs ls h1 h2 h3 hl) (fun q => kf q H locs ls h1 h2 h3 hl)
theorem aw_icmp_le (X : Cx p s m args meth c cc nL ret own D tys A) {x y : Int32} {off : Int} {tgt : Nat} (ht : (pc : Int) + off = (tgt : Int)) (hd : decode cc pc = .ok (.if_icmp .le off, 3)) (kt : x ≤ y → AW p l e R s m args below meth c D A nL cells slots Q tgt lv st ws) (kf : ¬ (x ≤ y) → AW p l e R s m args below meth c D A nL cells slots Q (pc + 3) lv st ws) : AW p l e R s m args below meth c D A nL cells slots Q pc lv (.int y :: .int x :: st) ws := fun H locs ls h1 h2 h3 hl => lv_icmp_le X.1.1 X.1.2.1 hd ht (fun q => kt q H locs ls h1 h2 h3 hl) (fun q => kf q H locs ls h1 h2 h3 hl)
theorem aw_goto (X : Cx p s m args meth c cc nL ret own D tys A) {off : Int} {tgt : Nat} (ht : (pc : Int) + off = (tgt : Int)) (hd : decode cc pc = .ok (.goto off, 3)) (k : AW p l e R s m args below meth c D A nL cells slots Q tgt lv st ws) : AW p l e R s m args below meth c D A nL cells slots Q pc lv st ws := fun H locs ls h1 h2 h3 hl => lv_goto X.1.1 X.1.2.1 hd ht (k H locs ls h1 h2 h3 hl)
theorem aw_get (X : Cx p s m args meth c cc nL ret own D tys A) {C : String} {T : u_T} {N ci index a : Nat} {fs : List Value} {v : Value} (hin : ∀ w ∈ u_ws C T N, w ∈ TT) (q0 : Nat) (k0 : Nat) (he : ws[q0]? = some (a, .inr (ci, fs))) (hc : vwCl[ci]? = some (C, T, N)) (hk : k0 < N) (hlink : Cond.fieldLink own index (T k0).1 (T k0).2.1 (T k0).2.2.1 ∈ TT) (hv : fs[k0]? = some v) (hd : decode cc pc = .ok (.getfield index, 3)) (k : AW p l e R s m args below meth c D A nL cells slots Q (pc + 3) lv (v :: st) ws) : AW p l e R s m args below meth c D A nL cells slots Q pc lv (.ref a :: st) ws := fun H locs ls h1 h2 h3 hl => va_get X.1.1 X.1.2.1 X.1.2.2.2.2 hin X.1.2.2.2.1 X.2.2.2.1.1 h1 q0 he hc k0 hk (X.1.2.2.2.2 _ hlink) (fun _ h9 => h9) hv hd (k H locs ls h1 h2 h3 hl)
theorem aw_put (X : Cx p s m args meth c cc nL ret own D tys A) {C : String} {T : u_T} {N ci index a : Nat} {fs : List Value} {v : Value} {ty : FieldType} {ws' : va_W} (ty0 : Nat → FieldType) (hty : ∀ k, k < N → parseFieldDescriptor (T k).2.2.1 = some (ty0 k)) (hnm : ∀ a, a < N → ∀ b, b < N → a ≠ b → (T a).2.1 ≠ (T b).2.1) (hin : ∀ w ∈ u_ws C T N, w ∈ TT) (q0 : Nat) (k0 : Nat) (he : ws[q0]? = some (a, .inr (ci, fs))) (hc : vwCl[ci]? = some (C, T, N)) (hk : k0 < N) (hlink : Cond.fieldLink own index (T k0).1 (T k0).2.1 (T k0).2.2.1 ∈ TT) (hfin : (T k0).2.2.2 = false) (hdd : parseFieldDescriptor (T k0).2.2.1 = some ty) (hn : narrow ty v = v) (hfit : fits ty v = true) (hl0 : k0 < fs.length) (hws : ws.set q0 (a, .inr (ci, fs.set k0 v)) = ws') (hd : decode cc pc = .ok (.putfield index, 3)) (k : AW p l e R s m args below meth c D A nL cells slots Q (pc + 3) lv st ws') : AW p l e R s m args below meth c D A nL cells slots Q pc lv (v :: .ref a :: st) ws := by subst hws; exact fun H locs ls h1 h2 h3 hl => va_put X.1.1 X.1.2.1 X.1.2.2.2.2 hin ty0 hty hnm X.1.2.2.2.1 X.2.2.2.1.1 h1 h2 h3 q0 he hc k0 hk (X.1.2.2.2.2 _ hlink) (fun _ h9 => h9) hfin hdd hn hfit hl0 hd (fun H1 locs1 g1 g2 g3 => k H1 locs1 ls g1 g2 g3 hl)
theorem aw_iald (X : Cx p s m args meth c cc nL ret own D tys A) (q0 t0 : Nat) {cA : ClassId} {n a : Nat} {f : Nat → Int32} {i : Int32} (j : Nat) (hi : i = nI j) (ha : ws[q0]? = some (a, .inl (cA, n, .inl f))) (ht : tys[t0]? = some (cA, .int)) (hn : n < 2 ^ 31) (hj : j < n) (hd : decode cc pc = .ok (.iaload, 1)) (k : AW p l e R s m args below meth c D A nL cells slots Q (pc + 1) lv (.int (f j) :: st) ws) : AW p l e R s m args below meth c D A nL cells slots Q pc lv (.int i :: .ref a :: st) ws := by subst hi; exact fun H locs ls h1 h2 h3 hl => va_iald X.1.1 X.1.2.1 X.2.2.2.1.1 h1 q0 t0 ha ht (vp_in_nI hj hn) hd (by rw [nI_clamp (Nat.lt_trans hj hn)]; exact k H locs ls h1 h2 h3 hl)
theorem aw_zald (X : Cx p s m args meth c cc nL ret own D tys A) (q0 t0 : Nat) {cA : ClassId} {n a : Nat} {f : Nat → Int32} {i : Int32} (j : Nat) (hi : i = nI j) (ha : ws[q0]? = some (a, .inl (cA, n, .inl f))) (ht : tys[t0]? = some (cA, .boolean)) (hn : n < 2 ^ 31) (hj : j < n) (hd : decode cc pc = .ok (.baload, 1)) (k : AW p l e R s m args below meth c D A nL cells slots Q (pc + 1) lv (.int (f j) :: st) ws) : AW p l e R s m args below meth c D A nL cells slots Q pc lv (.int i :: .ref a :: st) ws := by subst hi; exact fun H locs ls h1 h2 h3 hl => va_zald X.1.1 X.1.2.1 X.2.2.2.1.1 h1 q0 t0 ha ht (vp_in_nI hj hn) hd (by rw [nI_clamp (Nat.lt_trans hj hn)]; exact k H locs ls h1 h2 h3 hl)
theorem aw_lald (X : Cx p s m args meth c cc nL ret own D tys A) (q0 t0 : Nat) {cA : ClassId} {n a : Nat} {f : Nat → Int64} {i : Int32} (j : Nat) (hi : i = nI j) (ha : ws[q0]? = some (a, .inl (cA, n, .inr (.inl f)))) (ht : tys[t0]? = some (cA, .long)) (hn : n < 2 ^ 31) (hj : j < n) (hd : decode cc pc = .ok (.laload, 1)) (k : AW p l e R s m args below meth c D A nL cells slots Q (pc + 1) lv (.long (f j) :: st) ws) : AW p l e R s m args below meth c D A nL cells slots Q pc lv (.int i :: .ref a :: st) ws := by subst hi; exact fun H locs ls h1 h2 h3 hl => va_lald X.1.1 X.1.2.1 X.2.2.2.1.1 h1 q0 t0 ha ht (vp_in_nI hj hn) hd (by rw [nI_clamp (Nat.lt_trans hj hn)]; exact k H locs ls h1 h2 h3 hl)
theorem aw_iast (X : Cx p s m args meth c cc nL ret own D tys A) (q0 t0 : Nat) {cA : ClassId} {n a : Nat} {f : Nat → Int32} {i : Int32} {x : Int32} {ws' : va_W} (j : Nat) (hi : i = nI j) (ha : ws[q0]? = some (a, .inl (cA, n, .inl f))) (ht : tys[t0]? = some (cA, .int)) (hn : n < 2 ^ 31) (hj : j < n) (hws : ws.set q0 (a, .inl (cA, n, .inl (upd f j x))) = ws') (hd : decode cc pc = .ok (.iastore, 1)) (k : AW p l e R s m args below meth c D A nL cells slots Q (pc + 1) lv st ws') : AW p l e R s m args below meth c D A nL cells slots Q pc lv (.int x :: .int i :: .ref a :: st) ws := by subst hi; subst hws; exact fun H locs ls h1 h2 h3 hl => va_iast X.1.1 X.1.2.1 X.2.2.2.1.1 h1 h2 h3 q0 t0 ha ht (vp_in_nI hj hn) hd (by rw [nI_clamp (Nat.lt_trans hj hn)]; exact fun H1 locs1 g1 g2 g3 => k H1 locs1 ls g1 g2 g3 hl)
theorem aw_last (X : Cx p s m args meth c cc nL ret own D tys A) (q0 t0 : Nat) {cA : ClassId} {n a : Nat} {f : Nat → Int64} {i : Int32} {x : Int64} {ws' : va_W} (j : Nat) (hi : i = nI j) (ha : ws[q0]? = some (a, .inl (cA, n, .inr (.inl f)))) (ht : tys[t0]? = some (cA, .long)) (hn : n < 2 ^ 31) (hj : j < n) (hws : ws.set q0 (a, .inl (cA, n, .inr (.inl (vp_updL f j x)))) = ws') (hd : decode cc pc = .ok (.lastore, 1)) (k : AW p l e R s m args below meth c D A nL cells slots Q (pc + 1) lv st ws') : AW p l e R s m args below meth c D A nL cells slots Q pc lv (.long x :: .int i :: .ref a :: st) ws := by subst hi; subst hws; exact fun H locs ls h1 h2 h3 hl => va_last X.1.1 X.1.2.1 X.2.2.2.1.1 h1 h2 h3 q0 t0 ha ht (vp_in_nI hj hn) hd (by rw [nI_clamp (Nat.lt_trans hj hn)]; exact fun H1 locs1 g1 g2 g3 => k H1 locs1 ls g1 g2 g3 hl)
theorem aw_zast (X : Cx p s m args meth c cc nL ret own D tys A) (q0 t0 : Nat) {cA : ClassId} {n a : Nat} {f : Nat → Int32} {i x : Int32} {ws' : va_W} (j : Nat) (hi : i = nI j) (hx : vp_nar .boolean x = x) (ha : ws[q0]? = some (a, .inl (cA, n, .inl f))) (ht : tys[t0]? = some (cA, .boolean)) (hn : n < 2 ^ 31) (hj : j < n) (hws : ws.set q0 (a, .inl (cA, n, .inl (upd f j x))) = ws') (hd : decode cc pc = .ok (.bastore, 1)) (k : AW p l e R s m args below meth c D A nL cells slots Q (pc + 1) lv st ws') : AW p l e R s m args below meth c D A nL cells slots Q pc lv (.int x :: .int i :: .ref a :: st) ws := by subst hi; subst hws; exact fun H locs ls h1 h2 h3 hl => va_zast X.1.1 X.1.2.1 X.2.2.2.1.1 h1 h2 h3 q0 t0 ha ht (vp_in_nI hj hn) hd (by rw [nI_clamp (Nat.lt_trans hj hn), hx]; exact fun H1 locs1 g1 g2 g3 => k H1 locs1 ls g1 g2 g3 hl)
theorem aw_alen (X : Cx p s m args meth c cc nL ret own D tys A) (q0 t0 : Nat) {cA : ClassId} {a : Nat} {x : vp_A} {ty : FieldType} {v : Int32} (ha : ws[q0]? = some (a, .inl (cA, x))) (ht : tys[t0]? = some (cA, ty)) (hv : Int32.ofNat x.1 = v) (hd : decode cc pc = .ok (.arraylength, 1)) (k : AW p l e R s m args below meth c D A nL cells slots Q (pc + 1) lv (.int v :: st) ws) : AW p l e R s m args below meth c D A nL cells slots Q pc lv (.ref a :: st) ws := fun H locs ls h1 h2 h3 hl => va_alen X.1.1 X.1.2.1 X.2.2.2.1.1 h1 q0 t0 ha ht hv hd (k H locs ls h1 h2 h3 hl)
theorem aw_iret {r : Option Value} {w' : va_W} (X : Cx p s m args meth c cc nL (some .int) own D tys A) {v : Int32} (hQ : Q = FQ below args s D A r w') (hr : r = some (.int v)) (hw : w' = ws) (hd : decode cc pc = .ok (.ireturn, 1)) : AW p l e R s m args below meth c D A nL 0 0 Q pc lv [.int v] ws := by subst hQ; subst hr; subst hw; exact fun H locs ls h1 h2 h3 hl => W.iret X.1.1 X.1.2.1 X.2.1 (fun t ht hW => ⟨⟨rfl, by rw [ht]; exact h1⟩, h3.F ht⟩) h3.2.2 hd X.2.2.1
theorem aw_lret {r : Option Value} {w' : va_W} (X : Cx p s m args meth c cc nL (some .long) own D tys A) {v : Int64} (hQ : Q = FQ below args s D A r w') (hr : r = some (.long v)) (hw : w' = ws) (hd : decode cc pc = .ok (.lreturn, 1)) : AW p l e R s m args below meth c D A nL 0 0 Q pc lv [.long v] ws := by subst hQ; subst hr; subst hw; exact fun H locs ls h1 h2 h3 hl => W.lret X.1.1 X.1.2.1 X.2.1 (fun t ht hW => ⟨⟨rfl, by rw [ht]; exact h1⟩, h3.F ht⟩) h3.2.2 hd X.2.2.1
theorem aw_zret {r : Option Value} {w' : va_W} (X : Cx p s m args meth c cc nL (some .boolean) own D tys A) {v : Int32} (hn : narrow .boolean (.int v) = .int v) (hQ : Q = FQ below args s D A r w') (hr : r = some (.int v)) (hw : w' = ws) (hd : decode cc pc = .ok (.ireturn, 1)) : AW p l e R s m args below meth c D A nL 0 0 Q pc lv [.int v] ws := by subst hQ; subst hr; subst hw; exact fun H locs ls h1 h2 h3 hl => W.zret X.1.1 X.1.2.1 X.2.1 hn (fun t ht hW => ⟨⟨rfl, by rw [ht]; exact h1⟩, h3.F ht⟩) h3.2.2 hd X.2.2.1
theorem aw_vret {r : Option Value} {w' : va_W} (X : Cx p s m args meth c cc nL none own D tys A) (hQ : Q = FQ below args s D A r w') (hr : r = none) (hw : w' = ws) (hd : decode cc pc = .ok (.return_, 1)) : AW p l e R s m args below meth c D A nL 0 0 Q pc lv [] ws := by subst hQ; subst hr; subst hw; exact fun H locs ls h1 h2 h3 hl => W.vret X.1.1 X.1.2.1 X.2.1 (fun t ht hW => ⟨⟨rfl, by rw [ht]; exact h1⟩, h3.F ht⟩) h3.2.2 hd X.2.2.1
theorem aw_core (X : Cx p s m args meth c cc nL ret own D tys A) {yc : MethodName} {wsy : List Cond} {rm : Room} {As rest st0 : List Value} {tysC : List (ClassId × FieldType)} {wc wc' ws' : va_W} {r : Option Value} {a : Array Value} (hM : MW l D yc wsy rm As tysC wc r wc') (is : List Nat) (his : is.map (fun i => ws[i]?) = wc.map some) (hws : w_repl ws is wc' = ws')
    (run : ∀ (H : Heap) (locs : List Loc) (ls : Array Slot), va_P D vwCl ws H → va_D A ws → lv_has ls nL lv → va_Run p l e R s m args below meth c H locs cells slots 0 0 (F0 m pc ls st0) rest (fun st oc t => (oc = .returned r ∧ va_P D vwCl wc' t.heap) ∧ va_F (va_A wc H.size) st t) (va_A wc H.size))
    (k : AW p l e R s m args below meth c D A nL cells slots Q (pc + 3) lv (r.toList ++ rest) ws') : AW p l e R s m args below meth c D A nL cells slots Q pc lv st0 ws := by
  subst hws
  intro H locs ls hP hD hS hl T hT X1
  obtain ⟨v, st₀, t, T', L, g0, X', hL, e1, e2, ⟨⟨hv, hp⟩, hz, hk⟩, hst⟩ := run H locs ls hP hD hl T hT X1
  cases hv
  rw [g0] at hz hk
  have hF := w_repl_F hD hS X.2.2.2.2 his
  have hS' : va_S A s.heap t.heap (locs ++ L) := ⟨Nat.le_trans hS.1 hz, fun q a1 a2 => by rw [hk q (Nat.lt_of_lt_of_le a1 hS.1) (fun z => a2 (hF q z))]; exact hS.2.1 q a1 a2, fun q hq => by
      rcases List.mem_append.mp hq with a1 | a1
      · exact hS.2.2 q a1
      · exact hF _ (hL q a1)⟩
  obtain ⟨t2, a1, b1⟩ := k t.heap (locs ++ L) ls (w_repl_P hP hD his hM.1 hk hp) (w_repl_D hD his hM.1) hS' hl T' e1 X'
  exact ⟨t2, hst t2 a1, b1⟩
theorem w_fm {is : List Nat} {ws wc : va_W} (h : is.map (fun i => ws[i]?) = wc.map some) : is.filterMap (fun i => ws[i]?) = wc := by
  have e : is.filterMap (fun i => ws[i]?) = (is.map (fun i => ws[i]?)).filterMap id := by rw [List.filterMap_map]; rfl
  rw [e, h, List.filterMap_map]
  have e2 : (id ∘ some : (Nat × va_E) → Option (Nat × va_E)) = some := rfl
  rw [e2, List.filterMap_some]
theorem gL_mk {small : List Cond} {yc : MethodName} {ccc : ByteArray} {nLc : Nat} {retc : Option FieldType} (h : ∀ w ∈ small, w ∈ TT) (h2 : Cond.code yc ccc nLc retc ∈ TT) : GoodIn TT (small ++ (Cond.code yc ccc nLc retc :: TT)) := fun w hw => by
  have hm : w ∈ TT := by
    rcases List.mem_append.mp hw with q | q
    · exact h w q
    · rcases List.mem_cons.mp q with rfl | q
      · exact h2
      · exact q
  exact ⟨hm, good_of_word (List.mem_filter.mp hm).2⟩
theorem aw_callV (X : Cx p s m args meth c cc nL ret own D tys A) {yc : MethodName} {ccc : ByteArray} {nLc : Nat} {retc : Option FieldType} {rm : Room} {As rest : List Value} {tysC : List (ClassId × FieldType)} {wc wc' ws' : va_W} {r : Option Value} {index n : Nat} {b ci q1 : Nat} {fs : List Value} {As0 : List Value} {st0 : List Value} (hM : MW l D yc (Cond.code yc ccc nLc retc :: TT) rm As tysC wc r wc') (hAs : As = .ref b :: As0) (hst : st0 = As0.reverse ++ .ref b :: rest) (is ti : List Nat) (his : is.map (fun i => ws[i]?) = wc.map some) (hnd : va_nd is = true) (hti : ti.filterMap (fun i => tys[i]?) = tysC) (hws : w_repl ws is wc' = ws') (hcl : ∃ T N, vwCl[ci]? = some (yc.cls, T, N)) (he : ws[q1]? = some (b, .inr (ci, fs)))
    (hg : ∀ w ∈ ([.methodLink own index yc, .instanceMethod yc, .selects yc.cls yc yc, .initialized yc.cls] : List Cond), w ∈ TT) (hg2 : Cond.code yc ccc nLc retc ∈ TT) (hd1 : yc.cls ≠ "java/lang/invoke/MethodHandle" ∧ yc.cls ≠ "java/lang/invoke/VarHandle" ∧ (parseMethodDescriptor yc.desc).map (fun d => d.parameters.length) = some n) (hR : rm.frames + 1 ≤ R.frames ∧ 8 + (nLc + 11) + rm.locals ≤ R.locals) (hc0 : cells ≤ R.cells ∧ slots ≤ R.slots) (hcm : rm.cells = 0 ∧ rm.slots = 0) (hlen : As0.length = n) (hcat : (rest.map fun v => v.category).sum ≤ 8) (hd : decode cc pc = .ok (.invokevirtual index, 3))
    {st' : List Value} (hst' : r.toList ++ rest = st') (k : AW p l e R s m args below meth c D A nL cells slots Q (pc + 3) lv st' ws') : AW p l e R s m args below meth c D A nL cells slots Q pc lv st0 ws := by
  subst hst; subst hAs; subst hst'
  refine aw_core X hM is his hws (a := #[]) (fun H locs ls h1 h2 hl => ?_) k
  obtain ⟨T9, N9, hcl⟩ := hcl
  exact va_runV (As := As0) (rest := rest) X.1 (hM.2 H.size) (cwV n X.1.2.2.2.2 (gL_mk hg hg2) rfl hcm.1 hcm.2 ⟨rfl, hd1⟩ hR) ⟨fun a U g mk q => by obtain ⟨q0, q1, qP, qK, qD⟩ := q; exact ⟨q0, q1, qP, qK.same, qD⟩, va_recv X.2.2.2.1.1 h1 hcl he, fun U hU hW => ⟨rfl, by rw [hU], by rw [hU]; exact h1.sub is (w_fm his), (X.2.2.2.1.sub ti hti).warm hW, (h2.sub is hnd his).weaken (fun _ _ _ _ => trivial)⟩⟩ rfl hlen hl.1 rfl (lv_room hcat) hd hc0
theorem aw_callS (X : Cx p s m args meth c cc nL ret own D tys A) {yc : MethodName} {ccc : ByteArray} {nLc : Nat} {retc : Option FieldType} {rm : Room} {As rest : List Value} {tysC : List (ClassId × FieldType)} {wc wc' ws' : va_W} {r : Option Value} {index n : Nat} {st0 : List Value} (hM : MW l D yc (Cond.code yc ccc nLc retc :: TT) rm As tysC wc r wc') (hst : st0 = As.reverse ++ rest) (is ti : List Nat) (his : is.map (fun i => ws[i]?) = wc.map some) (hnd : va_nd is = true) (hti : ti.filterMap (fun i => tys[i]?) = tysC) (hws : w_repl ws is wc' = ws')
    (hg : ∀ w ∈ ([.methodLink own index yc, .static yc, .initialized yc.cls] : List Cond), w ∈ TT) (hg2 : Cond.code yc ccc nLc retc ∈ TT) (hd1 : yc.cls ≠ "java/lang/invoke/MethodHandle" ∧ yc.cls ≠ "java/lang/invoke/VarHandle" ∧ (parseMethodDescriptor yc.desc).map (fun d => d.parameters.length) = some n) (hR : rm.frames + 1 ≤ R.frames ∧ 8 + (nLc + 11) + rm.locals ≤ R.locals) (hc0 : cells ≤ R.cells ∧ slots ≤ R.slots) (hcm : rm.cells = 0 ∧ rm.slots = 0) (hlen : As.length = n) (hcat : (rest.map fun v => v.category).sum ≤ 8) (hd : decode cc pc = .ok (.invokestatic index, 3))
    {st' : List Value} (hst' : r.toList ++ rest = st') (k : AW p l e R s m args below meth c D A nL cells slots Q (pc + 3) lv st' ws') : AW p l e R s m args below meth c D A nL cells slots Q pc lv st0 ws := by
  subst hst; subst hst'
  refine aw_core X hM is his hws (a := #[]) (fun H locs ls h1 h2 hl => ?_) k
  exact va_runS (As := As) (rest := rest) X.1 (hM.2 H.size) (va_cwS n X.1.2.2.2.2 (gL_mk hg hg2) rfl hcm.1 hcm.2 hd1 hR) ⟨fun a U g mk q => by obtain ⟨q0, q1, qP, qK, qD⟩ := q; exact ⟨q0, q1, qP, qK.same, qD⟩, fun U hU hW => ⟨rfl, by rw [hU], by rw [hU]; exact h1.sub is (w_fm his), (X.2.2.2.1.sub ti hti).warm hW, (h2.sub is hnd his).weaken (fun _ _ _ _ => trivial)⟩⟩ rfl hlen hl.1 rfl (lv_room hcat) hd hc0
theorem aw_callSN (X : Cx p s m args meth c cc nL ret own D tys A) {yc : MethodName} {ccc : ByteArray} {nLc : Nat} {retc : Option FieldType} {rm : Room} {As rest : List Value} {tysC : List (ClassId × FieldType)} {wc wc' ws' : va_W} {r : Option Value} {index n : Nat} {st0 : List Value} (hM : MW l D yc (Cond.code yc ccc nLc retc :: TT) rm As tysC wc r wc') (hst : st0 = As.reverse ++ rest) (is ti : List Nat) (his : is.map (fun i => ws[i]?) = wc.map some) (hnd : va_nd is = true) (hti : ti.filterMap (fun i => tys[i]?) = tysC) (hws : w_repl ws is wc' = ws')
    (hnn : (own, index, yc) ∈ nst) (hg : ∀ w ∈ ([.static yc, .initialized yc.cls] : List Cond), w ∈ TT) (hg2 : Cond.code yc ccc nLc retc ∈ TT) (hd1 : yc.cls ≠ "java/lang/invoke/MethodHandle" ∧ yc.cls ≠ "java/lang/invoke/VarHandle" ∧ (parseMethodDescriptor yc.desc).map (fun d => d.parameters.length) = some n) (hR : rm.frames + 1 ≤ R.frames ∧ 8 + (nLc + 11) + rm.locals ≤ R.locals) (hc0 : cells ≤ R.cells ∧ slots ≤ R.slots) (hcm : rm.cells = 0 ∧ rm.slots = 0) (hlen : As.length = n) (hcat : (rest.map fun v => v.category).sum ≤ 8) (hd : decode cc pc = .ok (.invokestatic index, 3))
    {st' : List Value} (hst' : r.toList ++ rest = st') (k : AW p l e R s m args below meth c D A nL cells slots Q (pc + 3) lv st' ws') : AW p l e R s m args below meth c D A nL cells slots Q pc lv st0 ws := by
  subst hst; subst hst'
  refine aw_core X hM is his hws (a := #[]) (fun H locs ls h1 h2 hl => ?_) k
  exact va_runSN (As := As) (rest := rest) X.1 (hM.2 H.size) ⟨va_cnB n X.1.2.2.2.2 (gL_mk (small := []) (fun w h => absurd h List.not_mem_nil) hg2) rfl hcm.1 hcm.2 (X.2.2.2.1.2 _ hnn) (X.1.2.2.2.2 _ (hg _ (List.mem_cons_of_mem _ List.mem_cons_self))) hd1 hR, X.1.2.2.2.2 _ (hg _ List.mem_cons_self), trivial⟩ ⟨fun a U g mk q => by obtain ⟨q0, q1, qP, qK, qD⟩ := q; exact ⟨q0, q1, qP, qK.same, qD⟩, fun U hU hW => ⟨rfl, by rw [hU], by rw [hU]; exact h1.sub is (w_fm his), (X.2.2.2.1.sub ti hti).warm hW, (h2.sub is hnd his).weaken (fun _ _ _ _ => trivial)⟩⟩ rfl hlen hl.1 rfl (lv_room hcat) hd hc0
theorem aw_mmax (X : Cx p s m args meth c cc nL ret own D tys A) {index : Nat} {x y : Int32} (hg : ∀ w ∈ ([.methodLink own index Lib.Math.max.name, .static Lib.Math.max.name, .initialized "java/lang/Math", .code Lib.Math.max.name Lib.Math.max.code 2 (some .int)] : List Cond), w ∈ TT) (hfr : 1 ≤ R.frames) (hlo : (st.map fun v => v.category).sum + 13 ≤ R.locals) (hc0 : cells ≤ R.cells ∧ slots ≤ R.slots) (hd : decode cc pc = .ok (.invokestatic index, 3)) (k : AW p l e R s m args below meth c D A nL cells slots Q (pc + 3) lv (.int (if x < y then y else x) :: st) ws) : AW p l e R s m args below meth c D A nL cells slots Q pc lv (.int y :: .int x :: st) ws := fun H locs ls h1 h2 h3 hl => va_mmax X.1.1 X.1.2.1 (X.1.2.2.1.trans hl.1.symm) X.1.2.2.2.1 (X.1.2.2.2.2 _ (hg _ List.mem_cons_self)) (X.1.2.2.2.2 _ (hg _ (List.mem_cons_of_mem _ List.mem_cons_self))) (X.1.2.2.2.2 _ (hg _ (List.mem_cons_of_mem _ (List.mem_cons_of_mem _ List.mem_cons_self)))) (X.1.2.2.2.2 _ (hg _ (List.mem_cons_of_mem _ (List.mem_cons_of_mem _ (List.mem_cons_of_mem _ List.mem_cons_self))))) hfr hlo hc0.1 hc0.2 hd (k H locs ls h1 h2 h3 hl)
theorem aw_mmin (X : Cx p s m args meth c cc nL ret own D tys A) {index : Nat} {x y : Int32} (hg : ∀ w ∈ ([.methodLink own index Lib.Math.min.name, .static Lib.Math.min.name, .initialized "java/lang/Math", .code Lib.Math.min.name Lib.Math.min.code 2 (some .int)] : List Cond), w ∈ TT) (hfr : 1 ≤ R.frames) (hlo : (st.map fun v => v.category).sum + 13 ≤ R.locals) (hc0 : cells ≤ R.cells ∧ slots ≤ R.slots) (hd : decode cc pc = .ok (.invokestatic index, 3)) (k : AW p l e R s m args below meth c D A nL cells slots Q (pc + 3) lv (.int (if y < x then y else x) :: st) ws) : AW p l e R s m args below meth c D A nL cells slots Q pc lv (.int y :: .int x :: st) ws := fun H locs ls h1 h2 h3 hl => va_mmin X.1.1 X.1.2.1 (X.1.2.2.1.trans hl.1.symm) X.1.2.2.2.1 (X.1.2.2.2.2 _ (hg _ List.mem_cons_self)) (X.1.2.2.2.2 _ (hg _ (List.mem_cons_of_mem _ List.mem_cons_self))) (X.1.2.2.2.2 _ (hg _ (List.mem_cons_of_mem _ (List.mem_cons_of_mem _ List.mem_cons_self)))) (X.1.2.2.2.2 _ (hg _ (List.mem_cons_of_mem _ (List.mem_cons_of_mem _ (List.mem_cons_of_mem _ List.mem_cons_self))))) hfr hlo hc0.1 hc0.2 hd (k H locs ls h1 h2 h3 hl)
theorem aw_tableOut (X : Cx p s m args meth c cc nL ret own D tys A) {dflt lo hi : Int} {offs : Array Int} {len : Nat} {x : Int32} {tgt : Nat} (h : x.toInt < lo ∨ hi < x.toInt) (ht : (pc : Int) + dflt = (tgt : Int)) (hd : decode cc pc = .ok (.tableswitch dflt lo hi offs, len)) (k : AW p l e R s m args below meth c D A nL cells slots Q tgt lv st ws) : AW p l e R s m args below meth c D A nL cells slots Q pc lv (.int x :: st) ws := fun H locs ls h1 h2 h3 hl => lv_tableOut X.1.1 X.1.2.1 hd h ht (k H locs ls h1 h2 h3 hl)
theorem aw_tableIn (X : Cx p s m args meth c cc nL ret own D tys A) {dflt lo hi : Int} {offs : Array Int} {len : Nat} {x : Int32} {off : Int} {tgt : Nat} (g1 : ¬ x.toInt < lo) (g2 : ¬ hi < x.toInt) (ho : offs[(x.toInt - lo).toNat]? = some off) (ht : (pc : Int) + off = (tgt : Int)) (hd : decode cc pc = .ok (.tableswitch dflt lo hi offs, len)) (k : AW p l e R s m args below meth c D A nL cells slots Q tgt lv st ws) : AW p l e R s m args below meth c D A nL cells slots Q pc lv (.int x :: st) ws := fun H locs ls h1 h2 h3 hl => lv_tableIn X.1.1 X.1.2.1 hd g1 g2 ho ht (k H locs ls h1 h2 h3 hl)
end AWL
/-- sums and products of numbers of Nat -/
theorem nn_add {x y : Int32} {a b c : Nat} (hx : x = nI a) (hy : y = nI b) (hc : a + b = c) : x + y = nI c := by subst hx; subst hy; subst hc; exact nI_add a b
theorem nn_mul {x y : Int32} {a b c : Nat} (hx : x = nI a) (hy : y = nI b) (hc : a * b = c) : x * y = nI c := by subst hx; subst hy; subst hc; exact pk_mul a b
theorem nn_sub {x y : Int32} {a b c : Nat} (hx : x = nI a) (hy : y = nI b) (h : b ≤ a) (hc : a - b = c) : x - y = nI c := by subst hx; subst hy; subst hc; exact pk_sub h
/-- a loop over k, k + 1 .. of n rounds -/
def lpF {σ : Type} (body : Nat → σ → σ) : Nat → Nat → σ → σ
  | 0, _, s => s
  | n + 1, k, s => lpF body n (k + 1) (body k s)
theorem lpF_inv {σ : Type} {body : Nat → σ → σ} (I : Nat → σ → Prop) : ∀ (n k : Nat) (s : σ), I k s → (∀ j t, k ≤ j → j < k + n → I j t → I (j + 1) (body j t)) → I (k + n) (lpF body n k s)
  | 0, k, s, h, _ => h
  | n + 1, k, s, h, hb => by
    have e : k + (n + 1) = (k + 1) + n := by omega
    rw [e]
    exact lpF_inv I n (k + 1) (body k s) (hb k s (Nat.le_refl k) (by omega) h) (fun j t h1 h2 h3 => hb j t (by omega) (by omega) h3)
/-- a loop that stops early -/
def lpW {σ : Type} (go : Nat → σ → Bool) (body : Nat → σ → σ) : Nat → Nat → σ → Nat × σ
  | 0, k, s => (k, s)
  | n + 1, k, s => if go k s = true then lpW go body n (k + 1) (body k s) else (k, s)
end
section
set_option maxRecDepth 20000 in
theorem iX0 : ∀ w ∈ wsX00, w ∈ TT := TT_by [150, 152, 154] (by decide +kernel) (by decide +kernel)
set_option maxRecDepth 20000 in
theorem iX1 : ∀ w ∈ wsX10, w ∈ TT := TT_by [259, 261, 263, 265] (by decide +kernel) (by decide +kernel)
set_option maxRecDepth 20000 in
theorem iX2 : ∀ w ∈ wsX20, w ∈ TT := TT_by [173, 175, 177, 179, 181] (by decide +kernel) (by decide +kernel)
set_option maxRecDepth 20000 in
theorem iX3 : ∀ w ∈ wsX30, w ∈ TT := TT_by [116, 118, 120] (by decide +kernel) (by decide +kernel)
set_option maxRecDepth 20000 in
theorem iX4 : ∀ w ∈ wsX40, w ∈ TT := TT_by [133, 135, 137] (by decide +kernel) (by decide +kernel)
set_option maxRecDepth 20000 in
theorem iX5 : ∀ w ∈ wsX50, w ∈ TT := TT_by [230, 232, 234, 236, 238, 240, 242, 244] (by decide +kernel) (by decide +kernel)
set_option maxRecDepth 20000 in
theorem iX6 : ∀ w ∈ wsX60, w ∈ TT := TT_by [80, 82, 84, 86, 88, 90, 92, 94, 96, 98, 100] (by decide +kernel) (by decide +kernel)
set_option maxRecDepth 20000 in
theorem iX7 : ∀ w ∈ wsX70, w ∈ TT := TT_by [201, 203, 205, 207, 209, 211] (by decide +kernel) (by decide +kernel)
set_option maxRecDepth 20000 in
theorem iX8 : ∀ w ∈ wsX80, w ∈ TT := TT_by [272, 274, 276, 278] (by decide +kernel) (by decide +kernel)
set_option maxRecDepth 20000 in
theorem iX9 : ∀ w ∈ wsX90, w ∈ TT := TT_by [688, 690, 692, 694, 696, 698, 700, 702, 704] (by decide +kernel) (by decide +kernel)
set_option maxRecDepth 20000 in
theorem cd_X8_init : Cond.code yX8_init cX8_init 1 none ∈ TT := TT_mem 46 (by decide +kernel) rfl
set_option maxRecDepth 20000 in
theorem dd_X8_init : yX8_init.cls ≠ "java/lang/invoke/MethodHandle" ∧ yX8_init.cls ≠ "java/lang/invoke/VarHandle" ∧ (parseMethodDescriptor yX8_init.desc).map (fun d => d.parameters.length) = some 0 := by decide +kernel
set_option maxRecDepth 20000 in
theorem cf_X8_3 : ∀ w ∈ ([.methodLink RX8 3 objectInit, .instanceMethod objectInit, .code objectInit ⟨#[0xb1]⟩ 1 none] : List Cond), w ∈ TT := TT_by [47, 48, 49] (by decide +kernel) rfl
set_option maxRecDepth 20000 in
theorem nw_X8_9 : ∀ w ∈ ([.classLink RX8 9 RX5, .instantiable RX5 8, .initialized RX5] : List Cond), w ∈ TT := TT_by [50, 51, 29] (by decide +kernel) rfl
set_option maxRecDepth 20000 in
theorem cf_X8_11 : ∀ w ∈ ([.instanceMethod yX5_init, .initialized yX5_init.cls] : List Cond), w ∈ TT := TT_by [53, 29] (by decide +kernel) rfl
set_option maxRecDepth 20000 in
theorem fl_X8_12 : Cond.fieldLink RX8 12 (TX8 0).1 (TX8 0).2.1 (TX8 0).2.2.1 ∈ TT := TT_mem 268 (by decide +kernel) rfl
set_option maxRecDepth 20000 in
theorem fl_X8_16 : Cond.fieldLink RX8 16 (TX8 1).1 (TX8 1).2.1 (TX8 1).2.2.1 ∈ TT := TT_mem 269 (by decide +kernel) rfl
set_option maxRecDepth 20000 in
theorem fl_X8_20 : Cond.fieldLink RX8 20 (TX8 2).1 (TX8 2).2.1 (TX8 2).2.2.1 ∈ TT := TT_mem 270 (by decide +kernel) rfl
set_option maxRecDepth 20000 in
theorem nw_X8_24 : ∀ w ∈ ([.classLink RX8 24 RX1, .instantiable RX1 4, .initialized RX1] : List Cond), w ∈ TT := TT_by [248, 249, 36] (by decide +kernel) rfl
set_option maxRecDepth 20000 in
theorem cf_X8_26 : ∀ w ∈ ([.instanceMethod yX1_init, .initialized yX1_init.cls] : List Cond), w ∈ TT := TT_by [251, 36] (by decide +kernel) rfl
set_option maxRecDepth 20000 in
theorem fl_X8_27 : Cond.fieldLink RX8 27 (TX8 3).1 (TX8 3).2.1 (TX8 3).2.2.1 ∈ TT := TT_mem 271 (by decide +kernel) rfl
set_option maxRecDepth 20000 in
theorem cd_X8_wire : Cond.code yX8_wire cX8_wire 2 (some .boolean) ∈ TT := TT_mem 284 (by decide +kernel) rfl
set_option maxRecDepth 20000 in
theorem dd_X8_wire : yX8_wire.cls ≠ "java/lang/invoke/MethodHandle" ∧ yX8_wire.cls ≠ "java/lang/invoke/VarHandle" ∧ (parseMethodDescriptor yX8_wire.desc).map (fun d => d.parameters.length) = some 1 := by decide +kernel
set_option maxRecDepth 20000 in
theorem fl_X8_31 : Cond.fieldLink RX8 31 (TX5 6).1 (TX5 6).2.1 (TX5 6).2.2.1 ∈ TT := TT_mem 227 (by decide +kernel) rfl
set_option maxRecDepth 20000 in
theorem cd_X8_tag : Cond.code yX8_tag cX8_tag 7 (some .int) ∈ TT := TT_mem 288 (by decide +kernel) rfl
set_option maxRecDepth 20000 in
theorem dd_X8_tag : yX8_tag.cls ≠ "java/lang/invoke/MethodHandle" ∧ yX8_tag.cls ≠ "java/lang/invoke/VarHandle" ∧ (parseMethodDescriptor yX8_tag.desc).map (fun d => d.parameters.length) = some 3 := by decide +kernel
set_option maxRecDepth 20000 in
theorem cf_X8_35 : ∀ w ∈ ([.methodLink RX8 35 yX8_sumOf, .static yX8_sumOf, .initialized yX8_sumOf.cls] : List Cond), w ∈ TT := TT_by [289, 290, 28] (by decide +kernel) rfl
set_option maxRecDepth 20000 in
theorem fl_X8_39 : Cond.fieldLink RX8 39 (TX5 0).1 (TX5 0).2.1 (TX5 0).2.2.1 ∈ TT := TT_mem 215 (by decide +kernel) rfl
set_option maxRecDepth 20000 in
theorem cf_X8_43 : ∀ w ∈ ([.methodLink RX8 43 yX6_add, .instanceMethod yX6_add, .selects yX6_add.cls yX6_add yX6_add, .initialized yX6_add.cls] : List Cond), w ∈ TT := TT_by [295, 296, 297, 30] (by decide +kernel) rfl
set_option maxRecDepth 20000 in
theorem cd_X8_name : Cond.code yX8_name cX8_name 2 (some .long) ∈ TT := TT_mem 318 (by decide +kernel) rfl
set_option maxRecDepth 20000 in
theorem dd_X8_name : yX8_name.cls ≠ "java/lang/invoke/MethodHandle" ∧ yX8_name.cls ≠ "java/lang/invoke/VarHandle" ∧ (parseMethodDescriptor yX8_name.desc).map (fun d => d.parameters.length) = some 1 := by decide +kernel
set_option maxRecDepth 20000 in
theorem cf_X8_49 : ∀ w ∈ ([.methodLink RX8 49 yX6_has, .instanceMethod yX6_has, .selects yX6_has.cls yX6_has yX6_has, .initialized yX6_has.cls] : List Cond), w ∈ TT := TT_by [319, 320, 321, 30] (by decide +kernel) rfl
set_option maxRecDepth 20000 in
theorem fl_X8_53 : Cond.fieldLink RX8 53 (TX6 1).1 (TX6 1).2.1 (TX6 1).2.2.1 ∈ TT := TT_mem 65 (by decide +kernel) rfl
set_option maxRecDepth 20000 in
theorem cd_X8_isName : Cond.code yX8_isName cX8_isName 3 (some .boolean) ∈ TT := TT_mem 326 (by decide +kernel) rfl
set_option maxRecDepth 20000 in
theorem dd_X8_isName : yX8_isName.cls ≠ "java/lang/invoke/MethodHandle" ∧ yX8_isName.cls ≠ "java/lang/invoke/VarHandle" ∧ (parseMethodDescriptor yX8_isName.desc).map (fun d => d.parameters.length) = some 1 := by decide +kernel
set_option maxRecDepth 20000 in
theorem ld_X8_56 : Cond.constantLong RX8 56 (255) ∈ TT := TT_mem 327 (by decide +kernel) rfl
set_option maxRecDepth 20000 in
theorem cd_X8_tell : Cond.code yX8_tell cX8_tell 3 (some .int) ∈ TT := TT_mem 331 (by decide +kernel) rfl
set_option maxRecDepth 20000 in
theorem dd_X8_tell : yX8_tell.cls ≠ "java/lang/invoke/MethodHandle" ∧ yX8_tell.cls ≠ "java/lang/invoke/VarHandle" ∧ (parseMethodDescriptor yX8_tell.desc).map (fun d => d.parameters.length) = some 2 := by decide +kernel
set_option maxRecDepth 20000 in
theorem fl_X8_58 : Cond.fieldLink RX8 58 (TX6 0).1 (TX6 0).2.1 (TX6 0).2.2.1 ∈ TT := TT_mem 63 (by decide +kernel) rfl
set_option maxRecDepth 20000 in
theorem fl_X8_62 : Cond.fieldLink RX8 62 (TX6 6).1 (TX6 6).2.1 (TX6 6).2.2.1 ∈ TT := TT_mem 74 (by decide +kernel) rfl
set_option maxRecDepth 20000 in
theorem cf_X8_66 : ∀ w ∈ ([.methodLink RX8 66 yX8_isIn, .static yX8_isIn, .initialized yX8_isIn.cls] : List Cond), w ∈ TT := TT_by [332, 333, 28] (by decide +kernel) rfl
set_option maxRecDepth 20000 in
theorem cf_X8_70 : ∀ w ∈ ([.methodLink RX8 70 yX8_oneIf, .static yX8_oneIf, .initialized yX8_oneIf.cls] : List Cond), w ∈ TT := TT_by [336, 337, 28] (by decide +kernel) rfl
set_option maxRecDepth 20000 in
theorem fl_X8_74 : Cond.fieldLink RX8 74 (TX6 7).1 (TX6 7).2.1 (TX6 7).2.2.1 ∈ TT := TT_mem 76 (by decide +kernel) rfl
set_option maxRecDepth 20000 in
theorem cf_X8_77 : ∀ w ∈ ([.methodLink RX8 77 yX6_listening, .instanceMethod yX6_listening, .selects yX6_listening.cls yX6_listening yX6_listening, .initialized yX6_listening.cls] : List Cond), w ∈ TT := TT_by [339, 340, 341, 30] (by decide +kernel) rfl
set_option maxRecDepth 20000 in
theorem fl_X8_81 : Cond.fieldLink RX8 81 (TX5 3).1 (TX5 3).2.1 (TX5 3).2.2.1 ∈ TT := TT_mem 221 (by decide +kernel) rfl
set_option maxRecDepth 20000 in
theorem cf_X8_85 : ∀ w ∈ ([.methodLink RX8 85 yX0_of, .instanceMethod yX0_of, .selects yX0_of.cls yX0_of yX0_of, .initialized yX0_of.cls] : List Cond), w ∈ TT := TT_by [343, 344, 345, 33] (by decide +kernel) rfl
set_option maxRecDepth 20000 in
theorem fl_X8_91 : Cond.fieldLink RX8 91 (TX6 2).1 (TX6 2).2.1 (TX6 2).2.2.1 ∈ TT := TT_mem 67 (by decide +kernel) rfl
set_option maxRecDepth 20000 in
theorem fl_X8_94 : Cond.fieldLink RX8 94 (TX5 5).1 (TX5 5).2.1 (TX5 5).2.2.1 ∈ TT := TT_mem 225 (by decide +kernel) rfl
set_option maxRecDepth 20000 in
theorem cf_X8_98 : ∀ w ∈ ([.methodLink RX8 98 yX7_timesFound, .instanceMethod yX7_timesFound, .selects yX7_timesFound.cls yX7_timesFound yX7_timesFound, .initialized yX7_timesFound.cls] : List Cond), w ∈ TT := TT_by [348, 349, 350, 35] (by decide +kernel) rfl
set_option maxRecDepth 20000 in
theorem cd_X8_act : Cond.code yX8_act cX8_act 3 (some .boolean) ∈ TT := TT_mem 355 (by decide +kernel) rfl
set_option maxRecDepth 20000 in
theorem dd_X8_act : yX8_act.cls ≠ "java/lang/invoke/MethodHandle" ∧ yX8_act.cls ≠ "java/lang/invoke/VarHandle" ∧ (parseMethodDescriptor yX8_act.desc).map (fun d => d.parameters.length) = some 2 := by decide +kernel
set_option maxRecDepth 20000 in
theorem cf_X8_103 : ∀ w ∈ ([.methodLink RX8 103 yX6_setThere, .instanceMethod yX6_setThere, .selects yX6_setThere.cls yX6_setThere yX6_setThere, .initialized yX6_setThere.cls] : List Cond), w ∈ TT := TT_by [356, 357, 358, 30] (by decide +kernel) rfl
set_option maxRecDepth 20000 in
theorem cf_X8_107 : ∀ w ∈ ([.methodLink RX8 107 yX6_setAwake, .instanceMethod yX6_setAwake, .selects yX6_setAwake.cls yX6_setAwake yX6_setAwake, .initialized yX6_setAwake.cls] : List Cond), w ∈ TT := TT_by [361, 362, 363, 30] (by decide +kernel) rfl
set_option maxRecDepth 20000 in
theorem cd_X8_group : Cond.code yX8_group cX8_group 5 (some .int) ∈ TT := TT_mem 368 (by decide +kernel) rfl
set_option maxRecDepth 20000 in
theorem dd_X8_group : yX8_group.cls ≠ "java/lang/invoke/MethodHandle" ∧ yX8_group.cls ≠ "java/lang/invoke/VarHandle" ∧ (parseMethodDescriptor yX8_group.desc).map (fun d => d.parameters.length) = some 2 := by decide +kernel
set_option maxRecDepth 20000 in
theorem cf_X8_110 : ∀ w ∈ ([.methodLink RX8 110 yX6_regroup, .instanceMethod yX6_regroup, .selects yX6_regroup.cls yX6_regroup yX6_regroup, .initialized yX6_regroup.cls] : List Cond), w ∈ TT := TT_by [369, 370, 371, 30] (by decide +kernel) rfl
set_option maxRecDepth 20000 in
theorem cf_X8_114 : ∀ w ∈ ([.methodLink RX8 114 yJ13_bitCount_95d88, .static yJ13_bitCount_95d88, .initialized yJ13_bitCount_95d88.cls] : List Cond), w ∈ TT := TT_by [373, 374, 38] (by decide +kernel) rfl
set_option maxRecDepth 20000 in
theorem cd_X8_pass : Cond.code yX8_pass cX8_pass 12 (some .int) ∈ TT := TT_mem 382 (by decide +kernel) rfl
set_option maxRecDepth 20000 in
theorem dd_X8_pass : yX8_pass.cls ≠ "java/lang/invoke/MethodHandle" ∧ yX8_pass.cls ≠ "java/lang/invoke/VarHandle" ∧ (parseMethodDescriptor yX8_pass.desc).map (fun d => d.parameters.length) = some 0 := by decide +kernel
set_option maxRecDepth 20000 in
theorem cf_X8_119 : ∀ w ∈ ([.methodLink RX8 119 yX6_tellingOne, .instanceMethod yX6_tellingOne, .selects yX6_tellingOne.cls yX6_tellingOne yX6_tellingOne, .initialized yX6_tellingOne.cls] : List Cond), w ∈ TT := TT_by [383, 384, 385, 30] (by decide +kernel) rfl
set_option maxRecDepth 20000 in
theorem ld_X8_123 : Cond.constantLong RX8 123 (-1) ∈ TT := TT_mem 387 (by decide +kernel) rfl
set_option maxRecDepth 20000 in
theorem fl_X8_125 : Cond.fieldLink RX8 125 (TX5 1).1 (TX5 1).2.1 (TX5 1).2.2.1 ∈ TT := TT_mem 217 (by decide +kernel) rfl
set_option maxRecDepth 20000 in
theorem cf_X8_129 : ∀ w ∈ ([.methodLink RX8 129 yX3_wayIsOneAt, .instanceMethod yX3_wayIsOneAt, .selects yX3_wayIsOneAt.cls yX3_wayIsOneAt yX3_wayIsOneAt, .initialized yX3_wayIsOneAt.cls] : List Cond), w ∈ TT := TT_by [388, 389, 390, 31] (by decide +kernel) rfl
set_option maxRecDepth 20000 in
theorem cf_X8_134 : ∀ w ∈ ([.methodLink RX8 134 yX7_addPassSlots, .instanceMethod yX7_addPassSlots, .selects yX7_addPassSlots.cls yX7_addPassSlots yX7_addPassSlots, .initialized yX7_addPassSlots.cls] : List Cond), w ∈ TT := TT_by [393, 394, 395, 35] (by decide +kernel) rfl
set_option maxRecDepth 20000 in
theorem cf_X8_138 : ∀ w ∈ ([.methodLink RX8 138 yX8_firstOf, .static yX8_firstOf, .initialized yX8_firstOf.cls] : List Cond), w ∈ TT := TT_by [397, 398, 28] (by decide +kernel) rfl
set_option maxRecDepth 20000 in
theorem cf_X8_141 : ∀ w ∈ ([.methodLink RX8 141 yX3_endRow, .instanceMethod yX3_endRow, .selects yX3_endRow.cls yX3_endRow yX3_endRow, .initialized yX3_endRow.cls] : List Cond), w ∈ TT := TT_by [400, 401, 402, 31] (by decide +kernel) rfl
set_option maxRecDepth 20000 in
theorem cf_X8_144 : ∀ w ∈ ([.methodLink RX8 144 yX3_goOnFrom, .instanceMethod yX3_goOnFrom, .selects yX3_goOnFrom.cls yX3_goOnFrom yX3_goOnFrom, .initialized yX3_goOnFrom.cls] : List Cond), w ∈ TT := TT_by [404, 405, 406, 31] (by decide +kernel) rfl
set_option maxRecDepth 20000 in
theorem cf_X8_148 : ∀ w ∈ ([.methodLink RX8 148 yX7_addFound, .instanceMethod yX7_addFound, .selects yX7_addFound.cls yX7_addFound yX7_addFound, .initialized yX7_addFound.cls] : List Cond), w ∈ TT := TT_by [409, 410, 411, 35] (by decide +kernel) rfl
set_option maxRecDepth 20000 in
theorem cd_X8_fork : Cond.code yX8_fork cX8_fork 2 (some .int) ∈ TT := TT_mem 416 (by decide +kernel) rfl
set_option maxRecDepth 20000 in
theorem dd_X8_fork : yX8_fork.cls ≠ "java/lang/invoke/MethodHandle" ∧ yX8_fork.cls ≠ "java/lang/invoke/VarHandle" ∧ (parseMethodDescriptor yX8_fork.desc).map (fun d => d.parameters.length) = some 1 := by decide +kernel
set_option maxRecDepth 20000 in
theorem fl_X8_151 : Cond.fieldLink RX8 151 (TX3 0).1 (TX3 0).2.1 (TX3 0).2.2.1 ∈ TT := TT_mem 112 (by decide +kernel) rfl
set_option maxRecDepth 20000 in
theorem fl_X8_154 : Cond.fieldLink RX8 154 (TX3 1).1 (TX3 1).2.1 (TX3 1).2.2.1 ∈ TT := TT_mem 114 (by decide +kernel) rfl
set_option maxRecDepth 20000 in
theorem cd_X8_verify : Cond.code yX8_verify cX8_verify 9 (some .boolean) ∈ TT := TT_mem 420 (by decide +kernel) rfl
set_option maxRecDepth 20000 in
theorem dd_X8_verify : yX8_verify.cls ≠ "java/lang/invoke/MethodHandle" ∧ yX8_verify.cls ≠ "java/lang/invoke/VarHandle" ∧ (parseMethodDescriptor yX8_verify.desc).map (fun d => d.parameters.length) = some 1 := by decide +kernel
set_option maxRecDepth 20000 in
theorem cf_X8_157 : ∀ w ∈ ([.methodLink RX8 157 yX8_isOneAt, .static yX8_isOneAt, .initialized yX8_isOneAt.cls] : List Cond), w ∈ TT := TT_by [292, 293, 28] (by decide +kernel) rfl
set_option maxRecDepth 20000 in
theorem cd_X8_ask : Cond.code yX8_ask cX8_ask 4 (some .int) ∈ TT := TT_mem 424 (by decide +kernel) rfl
set_option maxRecDepth 20000 in
theorem dd_X8_ask : yX8_ask.cls ≠ "java/lang/invoke/MethodHandle" ∧ yX8_ask.cls ≠ "java/lang/invoke/VarHandle" ∧ (parseMethodDescriptor yX8_ask.desc).map (fun d => d.parameters.length) = some 2 := by decide +kernel
set_option maxRecDepth 20000 in
theorem cf_X8_160 : ∀ w ∈ ([.methodLink RX8 160 yX6_beginningWith, .instanceMethod yX6_beginningWith, .selects yX6_beginningWith.cls yX6_beginningWith yX6_beginningWith, .initialized yX6_beginningWith.cls] : List Cond), w ∈ TT := TT_by [425, 426, 427, 30] (by decide +kernel) rfl
set_option maxRecDepth 20000 in
theorem cf_X8_163 : ∀ w ∈ ([.methodLink RX8 163 yX8_hearSlot, .instanceMethod yX8_hearSlot, .selects yX8_hearSlot.cls yX8_hearSlot yX8_hearSlot, .initialized yX8_hearSlot.cls] : List Cond), w ∈ TT := TT_by [436, 438, 3, 28] (by decide +kernel) rfl
set_option maxRecDepth 20000 in
theorem cd_X8_alone : Cond.code yX8_alone cX8_alone 1 (some .int) ∈ TT := TT_mem 454 (by decide +kernel) rfl
set_option maxRecDepth 20000 in
theorem dd_X8_alone : yX8_alone.cls ≠ "java/lang/invoke/MethodHandle" ∧ yX8_alone.cls ≠ "java/lang/invoke/VarHandle" ∧ (parseMethodDescriptor yX8_alone.desc).map (fun d => d.parameters.length) = some 0 := by decide +kernel
set_option maxRecDepth 20000 in
theorem fl_X8_166 : Cond.fieldLink RX8 166 (TX5 7).1 (TX5 7).2.1 (TX5 7).2.2.1 ∈ TT := TT_mem 229 (by decide +kernel) rfl
set_option maxRecDepth 20000 in
theorem cd_X8_descend : Cond.code yX8_descend cX8_descend 1 none ∈ TT := TT_mem 458 (by decide +kernel) rfl
set_option maxRecDepth 20000 in
theorem dd_X8_descend : yX8_descend.cls ≠ "java/lang/invoke/MethodHandle" ∧ yX8_descend.cls ≠ "java/lang/invoke/VarHandle" ∧ (parseMethodDescriptor yX8_descend.desc).map (fun d => d.parameters.length) = some 0 := by decide +kernel
set_option maxRecDepth 20000 in
theorem fl_X8_169 : Cond.fieldLink RX8 169 (TX5 2).1 (TX5 2).2.1 (TX5 2).2.2.1 ∈ TT := TT_mem 219 (by decide +kernel) rfl
set_option maxRecDepth 20000 in
theorem cf_X8_173 : ∀ w ∈ ([.methodLink RX8 173 yX4_startAnew, .instanceMethod yX4_startAnew, .selects yX4_startAnew.cls yX4_startAnew yX4_startAnew, .initialized yX4_startAnew.cls] : List Cond), w ∈ TT := TT_by [459, 460, 461, 32] (by decide +kernel) rfl
set_option maxRecDepth 20000 in
theorem cd_X8_step : Cond.code yX8_step cX8_step 5 (some .int) ∈ TT := TT_mem 470 (by decide +kernel) rfl
set_option maxRecDepth 20000 in
theorem dd_X8_step : yX8_step.cls ≠ "java/lang/invoke/MethodHandle" ∧ yX8_step.cls ≠ "java/lang/invoke/VarHandle" ∧ (parseMethodDescriptor yX8_step.desc).map (fun d => d.parameters.length) = some 0 := by decide +kernel
set_option maxRecDepth 20000 in
theorem fl_X8_178 : Cond.fieldLink RX8 178 (TX4 2).1 (TX4 2).2.1 (TX4 2).2.2.1 ∈ TT := TT_mem 132 (by decide +kernel) rfl
set_option maxRecDepth 20000 in
theorem cf_X8_181 : ∀ w ∈ ([.methodLink RX8 181 yX4_topRow, .instanceMethod yX4_topRow, .selects yX4_topRow.cls yX4_topRow yX4_topRow, .initialized yX4_topRow.cls] : List Cond), w ∈ TT := TT_by [471, 472, 473, 32] (by decide +kernel) rfl
set_option maxRecDepth 20000 in
theorem cf_X8_184 : ∀ w ∈ ([.methodLink RX8 184 yX4_topLength, .instanceMethod yX4_topLength, .selects yX4_topLength.cls yX4_topLength yX4_topLength, .initialized yX4_topLength.cls] : List Cond), w ∈ TT := TT_by [475, 476, 477, 32] (by decide +kernel) rfl
set_option maxRecDepth 20000 in
theorem cf_X8_188 : ∀ w ∈ ([.methodLink RX8 188 yX4_dropTop, .instanceMethod yX4_dropTop, .selects yX4_dropTop.cls yX4_dropTop yX4_dropTop, .initialized yX4_dropTop.cls] : List Cond), w ∈ TT := TT_by [479, 480, 481, 32] (by decide +kernel) rfl
set_option maxRecDepth 20000 in
theorem cf_X8_191 : ∀ w ∈ ([.methodLink RX8 191 yX4_addBoth, .instanceMethod yX4_addBoth, .selects yX4_addBoth.cls yX4_addBoth yX4_addBoth, .initialized yX4_addBoth.cls] : List Cond), w ∈ TT := TT_by [483, 484, 485, 32] (by decide +kernel) rfl
set_option maxRecDepth 20000 in
theorem cd_X8_nodes : Cond.code yX8_nodes cX8_nodes 8 (some .int) ∈ TT := TT_mem 490 (by decide +kernel) rfl
set_option maxRecDepth 20000 in
theorem dd_X8_nodes : yX8_nodes.cls ≠ "java/lang/invoke/MethodHandle" ∧ yX8_nodes.cls ≠ "java/lang/invoke/VarHandle" ∧ (parseMethodDescriptor yX8_nodes.desc).map (fun d => d.parameters.length) = some 0 := by decide +kernel
set_option maxRecDepth 20000 in
theorem cf_X8_195 : ∀ w ∈ ([.methodLink RX8 195 yX6_asked, .instanceMethod yX6_asked, .selects yX6_asked.cls yX6_asked yX6_asked, .initialized yX6_asked.cls] : List Cond), w ∈ TT := TT_by [491, 430, 431, 30] (by decide +kernel) rfl
set_option maxRecDepth 20000 in
theorem cf_X8_198 : ∀ w ∈ ([.methodLink RX8 198 yX8_admitCrowd, .instanceMethod yX8_admitCrowd, .selects yX8_admitCrowd.cls yX8_admitCrowd yX8_admitCrowd, .initialized yX8_admitCrowd.cls] : List Cond), w ∈ TT := TT_by [492, 494, 6, 28] (by decide +kernel) rfl
set_option maxRecDepth 20000 in
theorem cf_X8_202 : ∀ w ∈ ([.methodLink RX8 202 yX1_turn, .instanceMethod yX1_turn, .selects yX1_turn.cls yX1_turn yX1_turn, .initialized yX1_turn.cls] : List Cond), w ∈ TT := TT_by [500, 501, 502, 36] (by decide +kernel) rfl
set_option maxRecDepth 20000 in
theorem fl_X8_205 : Cond.fieldLink RX8 205 (TX1 3).1 (TX1 3).2.1 (TX1 3).2.2.1 ∈ TT := TT_mem 258 (by decide +kernel) rfl
set_option maxRecDepth 20000 in
theorem cf_X8_206 : ∀ w ∈ ([.methodLink RX8 206 yX1_at, .instanceMethod yX1_at, .selects yX1_at.cls yX1_at yX1_at, .initialized yX1_at.cls] : List Cond), w ∈ TT := TT_by [507, 508, 509, 36] (by decide +kernel) rfl
set_option maxRecDepth 20000 in
theorem cd_X8_begin : Cond.code yX8_begin cX8_begin 3 (some .int) ∈ TT := TT_mem 514 (by decide +kernel) rfl
set_option maxRecDepth 20000 in
theorem dd_X8_begin : yX8_begin.cls ≠ "java/lang/invoke/MethodHandle" ∧ yX8_begin.cls ≠ "java/lang/invoke/VarHandle" ∧ (parseMethodDescriptor yX8_begin.desc).map (fun d => d.parameters.length) = some 0 := by decide +kernel
set_option maxRecDepth 20000 in
theorem cf_X8_210 : ∀ w ∈ ([.methodLink RX8 210 yX6_splitting, .instanceMethod yX6_splitting, .selects yX6_splitting.cls yX6_splitting yX6_splitting, .initialized yX6_splitting.cls] : List Cond), w ∈ TT := TT_by [515, 516, 517, 30] (by decide +kernel) rfl
set_option maxRecDepth 20000 in
theorem cf_X8_213 : ∀ w ∈ ([.methodLink RX8 213 yX0_start, .instanceMethod yX0_start, .selects yX0_start.cls yX0_start yX0_start, .initialized yX0_start.cls] : List Cond), w ∈ TT := TT_by [519, 520, 521, 33] (by decide +kernel) rfl
set_option maxRecDepth 20000 in
theorem cd_X8_split : Cond.code yX8_split cX8_split 6 (some .int) ∈ TT := TT_mem 529 (by decide +kernel) rfl
set_option maxRecDepth 20000 in
theorem dd_X8_split : yX8_split.cls ≠ "java/lang/invoke/MethodHandle" ∧ yX8_split.cls ≠ "java/lang/invoke/VarHandle" ∧ (parseMethodDescriptor yX8_split.desc).map (fun d => d.parameters.length) = some 0 := by decide +kernel
set_option maxRecDepth 20000 in
theorem cf_X8_216 : ∀ w ∈ ([.methodLink RX8 216 yX0_isUnderWay, .instanceMethod yX0_isUnderWay, .selects yX0_isUnderWay.cls yX0_isUnderWay yX0_isUnderWay, .initialized yX0_isUnderWay.cls] : List Cond), w ∈ TT := TT_by [530, 531, 532, 33] (by decide +kernel) rfl
set_option maxRecDepth 20000 in
theorem cf_X8_220 : ∀ w ∈ ([.methodLink RX8 220 yX0_atZero, .instanceMethod yX0_atZero, .selects yX0_atZero.cls yX0_atZero yX0_atZero, .initialized yX0_atZero.cls] : List Cond), w ∈ TT := TT_by [534, 535, 536, 33] (by decide +kernel) rfl
set_option maxRecDepth 20000 in
theorem cf_X8_224 : ∀ w ∈ ([.methodLink RX8 224 yX0_shift, .instanceMethod yX0_shift, .selects yX0_shift.cls yX0_shift yX0_shift, .initialized yX0_shift.cls] : List Cond), w ∈ TT := TT_by [539, 540, 541, 33] (by decide +kernel) rfl
set_option maxRecDepth 20000 in
theorem cf_X8_227 : ∀ w ∈ ([.methodLink RX8 227 yX8_drawCounters, .instanceMethod yX8_drawCounters, .selects yX8_drawCounters.cls yX8_drawCounters yX8_drawCounters, .initialized yX8_drawCounters.cls] : List Cond), w ∈ TT := TT_by [546, 548, 7, 28] (by decide +kernel) rfl
set_option maxRecDepth 20000 in
theorem cf_X8_230 : ∀ w ∈ ([.methodLink RX8 230 yX0_release, .instanceMethod yX0_release, .selects yX0_release.cls yX0_release yX0_release, .initialized yX0_release.cls] : List Cond), w ∈ TT := TT_by [560, 561, 562, 33] (by decide +kernel) rfl
set_option maxRecDepth 20000 in
theorem cf_X8_233 : ∀ w ∈ ([.methodLink RX8 233 yX8_findAndTire, .instanceMethod yX8_findAndTire, .selects yX8_findAndTire.cls yX8_findAndTire yX8_findAndTire, .initialized yX8_findAndTire.cls] : List Cond), w ∈ TT := TT_by [565, 567, 8, 28] (by decide +kernel) rfl
set_option maxRecDepth 20000 in
theorem cd_X8_frames : Cond.code yX8_frames cX8_frames 1 none ∈ TT := TT_mem 576 (by decide +kernel) rfl
set_option maxRecDepth 20000 in
theorem dd_X8_frames : yX8_frames.cls ≠ "java/lang/invoke/MethodHandle" ∧ yX8_frames.cls ≠ "java/lang/invoke/VarHandle" ∧ (parseMethodDescriptor yX8_frames.desc).map (fun d => d.parameters.length) = some 0 := by decide +kernel
set_option maxRecDepth 20000 in
theorem fl_X8_236 : Cond.fieldLink RX8 236 (TX5 4).1 (TX5 4).2.1 (TX5 4).2.2.1 ∈ TT := TT_mem 223 (by decide +kernel) rfl
set_option maxRecDepth 20000 in
theorem fl_X8_240 : Cond.fieldLink RX8 240 (TX2 0).1 (TX2 0).2.1 (TX2 0).2.2.1 ∈ TT := TT_mem 164 (by decide +kernel) rfl
set_option maxRecDepth 20000 in
theorem cd_X8_frame : Cond.code yX8_frame cX8_frame 6 (some .int) ∈ TT := TT_mem 580 (by decide +kernel) rfl
set_option maxRecDepth 20000 in
theorem dd_X8_frame : yX8_frame.cls ≠ "java/lang/invoke/MethodHandle" ∧ yX8_frame.cls ≠ "java/lang/invoke/VarHandle" ∧ (parseMethodDescriptor yX8_frame.desc).map (fun d => d.parameters.length) = some 1 := by decide +kernel
set_option maxRecDepth 20000 in
theorem cf_X8_245 : ∀ w ∈ ([.methodLink RX8 245 yX8_drawSlots, .instanceMethod yX8_drawSlots, .selects yX8_drawSlots.cls yX8_drawSlots yX8_drawSlots, .initialized yX8_drawSlots.cls] : List Cond), w ∈ TT := TT_by [581, 583, 9, 28] (by decide +kernel) rfl
set_option maxRecDepth 20000 in
theorem cf_X8_248 : ∀ w ∈ ([.methodLink RX8 248 yX2_startOne, .instanceMethod yX2_startOne, .selects yX2_startOne.cls yX2_startOne yX2_startOne, .initialized yX2_startOne.cls] : List Cond), w ∈ TT := TT_by [592, 593, 594, 34] (by decide +kernel) rfl
set_option maxRecDepth 20000 in
theorem cf_X8_251 : ∀ w ∈ ([.methodLink RX8 251 yX8_audibleOf, .instanceMethod yX8_audibleOf, .selects yX8_audibleOf.cls yX8_audibleOf yX8_audibleOf, .initialized yX8_audibleOf.cls] : List Cond), w ∈ TT := TT_by [440, 442, 4, 28] (by decide +kernel) rfl
set_option maxRecDepth 20000 in
theorem cf_X8_254 : ∀ w ∈ ([.methodLink RX8 254 yX8_kindOfSlot, .static yX8_kindOfSlot, .initialized yX8_kindOfSlot.cls] : List Cond), w ∈ TT := TT_by [444, 445, 28] (by decide +kernel) rfl
set_option maxRecDepth 20000 in
theorem cf_X8_257 : ∀ w ∈ ([.methodLink RX8 257 yX7_addSlot, .instanceMethod yX7_addSlot, .selects yX7_addSlot.cls yX7_addSlot yX7_addSlot, .initialized yX7_addSlot.cls] : List Cond), w ∈ TT := TT_by [447, 448, 449, 35] (by decide +kernel) rfl
set_option maxRecDepth 20000 in
theorem cf_X8_260 : ∀ w ∈ ([.methodLink RX8 260 yX2_note, .instanceMethod yX2_note, .selects yX2_note.cls yX2_note yX2_note, .initialized yX2_note.cls] : List Cond), w ∈ TT := TT_by [596, 597, 598, 34] (by decide +kernel) rfl
set_option maxRecDepth 20000 in
theorem cf_X8_263 : ∀ w ∈ ([.methodLink RX8 263 yX2_guessNext, .instanceMethod yX2_guessNext, .selects yX2_guessNext.cls yX2_guessNext yX2_guessNext, .initialized yX2_guessNext.cls] : List Cond), w ∈ TT := TT_by [600, 601, 602, 34] (by decide +kernel) rfl
set_option maxRecDepth 20000 in
theorem fl_X8_266 : Cond.fieldLink RX8 266 (TX2 2).1 (TX2 2).2.1 (TX2 2).2.2.1 ∈ TT := TT_mem 168 (by decide +kernel) rfl
set_option maxRecDepth 20000 in
theorem cd_X8_heard : Cond.code yX8_heard cX8_heard 2 (some .int) ∈ TT := TT_mem 612 (by decide +kernel) rfl
set_option maxRecDepth 20000 in
theorem dd_X8_heard : yX8_heard.cls ≠ "java/lang/invoke/MethodHandle" ∧ yX8_heard.cls ≠ "java/lang/invoke/VarHandle" ∧ (parseMethodDescriptor yX8_heard.desc).map (fun d => d.parameters.length) = some 1 := by decide +kernel
set_option maxRecDepth 20000 in
theorem fl_X8_269 : Cond.fieldLink RX8 269 (TX2 1).1 (TX2 1).2.1 (TX2 1).2.2.1 ∈ TT := TT_mem 166 (by decide +kernel) rfl
set_option maxRecDepth 20000 in
theorem fl_X8_272 : Cond.fieldLink RX8 272 (TX2 3).1 (TX2 3).2.1 (TX2 3).2.2.1 ∈ TT := TT_mem 170 (by decide +kernel) rfl
set_option maxRecDepth 20000 in
theorem fl_X8_275 : Cond.fieldLink RX8 275 (TX2 4).1 (TX2 4).2.1 (TX2 4).2.2.1 ∈ TT := TT_mem 172 (by decide +kernel) rfl
set_option maxRecDepth 20000 in
theorem cd_X8_found : Cond.code yX8_found cX8_found 2 (some .int) ∈ TT := TT_mem 616 (by decide +kernel) rfl
set_option maxRecDepth 20000 in
theorem dd_X8_found : yX8_found.cls ≠ "java/lang/invoke/MethodHandle" ∧ yX8_found.cls ≠ "java/lang/invoke/VarHandle" ∧ (parseMethodDescriptor yX8_found.desc).map (fun d => d.parameters.length) = some 1 := by decide +kernel
set_option maxRecDepth 20000 in
theorem cf_X8_278 : ∀ w ∈ ([.methodLink RX8 278 yX7_foundAt, .instanceMethod yX7_foundAt, .selects yX7_foundAt.cls yX7_foundAt yX7_foundAt, .initialized yX7_foundAt.cls] : List Cond), w ∈ TT := TT_by [617, 618, 619, 35] (by decide +kernel) rfl
set_option maxRecDepth 20000 in
theorem cd_X8_cost : Cond.code yX8_cost cX8_cost 2 (some .int) ∈ TT := TT_mem 624 (by decide +kernel) rfl
set_option maxRecDepth 20000 in
theorem dd_X8_cost : yX8_cost.cls ≠ "java/lang/invoke/MethodHandle" ∧ yX8_cost.cls ≠ "java/lang/invoke/VarHandle" ∧ (parseMethodDescriptor yX8_cost.desc).map (fun d => d.parameters.length) = some 1 := by decide +kernel
set_option maxRecDepth 20000 in
theorem fl_X8_281 : Cond.fieldLink RX8 281 (TX7 2).1 (TX7 2).2.1 (TX7 2).2.2.1 ∈ TT := TT_mem 194 (by decide +kernel) rfl
set_option maxRecDepth 20000 in
theorem fl_X8_284 : Cond.fieldLink RX8 284 (TX7 3).1 (TX7 3).2.1 (TX7 3).2.2.1 ∈ TT := TT_mem 196 (by decide +kernel) rfl
set_option maxRecDepth 20000 in
theorem fl_X8_287 : Cond.fieldLink RX8 287 (TX7 4).1 (TX7 4).2.1 (TX7 4).2.2.1 ∈ TT := TT_mem 198 (by decide +kernel) rfl
set_option maxRecDepth 20000 in
theorem fl_X8_290 : Cond.fieldLink RX8 290 (TX7 5).1 (TX7 5).2.1 (TX7 5).2.2.1 ∈ TT := TT_mem 200 (by decide +kernel) rfl
set_option maxRecDepth 20000 in
theorem cf_X8_293 : ∀ w ∈ ([.methodLink RX8 293 yX7_allSlots, .instanceMethod yX7_allSlots, .selects yX7_allSlots.cls yX7_allSlots yX7_allSlots, .initialized yX7_allSlots.cls] : List Cond), w ∈ TT := TT_by [625, 626, 627, 35] (by decide +kernel) rfl
set_option maxRecDepth 20000 in
theorem cd_X8_count : Cond.code yX8_count cX8_count 2 (some .int) ∈ TT := TT_mem 632 (by decide +kernel) rfl
set_option maxRecDepth 20000 in
theorem dd_X8_count : yX8_count.cls ≠ "java/lang/invoke/MethodHandle" ∧ yX8_count.cls ≠ "java/lang/invoke/VarHandle" ∧ (parseMethodDescriptor yX8_count.desc).map (fun d => d.parameters.length) = some 1 := by decide +kernel
set_option maxRecDepth 20000 in
theorem fl_X8_296 : Cond.fieldLink RX8 296 (TX6 5).1 (TX6 5).2.1 (TX6 5).2.2.1 ∈ TT := TT_mem 72 (by decide +kernel) rfl
set_option maxRecDepth 20000 in
theorem fl_X8_297 : Cond.fieldLink RX8 297 (TX7 1).1 (TX7 1).2.1 (TX7 1).2.2.1 ∈ TT := TT_mem 192 (by decide +kernel) rfl
set_option maxRecDepth 20000 in
theorem fl_X8_300 : Cond.fieldLink RX8 300 (TX0 2).1 (TX0 2).2.1 (TX0 2).2.2.1 ∈ TT := TT_mem 149 (by decide +kernel) rfl
set_option maxRecDepth 20000 in
theorem cd_X8_image : Cond.code yX8_image cX8_image 3 (some .boolean) ∈ TT := TT_mem 636 (by decide +kernel) rfl
set_option maxRecDepth 20000 in
theorem dd_X8_image : yX8_image.cls ≠ "java/lang/invoke/MethodHandle" ∧ yX8_image.cls ≠ "java/lang/invoke/VarHandle" ∧ (parseMethodDescriptor yX8_image.desc).map (fun d => d.parameters.length) = some 1 := by decide +kernel
set_option maxRecDepth 20000 in
theorem cf_X8_303 : ∀ w ∈ ([.methodLink RX8 303 yX5_copyFrom, .instanceMethod yX5_copyFrom, .selects yX5_copyFrom.cls yX5_copyFrom yX5_copyFrom, .initialized yX5_copyFrom.cls] : List Cond), w ∈ TT := TT_by [637, 638, 639, 29] (by decide +kernel) rfl
set_option maxRecDepth 20000 in
theorem cd_X8_again : Cond.code yX8_again cX8_again 3 (some .boolean) ∈ TT := TT_mem 672 (by decide +kernel) rfl
set_option maxRecDepth 20000 in
theorem dd_X8_again : yX8_again.cls ≠ "java/lang/invoke/MethodHandle" ∧ yX8_again.cls ≠ "java/lang/invoke/VarHandle" ∧ (parseMethodDescriptor yX8_again.desc).map (fun d => d.parameters.length) = some 1 := by decide +kernel
set_option maxRecDepth 20000 in
theorem cd_X8_hearSlot : Cond.code yX8_hearSlot cX8_hearSlot 6 (some .int) ∈ TT := TT_mem 439 (by decide +kernel) rfl
set_option maxRecDepth 20000 in
theorem dd_X8_hearSlot : yX8_hearSlot.cls ≠ "java/lang/invoke/MethodHandle" ∧ yX8_hearSlot.cls ≠ "java/lang/invoke/VarHandle" ∧ (parseMethodDescriptor yX8_hearSlot.desc).map (fun d => d.parameters.length) = some 1 := by decide +kernel
set_option maxRecDepth 20000 in
theorem cd_X8_audibleOf : Cond.code yX8_audibleOf cX8_audibleOf 6 (some .long) ∈ TT := TT_mem 443 (by decide +kernel) rfl
set_option maxRecDepth 20000 in
theorem dd_X8_audibleOf : yX8_audibleOf.cls ≠ "java/lang/invoke/MethodHandle" ∧ yX8_audibleOf.cls ≠ "java/lang/invoke/VarHandle" ∧ (parseMethodDescriptor yX8_audibleOf.desc).map (fun d => d.parameters.length) = some 1 := by decide +kernel
set_option maxRecDepth 20000 in
theorem fl_X8_307 : Cond.fieldLink RX8 307 (TX6 4).1 (TX6 4).2.1 (TX6 4).2.2.1 ∈ TT := TT_mem 70 (by decide +kernel) rfl
set_option maxRecDepth 20000 in
theorem cd_X8_admitCrowd : Cond.code yX8_admitCrowd cX8_admitCrowd 3 none ∈ TT := TT_mem 495 (by decide +kernel) rfl
set_option maxRecDepth 20000 in
theorem dd_X8_admitCrowd : yX8_admitCrowd.cls ≠ "java/lang/invoke/MethodHandle" ∧ yX8_admitCrowd.cls ≠ "java/lang/invoke/VarHandle" ∧ (parseMethodDescriptor yX8_admitCrowd.desc).map (fun d => d.parameters.length) = some 1 := by decide +kernel
set_option maxRecDepth 20000 in
theorem cf_X8_310 : ∀ w ∈ ([.methodLink RX8 310 yX1_admit, .instanceMethod yX1_admit, .selects yX1_admit.cls yX1_admit yX1_admit, .initialized yX1_admit.cls] : List Cond), w ∈ TT := TT_by [496, 497, 498, 36] (by decide +kernel) rfl
set_option maxRecDepth 20000 in
theorem cd_X8_findAndTire : Cond.code yX8_findAndTire cX8_findAndTire 2 none ∈ TT := TT_mem 568 (by decide +kernel) rfl
set_option maxRecDepth 20000 in
theorem dd_X8_findAndTire : yX8_findAndTire.cls ≠ "java/lang/invoke/MethodHandle" ∧ yX8_findAndTire.cls ≠ "java/lang/invoke/VarHandle" ∧ (parseMethodDescriptor yX8_findAndTire.desc).map (fun d => d.parameters.length) = some 1 := by decide +kernel
set_option maxRecDepth 20000 in
theorem cf_X8_313 : ∀ w ∈ ([.methodLink RX8 313 yX6_tire, .instanceMethod yX6_tire, .selects yX6_tire.cls yX6_tire yX6_tire, .initialized yX6_tire.cls] : List Cond), w ∈ TT := TT_by [569, 570, 571, 30] (by decide +kernel) rfl
set_option maxRecDepth 20000 in
theorem cd_X8_drawCounters : Cond.code yX8_drawCounters cX8_drawCounters 4 none ∈ TT := TT_mem 549 (by decide +kernel) rfl
set_option maxRecDepth 20000 in
theorem dd_X8_drawCounters : yX8_drawCounters.cls ≠ "java/lang/invoke/MethodHandle" ∧ yX8_drawCounters.cls ≠ "java/lang/invoke/VarHandle" ∧ (parseMethodDescriptor yX8_drawCounters.desc).map (fun d => d.parameters.length) = some 1 := by decide +kernel
set_option maxRecDepth 20000 in
theorem cf_X8_316 : ∀ w ∈ ([.methodLink RX8 316 yX6_draw, .instanceMethod yX6_draw, .selects yX6_draw.cls yX6_draw yX6_draw, .initialized yX6_draw.cls] : List Cond), w ∈ TT := TT_by [550, 551, 552, 30] (by decide +kernel) rfl
set_option maxRecDepth 20000 in
theorem cf_X8_320 : ∀ w ∈ ([.methodLink RX8 320 yX0_put, .instanceMethod yX0_put, .selects yX0_put.cls yX0_put yX0_put, .initialized yX0_put.cls] : List Cond), w ∈ TT := TT_by [556, 557, 558, 33] (by decide +kernel) rfl
set_option maxRecDepth 20000 in
theorem cd_X8_drawSlots : Cond.code yX8_drawSlots cX8_drawSlots 6 none ∈ TT := TT_mem 584 (by decide +kernel) rfl
set_option maxRecDepth 20000 in
theorem dd_X8_drawSlots : yX8_drawSlots.cls ≠ "java/lang/invoke/MethodHandle" ∧ yX8_drawSlots.cls ≠ "java/lang/invoke/VarHandle" ∧ (parseMethodDescriptor yX8_drawSlots.desc).map (fun d => d.parameters.length) = some 1 := by decide +kernel
set_option maxRecDepth 20000 in
theorem cf_X8_324 : ∀ w ∈ ([.methodLink RX8 324 yJ7_fill_d0a16, .static yJ7_fill_d0a16, .initialized yJ7_fill_d0a16.cls] : List Cond), w ∈ TT := TT_by [585, 586, 40] (by decide +kernel) rfl
set_option maxRecDepth 20000 in
theorem cf_X8_330 : ∀ w ∈ ([.methodLink RX8 330 yX6_slotted, .instanceMethod yX6_slotted, .selects yX6_slotted.cls yX6_slotted yX6_slotted, .initialized yX6_slotted.cls] : List Cond), w ∈ TT := TT_by [588, 589, 590, 30] (by decide +kernel) rfl
set_option maxRecDepth 20000 in
theorem cf_X8_333 : ∀ w ∈ ([.methodLink RX8 333 yX8_setOf, .static yX8_setOf, .initialized yX8_setOf.cls] : List Cond), w ∈ TT := TT_by [335, 304, 28] (by decide +kernel) rfl
set_option maxRecDepth 20000 in
theorem cd_X8_kindOfSlot : Cond.code yX8_kindOfSlot cX8_kindOfSlot 2 (some .int) ∈ TT := TT_mem 446 (by decide +kernel) rfl
set_option maxRecDepth 20000 in
theorem dd_X8_kindOfSlot : yX8_kindOfSlot.cls ≠ "java/lang/invoke/MethodHandle" ∧ yX8_kindOfSlot.cls ≠ "java/lang/invoke/VarHandle" ∧ (parseMethodDescriptor yX8_kindOfSlot.desc).map (fun d => d.parameters.length) = some 1 := by decide +kernel
set_option maxRecDepth 20000 in
theorem cd_X8_setOf : Cond.code yX8_setOf cX8_setOf 1 (some .long) ∈ TT := TT_mem 305 (by decide +kernel) rfl
set_option maxRecDepth 20000 in
theorem dd_X8_setOf : yX8_setOf.cls ≠ "java/lang/invoke/MethodHandle" ∧ yX8_setOf.cls ≠ "java/lang/invoke/VarHandle" ∧ (parseMethodDescriptor yX8_setOf.desc).map (fun d => d.parameters.length) = some 1 := by decide +kernel
set_option maxRecDepth 20000 in
theorem cd_X8_isIn : Cond.code yX8_isIn cX8_isIn 3 (some .boolean) ∈ TT := TT_mem 334 (by decide +kernel) rfl
set_option maxRecDepth 20000 in
theorem dd_X8_isIn : yX8_isIn.cls ≠ "java/lang/invoke/MethodHandle" ∧ yX8_isIn.cls ≠ "java/lang/invoke/VarHandle" ∧ (parseMethodDescriptor yX8_isIn.desc).map (fun d => d.parameters.length) = some 2 := by decide +kernel
set_option maxRecDepth 20000 in
theorem cd_X8_firstOf : Cond.code yX8_firstOf cX8_firstOf 2 (some .int) ∈ TT := TT_mem 399 (by decide +kernel) rfl
set_option maxRecDepth 20000 in
theorem dd_X8_firstOf : yX8_firstOf.cls ≠ "java/lang/invoke/MethodHandle" ∧ yX8_firstOf.cls ≠ "java/lang/invoke/VarHandle" ∧ (parseMethodDescriptor yX8_firstOf.desc).map (fun d => d.parameters.length) = some 1 := by decide +kernel
set_option maxRecDepth 20000 in
theorem cd_X8_oneIf : Cond.code yX8_oneIf cX8_oneIf 1 (some .int) ∈ TT := TT_mem 338 (by decide +kernel) rfl
set_option maxRecDepth 20000 in
theorem dd_X8_oneIf : yX8_oneIf.cls ≠ "java/lang/invoke/MethodHandle" ∧ yX8_oneIf.cls ≠ "java/lang/invoke/VarHandle" ∧ (parseMethodDescriptor yX8_oneIf.desc).map (fun d => d.parameters.length) = some 1 := by decide +kernel
set_option maxRecDepth 20000 in
theorem cd_X8_isOneAt : Cond.code yX8_isOneAt cX8_isOneAt 3 (some .boolean) ∈ TT := TT_mem 294 (by decide +kernel) rfl
set_option maxRecDepth 20000 in
theorem dd_X8_isOneAt : yX8_isOneAt.cls ≠ "java/lang/invoke/MethodHandle" ∧ yX8_isOneAt.cls ≠ "java/lang/invoke/VarHandle" ∧ (parseMethodDescriptor yX8_isOneAt.desc).map (fun d => d.parameters.length) = some 2 := by decide +kernel
set_option maxRecDepth 20000 in
theorem cd_X8_sumOf : Cond.code yX8_sumOf cX8_sumOf 5 (some .int) ∈ TT := TT_mem 291 (by decide +kernel) rfl
set_option maxRecDepth 20000 in
theorem dd_X8_sumOf : yX8_sumOf.cls ≠ "java/lang/invoke/MethodHandle" ∧ yX8_sumOf.cls ≠ "java/lang/invoke/VarHandle" ∧ (parseMethodDescriptor yX8_sumOf.desc).map (fun d => d.parameters.length) = some 1 := by decide +kernel
set_option maxRecDepth 20000 in
theorem cd_X9_init : Cond.code yX9_init cX9_init 1 none ∈ TT := TT_mem 677 (by decide +kernel) rfl
set_option maxRecDepth 20000 in
theorem dd_X9_init : yX9_init.cls ≠ "java/lang/invoke/MethodHandle" ∧ yX9_init.cls ≠ "java/lang/invoke/VarHandle" ∧ (parseMethodDescriptor yX9_init.desc).map (fun d => d.parameters.length) = some 0 := by decide +kernel
set_option maxRecDepth 20000 in
theorem cf_X9_1 : ∀ w ∈ ([.methodLink RX9 1 objectInit, .instanceMethod objectInit, .code objectInit ⟨#[0xb1]⟩ 1 none] : List Cond), w ∈ TT := TT_by [678, 48, 49] (by decide +kernel) rfl
set_option maxRecDepth 20000 in
theorem fl_X9_7 : Cond.fieldLink RX9 7 (TX9 0).1 (TX9 0).2.1 (TX9 0).2.2.1 ∈ TT := TT_mem 679 (by decide +kernel) rfl
set_option maxRecDepth 20000 in
theorem fl_X9_13 : Cond.fieldLink RX9 13 (TX9 1).1 (TX9 1).2.1 (TX9 1).2.2.1 ∈ TT := TT_mem 680 (by decide +kernel) rfl
set_option maxRecDepth 20000 in
theorem fl_X9_17 : Cond.fieldLink RX9 17 (TX9 2).1 (TX9 2).2.1 (TX9 2).2.2.1 ∈ TT := TT_mem 681 (by decide +kernel) rfl
set_option maxRecDepth 20000 in
theorem fl_X9_21 : Cond.fieldLink RX9 21 (TX9 3).1 (TX9 3).2.1 (TX9 3).2.2.1 ∈ TT := TT_mem 682 (by decide +kernel) rfl
set_option maxRecDepth 20000 in
theorem fl_X9_24 : Cond.fieldLink RX9 24 (TX9 4).1 (TX9 4).2.1 (TX9 4).2.2.1 ∈ TT := TT_mem 683 (by decide +kernel) rfl
set_option maxRecDepth 20000 in
theorem fl_X9_27 : Cond.fieldLink RX9 27 (TX9 6).1 (TX9 6).2.1 (TX9 6).2.2.1 ∈ TT := TT_mem 685 (by decide +kernel) rfl
set_option maxRecDepth 20000 in
theorem fl_X9_30 : Cond.fieldLink RX9 30 (TX9 7).1 (TX9 7).2.1 (TX9 7).2.2.1 ∈ TT := TT_mem 686 (by decide +kernel) rfl
set_option maxRecDepth 20000 in
theorem fl_X9_33 : Cond.fieldLink RX9 33 (TX9 8).1 (TX9 8).2.1 (TX9 8).2.2.1 ∈ TT := TT_mem 687 (by decide +kernel) rfl
set_option maxRecDepth 20000 in
theorem cd_X9_isIn : Cond.code yX9_isIn cX9_isIn 2 (some .boolean) ∈ TT := TT_mem 714 (by decide +kernel) rfl
set_option maxRecDepth 20000 in
theorem dd_X9_isIn : yX9_isIn.cls ≠ "java/lang/invoke/MethodHandle" ∧ yX9_isIn.cls ≠ "java/lang/invoke/VarHandle" ∧ (parseMethodDescriptor yX9_isIn.desc).map (fun d => d.parameters.length) = some 2 := by decide +kernel
set_option maxRecDepth 20000 in
theorem cd_X9_isTag : Cond.code yX9_isTag cX9_isTag 2 (some .boolean) ∈ TT := TT_mem 736 (by decide +kernel) rfl
set_option maxRecDepth 20000 in
theorem dd_X9_isTag : yX9_isTag.cls ≠ "java/lang/invoke/MethodHandle" ∧ yX9_isTag.cls ≠ "java/lang/invoke/VarHandle" ∧ (parseMethodDescriptor yX9_isTag.desc).map (fun d => d.parameters.length) = some 1 := by decide +kernel
set_option maxRecDepth 20000 in
theorem cf_X9_36 : ∀ w ∈ ([.methodLink RX9 36 yX9_isIn, .static yX9_isIn, .initialized yX9_isIn.cls] : List Cond), w ∈ TT := TT_by [712, 713, 37] (by decide +kernel) rfl
set_option maxRecDepth 20000 in
theorem cd_X9_of : Cond.code yX9_of cX9_of 3 (some .int) ∈ TT := TT_mem 749 (by decide +kernel) rfl
set_option maxRecDepth 20000 in
theorem dd_X9_of : yX9_of.cls ≠ "java/lang/invoke/MethodHandle" ∧ yX9_of.cls ≠ "java/lang/invoke/VarHandle" ∧ (parseMethodDescriptor yX9_of.desc).map (fun d => d.parameters.length) = some 2 := by decide +kernel
set_option maxRecDepth 20000 in
theorem cd_X9_sets : Cond.code yX9_sets cX9_sets 4 none ∈ TT := TT_mem 728 (by decide +kernel) rfl
set_option maxRecDepth 20000 in
theorem dd_X9_sets : yX9_sets.cls ≠ "java/lang/invoke/MethodHandle" ∧ yX9_sets.cls ≠ "java/lang/invoke/VarHandle" ∧ (parseMethodDescriptor yX9_sets.desc).map (fun d => d.parameters.length) = some 3 := by decide +kernel
set_option maxRecDepth 20000 in
theorem cd_X9_bitOf : Cond.code yX9_bitOf cX9_bitOf 3 (some .int) ∈ TT := TT_mem 724 (by decide +kernel) rfl
set_option maxRecDepth 20000 in
theorem dd_X9_bitOf : yX9_bitOf.cls ≠ "java/lang/invoke/MethodHandle" ∧ yX9_bitOf.cls ≠ "java/lang/invoke/VarHandle" ∧ (parseMethodDescriptor yX9_bitOf.desc).map (fun d => d.parameters.length) = some 2 := by decide +kernel
set_option maxRecDepth 20000 in
theorem cd_X9_sumOf : Cond.code yX9_sumOf cX9_sumOf 5 (some .int) ∈ TT := TT_mem 721 (by decide +kernel) rfl
set_option maxRecDepth 20000 in
theorem dd_X9_sumOf : yX9_sumOf.cls ≠ "java/lang/invoke/MethodHandle" ∧ yX9_sumOf.cls ≠ "java/lang/invoke/VarHandle" ∧ (parseMethodDescriptor yX9_sumOf.desc).map (fun d => d.parameters.length) = some 1 := by decide +kernel
set_option maxRecDepth 20000 in
theorem cf_X9_40 : ∀ w ∈ ([.methodLink RX9 40 yX9_bitOf, .static yX9_bitOf, .initialized yX9_bitOf.cls] : List Cond), w ∈ TT := TT_by [722, 723, 37] (by decide +kernel) rfl
set_option maxRecDepth 20000 in
theorem cd_X9_listens : Cond.code yX9_listens cX9_listens 2 (some .boolean) ∈ TT := TT_mem 753 (by decide +kernel) rfl
set_option maxRecDepth 20000 in
theorem dd_X9_listens : yX9_listens.cls ≠ "java/lang/invoke/MethodHandle" ∧ yX9_listens.cls ≠ "java/lang/invoke/VarHandle" ∧ (parseMethodDescriptor yX9_listens.desc).map (fun d => d.parameters.length) = some 1 := by decide +kernel
set_option maxRecDepth 20000 in
theorem cf_X9_44 : ∀ w ∈ ([.methodLink RX9 44 yX9_of, .instanceMethod yX9_of, .selects yX9_of.cls yX9_of yX9_of, .initialized yX9_of.cls] : List Cond), w ∈ TT := TT_by [746, 748, 12, 37] (by decide +kernel) rfl
set_option maxRecDepth 20000 in
theorem cd_X9_wire : Cond.code yX9_wire cX9_wire 2 (some .boolean) ∈ TT := TT_mem 711 (by decide +kernel) rfl
set_option maxRecDepth 20000 in
theorem dd_X9_wire : yX9_wire.cls ≠ "java/lang/invoke/MethodHandle" ∧ yX9_wire.cls ≠ "java/lang/invoke/VarHandle" ∧ (parseMethodDescriptor yX9_wire.desc).map (fun d => d.parameters.length) = some 1 := by decide +kernel
set_option maxRecDepth 20000 in
theorem cd_X9_tag : Cond.code yX9_tag cX9_tag 8 (some .int) ∈ TT := TT_mem 718 (by decide +kernel) rfl
set_option maxRecDepth 20000 in
theorem dd_X9_tag : yX9_tag.cls ≠ "java/lang/invoke/MethodHandle" ∧ yX9_tag.cls ≠ "java/lang/invoke/VarHandle" ∧ (parseMethodDescriptor yX9_tag.desc).map (fun d => d.parameters.length) = some 3 := by decide +kernel
set_option maxRecDepth 20000 in
theorem cf_X9_48 : ∀ w ∈ ([.methodLink RX9 48 yX9_sumOf, .static yX9_sumOf, .initialized yX9_sumOf.cls] : List Cond), w ∈ TT := TT_by [719, 720, 37] (by decide +kernel) rfl
set_option maxRecDepth 20000 in
theorem cf_X9_52 : ∀ w ∈ ([.methodLink RX9 52 yX9_sets, .instanceMethod yX9_sets, .selects yX9_sets.cls yX9_sets yX9_sets, .initialized yX9_sets.cls] : List Cond), w ∈ TT := TT_by [725, 727, 10, 37] (by decide +kernel) rfl
set_option maxRecDepth 20000 in
theorem cd_X9_name : Cond.code yX9_name cX9_name 2 (some .long) ∈ TT := TT_mem 732 (by decide +kernel) rfl
set_option maxRecDepth 20000 in
theorem dd_X9_name : yX9_name.cls ≠ "java/lang/invoke/MethodHandle" ∧ yX9_name.cls ≠ "java/lang/invoke/VarHandle" ∧ (parseMethodDescriptor yX9_name.desc).map (fun d => d.parameters.length) = some 1 := by decide +kernel
set_option maxRecDepth 20000 in
theorem cf_X9_56 : ∀ w ∈ ([.methodLink RX9 56 yX9_isTag, .instanceMethod yX9_isTag, .selects yX9_isTag.cls yX9_isTag yX9_isTag, .initialized yX9_isTag.cls] : List Cond), w ∈ TT := TT_by [733, 735, 11, 37] (by decide +kernel) rfl
set_option maxRecDepth 20000 in
theorem cd_X9_isName : Cond.code yX9_isName cX9_isName 3 (some .boolean) ∈ TT := TT_mem 740 (by decide +kernel) rfl
set_option maxRecDepth 20000 in
theorem dd_X9_isName : yX9_isName.cls ≠ "java/lang/invoke/MethodHandle" ∧ yX9_isName.cls ≠ "java/lang/invoke/VarHandle" ∧ (parseMethodDescriptor yX9_isName.desc).map (fun d => d.parameters.length) = some 1 := by decide +kernel
set_option maxRecDepth 20000 in
theorem ld_X9_60 : Cond.constantLong RX9 60 (255) ∈ TT := TT_mem 741 (by decide +kernel) rfl
set_option maxRecDepth 20000 in
theorem cd_X9_tell : Cond.code yX9_tell cX9_tell 5 (some .int) ∈ TT := TT_mem 745 (by decide +kernel) rfl
set_option maxRecDepth 20000 in
theorem dd_X9_tell : yX9_tell.cls ≠ "java/lang/invoke/MethodHandle" ∧ yX9_tell.cls ≠ "java/lang/invoke/VarHandle" ∧ (parseMethodDescriptor yX9_tell.desc).map (fun d => d.parameters.length) = some 2 := by decide +kernel
set_option maxRecDepth 20000 in
theorem cf_X9_62 : ∀ w ∈ ([.methodLink RX9 62 yX9_listens, .instanceMethod yX9_listens, .selects yX9_listens.cls yX9_listens yX9_listens, .initialized yX9_listens.cls] : List Cond), w ∈ TT := TT_by [750, 752, 13, 37] (by decide +kernel) rfl
set_option maxRecDepth 20000 in
theorem cd_X9_act : Cond.code yX9_act cX9_act 5 (some .boolean) ∈ TT := TT_mem 757 (by decide +kernel) rfl
set_option maxRecDepth 20000 in
theorem dd_X9_act : yX9_act.cls ≠ "java/lang/invoke/MethodHandle" ∧ yX9_act.cls ≠ "java/lang/invoke/VarHandle" ∧ (parseMethodDescriptor yX9_act.desc).map (fun d => d.parameters.length) = some 2 := by decide +kernel
set_option maxRecDepth 20000 in
theorem cd_X9_listening : Cond.code yX9_listening cX9_listening 3 (some .int) ∈ TT := TT_mem 765 (by decide +kernel) rfl
set_option maxRecDepth 20000 in
theorem dd_X9_listening : yX9_listening.cls ≠ "java/lang/invoke/MethodHandle" ∧ yX9_listening.cls ≠ "java/lang/invoke/VarHandle" ∧ (parseMethodDescriptor yX9_listening.desc).map (fun d => d.parameters.length) = some 0 := by decide +kernel
set_option maxRecDepth 20000 in
theorem cd_X9_group : Cond.code yX9_group cX9_group 5 (some .int) ∈ TT := TT_mem 761 (by decide +kernel) rfl
set_option maxRecDepth 20000 in
theorem dd_X9_group : yX9_group.cls ≠ "java/lang/invoke/MethodHandle" ∧ yX9_group.cls ≠ "java/lang/invoke/VarHandle" ∧ (parseMethodDescriptor yX9_group.desc).map (fun d => d.parameters.length) = some 2 := by decide +kernel
set_option maxRecDepth 20000 in
theorem cf_X9_65 : ∀ w ∈ ([.methodLink RX9 65 yX9_listening, .instanceMethod yX9_listening, .selects yX9_listening.cls yX9_listening yX9_listening, .initialized yX9_listening.cls] : List Cond), w ∈ TT := TT_by [762, 764, 14, 37] (by decide +kernel) rfl
set_option maxRecDepth 20000 in
theorem cd_X9_finds : Cond.code yX9_finds cX9_finds 2 none ∈ TT := TT_mem 789 (by decide +kernel) rfl
set_option maxRecDepth 20000 in
theorem dd_X9_finds : yX9_finds.cls ≠ "java/lang/invoke/MethodHandle" ∧ yX9_finds.cls ≠ "java/lang/invoke/VarHandle" ∧ (parseMethodDescriptor yX9_finds.desc).map (fun d => d.parameters.length) = some 1 := by decide +kernel
set_option maxRecDepth 20000 in
theorem cd_X9_allIn : Cond.code yX9_allIn cX9_allIn 2 none ∈ TT := TT_mem 773 (by decide +kernel) rfl
set_option maxRecDepth 20000 in
theorem dd_X9_allIn : yX9_allIn.cls ≠ "java/lang/invoke/MethodHandle" ∧ yX9_allIn.cls ≠ "java/lang/invoke/VarHandle" ∧ (parseMethodDescriptor yX9_allIn.desc).map (fun d => d.parameters.length) = some 0 := by decide +kernel
set_option maxRecDepth 20000 in
theorem cd_X9_tellers : Cond.code yX9_tellers cX9_tellers 5 (some .int) ∈ TT := TT_mem 781 (by decide +kernel) rfl
set_option maxRecDepth 20000 in
theorem dd_X9_tellers : yX9_tellers.cls ≠ "java/lang/invoke/MethodHandle" ∧ yX9_tellers.cls ≠ "java/lang/invoke/VarHandle" ∧ (parseMethodDescriptor yX9_tellers.desc).map (fun d => d.parameters.length) = some 2 := by decide +kernel
set_option maxRecDepth 20000 in
theorem cd_X9_goesOn : Cond.code yX9_goesOn cX9_goesOn 4 none ∈ TT := TT_mem 785 (by decide +kernel) rfl
set_option maxRecDepth 20000 in
theorem dd_X9_goesOn : yX9_goesOn.cls ≠ "java/lang/invoke/MethodHandle" ∧ yX9_goesOn.cls ≠ "java/lang/invoke/VarHandle" ∧ (parseMethodDescriptor yX9_goesOn.desc).map (fun d => d.parameters.length) = some 2 := by decide +kernel
set_option maxRecDepth 20000 in
theorem cd_X9_oneIn : Cond.code yX9_oneIn cX9_oneIn 3 (some .int) ∈ TT := TT_mem 777 (by decide +kernel) rfl
set_option maxRecDepth 20000 in
theorem dd_X9_oneIn : yX9_oneIn.cls ≠ "java/lang/invoke/MethodHandle" ∧ yX9_oneIn.cls ≠ "java/lang/invoke/VarHandle" ∧ (parseMethodDescriptor yX9_oneIn.desc).map (fun d => d.parameters.length) = some 0 := by decide +kernel
set_option maxRecDepth 20000 in
theorem cd_X9_pass : Cond.code yX9_pass cX9_pass 5 (some .int) ∈ TT := TT_mem 769 (by decide +kernel) rfl
set_option maxRecDepth 20000 in
theorem dd_X9_pass : yX9_pass.cls ≠ "java/lang/invoke/MethodHandle" ∧ yX9_pass.cls ≠ "java/lang/invoke/VarHandle" ∧ (parseMethodDescriptor yX9_pass.desc).map (fun d => d.parameters.length) = some 0 := by decide +kernel
set_option maxRecDepth 20000 in
theorem cf_X9_69 : ∀ w ∈ ([.methodLink RX9 69 yX9_allIn, .instanceMethod yX9_allIn, .selects yX9_allIn.cls yX9_allIn yX9_allIn, .initialized yX9_allIn.cls] : List Cond), w ∈ TT := TT_by [770, 772, 15, 37] (by decide +kernel) rfl
set_option maxRecDepth 20000 in
theorem cf_X9_72 : ∀ w ∈ ([.methodLink RX9 72 yX9_oneIn, .instanceMethod yX9_oneIn, .selects yX9_oneIn.cls yX9_oneIn yX9_oneIn, .initialized yX9_oneIn.cls] : List Cond), w ∈ TT := TT_by [774, 776, 16, 37] (by decide +kernel) rfl
set_option maxRecDepth 20000 in
theorem cf_X9_75 : ∀ w ∈ ([.methodLink RX9 75 yX9_tellers, .instanceMethod yX9_tellers, .selects yX9_tellers.cls yX9_tellers yX9_tellers, .initialized yX9_tellers.cls] : List Cond), w ∈ TT := TT_by [778, 780, 17, 37] (by decide +kernel) rfl
set_option maxRecDepth 20000 in
theorem cf_X9_78 : ∀ w ∈ ([.methodLink RX9 78 yX9_goesOn, .instanceMethod yX9_goesOn, .selects yX9_goesOn.cls yX9_goesOn yX9_goesOn, .initialized yX9_goesOn.cls] : List Cond), w ∈ TT := TT_by [782, 784, 18, 37] (by decide +kernel) rfl
set_option maxRecDepth 20000 in
theorem cf_X9_82 : ∀ w ∈ ([.methodLink RX9 82 yX9_finds, .instanceMethod yX9_finds, .selects yX9_finds.cls yX9_finds yX9_finds, .initialized yX9_finds.cls] : List Cond), w ∈ TT := TT_by [786, 788, 19, 37] (by decide +kernel) rfl
set_option maxRecDepth 20000 in
theorem cd_X9_fork : Cond.code yX9_fork cX9_fork 2 (some .int) ∈ TT := TT_mem 793 (by decide +kernel) rfl
set_option maxRecDepth 20000 in
theorem dd_X9_fork : yX9_fork.cls ≠ "java/lang/invoke/MethodHandle" ∧ yX9_fork.cls ≠ "java/lang/invoke/VarHandle" ∧ (parseMethodDescriptor yX9_fork.desc).map (fun d => d.parameters.length) = some 1 := by decide +kernel
set_option maxRecDepth 20000 in
theorem cd_X9_verify : Cond.code yX9_verify cX9_verify 4 (some .boolean) ∈ TT := TT_mem 797 (by decide +kernel) rfl
set_option maxRecDepth 20000 in
theorem dd_X9_verify : yX9_verify.cls ≠ "java/lang/invoke/MethodHandle" ∧ yX9_verify.cls ≠ "java/lang/invoke/VarHandle" ∧ (parseMethodDescriptor yX9_verify.desc).map (fun d => d.parameters.length) = some 1 := by decide +kernel
set_option maxRecDepth 20000 in
theorem cd_X9_slot : Cond.code yX9_slot cX9_slot 5 (some .int) ∈ TT := TT_mem 816 (by decide +kernel) rfl
set_option maxRecDepth 20000 in
theorem dd_X9_slot : yX9_slot.cls ≠ "java/lang/invoke/MethodHandle" ∧ yX9_slot.cls ≠ "java/lang/invoke/VarHandle" ∧ (parseMethodDescriptor yX9_slot.desc).map (fun d => d.parameters.length) = some 0 := by decide +kernel
set_option maxRecDepth 20000 in
theorem fl_X9_86 : Cond.fieldLink RX9 86 (TX9 5).1 (TX9 5).2.1 (TX9 5).2.2.1 ∈ TT := TT_mem 684 (by decide +kernel) rfl
set_option maxRecDepth 20000 in
theorem cd_X9_counted : Cond.code yX9_counted cX9_counted 2 (some .int) ∈ TT := TT_mem 812 (by decide +kernel) rfl
set_option maxRecDepth 20000 in
theorem dd_X9_counted : yX9_counted.cls ≠ "java/lang/invoke/MethodHandle" ∧ yX9_counted.cls ≠ "java/lang/invoke/VarHandle" ∧ (parseMethodDescriptor yX9_counted.desc).map (fun d => d.parameters.length) = some 0 := by decide +kernel
set_option maxRecDepth 20000 in
theorem cf_X9_90 : ∀ w ∈ ([.methodLink RX9 90 yX9_slot, .instanceMethod yX9_slot, .selects yX9_slot.cls yX9_slot yX9_slot, .initialized yX9_slot.cls] : List Cond), w ∈ TT := TT_by [813, 815, 22, 37] (by decide +kernel) rfl
set_option maxRecDepth 20000 in
theorem cd_X9_begins : Cond.code yX9_begins cX9_begins 5 (some .boolean) ∈ TT := TT_mem 808 (by decide +kernel) rfl
set_option maxRecDepth 20000 in
theorem dd_X9_begins : yX9_begins.cls ≠ "java/lang/invoke/MethodHandle" ∧ yX9_begins.cls ≠ "java/lang/invoke/VarHandle" ∧ (parseMethodDescriptor yX9_begins.desc).map (fun d => d.parameters.length) = some 3 := by decide +kernel
set_option maxRecDepth 20000 in
theorem cd_X9_called : Cond.code yX9_called cX9_called 5 none ∈ TT := TT_mem 805 (by decide +kernel) rfl
set_option maxRecDepth 20000 in
theorem dd_X9_called : yX9_called.cls ≠ "java/lang/invoke/MethodHandle" ∧ yX9_called.cls ≠ "java/lang/invoke/VarHandle" ∧ (parseMethodDescriptor yX9_called.desc).map (fun d => d.parameters.length) = some 2 := by decide +kernel
set_option maxRecDepth 20000 in
theorem cf_X9_93 : ∀ w ∈ ([.methodLink RX9 93 yX9_begins, .static yX9_begins, .initialized yX9_begins.cls] : List Cond), w ∈ TT := TT_by [806, 807, 37] (by decide +kernel) rfl
set_option maxRecDepth 20000 in
theorem cd_X9_ask : Cond.code yX9_ask cX9_ask 5 (some .int) ∈ TT := TT_mem 801 (by decide +kernel) rfl
set_option maxRecDepth 20000 in
theorem dd_X9_ask : yX9_ask.cls ≠ "java/lang/invoke/MethodHandle" ∧ yX9_ask.cls ≠ "java/lang/invoke/VarHandle" ∧ (parseMethodDescriptor yX9_ask.desc).map (fun d => d.parameters.length) = some 2 := by decide +kernel
set_option maxRecDepth 20000 in
theorem cf_X9_97 : ∀ w ∈ ([.methodLink RX9 97 yX9_called, .instanceMethod yX9_called, .selects yX9_called.cls yX9_called yX9_called, .initialized yX9_called.cls] : List Cond), w ∈ TT := TT_by [802, 804, 20, 37] (by decide +kernel) rfl
set_option maxRecDepth 20000 in
theorem cf_X9_101 : ∀ w ∈ ([.methodLink RX9 101 yX9_counted, .instanceMethod yX9_counted, .selects yX9_counted.cls yX9_counted yX9_counted, .initialized yX9_counted.cls] : List Cond), w ∈ TT := TT_by [809, 811, 21, 37] (by decide +kernel) rfl
set_option maxRecDepth 20000 in
theorem cd_X9_alone : Cond.code yX9_alone cX9_alone 1 (some .int) ∈ TT := TT_mem 820 (by decide +kernel) rfl
set_option maxRecDepth 20000 in
theorem dd_X9_alone : yX9_alone.cls ≠ "java/lang/invoke/MethodHandle" ∧ yX9_alone.cls ≠ "java/lang/invoke/VarHandle" ∧ (parseMethodDescriptor yX9_alone.desc).map (fun d => d.parameters.length) = some 0 := by decide +kernel
set_option maxRecDepth 20000 in
theorem cd_X9_piles : Cond.code yX9_piles cX9_piles 4 none ∈ TT := TT_mem 828 (by decide +kernel) rfl
set_option maxRecDepth 20000 in
theorem dd_X9_piles : yX9_piles.cls ≠ "java/lang/invoke/MethodHandle" ∧ yX9_piles.cls ≠ "java/lang/invoke/VarHandle" ∧ (parseMethodDescriptor yX9_piles.desc).map (fun d => d.parameters.length) = some 2 := by decide +kernel
set_option maxRecDepth 20000 in
theorem cd_X9_descend : Cond.code yX9_descend cX9_descend 1 none ∈ TT := TT_mem 824 (by decide +kernel) rfl
set_option maxRecDepth 20000 in
theorem dd_X9_descend : yX9_descend.cls ≠ "java/lang/invoke/MethodHandle" ∧ yX9_descend.cls ≠ "java/lang/invoke/VarHandle" ∧ (parseMethodDescriptor yX9_descend.desc).map (fun d => d.parameters.length) = some 0 := by decide +kernel
set_option maxRecDepth 20000 in
theorem cf_X9_104 : ∀ w ∈ ([.methodLink RX9 104 yX9_piles, .instanceMethod yX9_piles, .selects yX9_piles.cls yX9_piles yX9_piles, .initialized yX9_piles.cls] : List Cond), w ∈ TT := TT_by [825, 827, 23, 37] (by decide +kernel) rfl
set_option maxRecDepth 20000 in
theorem cd_X9_step : Cond.code yX9_step cX9_step 5 (some .int) ∈ TT := TT_mem 832 (by decide +kernel) rfl
set_option maxRecDepth 20000 in
theorem dd_X9_step : yX9_step.cls ≠ "java/lang/invoke/MethodHandle" ∧ yX9_step.cls ≠ "java/lang/invoke/VarHandle" ∧ (parseMethodDescriptor yX9_step.desc).map (fun d => d.parameters.length) = some 0 := by decide +kernel
set_option maxRecDepth 20000 in
theorem cd_X9_nodes : Cond.code yX9_nodes cX9_nodes 6 (some .int) ∈ TT := TT_mem 836 (by decide +kernel) rfl
set_option maxRecDepth 20000 in
theorem dd_X9_nodes : yX9_nodes.cls ≠ "java/lang/invoke/MethodHandle" ∧ yX9_nodes.cls ≠ "java/lang/invoke/VarHandle" ∧ (parseMethodDescriptor yX9_nodes.desc).map (fun d => d.parameters.length) = some 0 := by decide +kernel
set_option maxRecDepth 20000 in
theorem cd_X9_splits : Cond.code yX9_splits cX9_splits 2 (some .boolean) ∈ TT := TT_mem 844 (by decide +kernel) rfl
set_option maxRecDepth 20000 in
theorem dd_X9_splits : yX9_splits.cls ≠ "java/lang/invoke/MethodHandle" ∧ yX9_splits.cls ≠ "java/lang/invoke/VarHandle" ∧ (parseMethodDescriptor yX9_splits.desc).map (fun d => d.parameters.length) = some 1 := by decide +kernel
set_option maxRecDepth 20000 in
theorem cd_X9_begin : Cond.code yX9_begin cX9_begin 3 (some .int) ∈ TT := TT_mem 840 (by decide +kernel) rfl
set_option maxRecDepth 20000 in
theorem dd_X9_begin : yX9_begin.cls ≠ "java/lang/invoke/MethodHandle" ∧ yX9_begin.cls ≠ "java/lang/invoke/VarHandle" ∧ (parseMethodDescriptor yX9_begin.desc).map (fun d => d.parameters.length) = some 0 := by decide +kernel
set_option maxRecDepth 20000 in
theorem cf_X9_107 : ∀ w ∈ ([.methodLink RX9 107 yX9_splits, .instanceMethod yX9_splits, .selects yX9_splits.cls yX9_splits yX9_splits, .initialized yX9_splits.cls] : List Cond), w ∈ TT := TT_by [841, 843, 24, 37] (by decide +kernel) rfl
set_option maxRecDepth 20000 in
theorem cd_X9_draw : Cond.code yX9_draw cX9_draw 4 (some .int) ∈ TT := TT_mem 852 (by decide +kernel) rfl
set_option maxRecDepth 20000 in
theorem dd_X9_draw : yX9_draw.cls ≠ "java/lang/invoke/MethodHandle" ∧ yX9_draw.cls ≠ "java/lang/invoke/VarHandle" ∧ (parseMethodDescriptor yX9_draw.desc).map (fun d => d.parameters.length) = some 2 := by decide +kernel
set_option maxRecDepth 20000 in
theorem ld_X9_110 : Cond.constant RX9 110 (1103515245) ∈ TT := TT_mem 853 (by decide +kernel) rfl
set_option maxRecDepth 20000 in
theorem cd_X9_sleeps : Cond.code yX9_sleeps cX9_sleeps 2 none ∈ TT := TT_mem 857 (by decide +kernel) rfl
set_option maxRecDepth 20000 in
theorem dd_X9_sleeps : yX9_sleeps.cls ≠ "java/lang/invoke/MethodHandle" ∧ yX9_sleeps.cls ≠ "java/lang/invoke/VarHandle" ∧ (parseMethodDescriptor yX9_sleeps.desc).map (fun d => d.parameters.length) = some 1 := by decide +kernel
set_option maxRecDepth 20000 in
theorem cd_X9_split : Cond.code yX9_split cX9_split 4 (some .int) ∈ TT := TT_mem 848 (by decide +kernel) rfl
set_option maxRecDepth 20000 in
theorem dd_X9_split : yX9_split.cls ≠ "java/lang/invoke/MethodHandle" ∧ yX9_split.cls ≠ "java/lang/invoke/VarHandle" ∧ (parseMethodDescriptor yX9_split.desc).map (fun d => d.parameters.length) = some 0 := by decide +kernel
set_option maxRecDepth 20000 in
theorem cf_X9_111 : ∀ w ∈ ([.methodLink RX9 111 yX9_draw, .instanceMethod yX9_draw, .selects yX9_draw.cls yX9_draw yX9_draw, .initialized yX9_draw.cls] : List Cond), w ∈ TT := TT_by [849, 851, 25, 37] (by decide +kernel) rfl
set_option maxRecDepth 20000 in
theorem cf_X9_114 : ∀ w ∈ ([.methodLink RX9 114 yX9_sleeps, .instanceMethod yX9_sleeps, .selects yX9_sleeps.cls yX9_sleeps yX9_sleeps, .initialized yX9_sleeps.cls] : List Cond), w ∈ TT := TT_by [854, 856, 26, 37] (by decide +kernel) rfl
set_option maxRecDepth 20000 in
theorem cd_X9_frames : Cond.code yX9_frames cX9_frames 2 none ∈ TT := TT_mem 861 (by decide +kernel) rfl
set_option maxRecDepth 20000 in
theorem dd_X9_frames : yX9_frames.cls ≠ "java/lang/invoke/MethodHandle" ∧ yX9_frames.cls ≠ "java/lang/invoke/VarHandle" ∧ (parseMethodDescriptor yX9_frames.desc).map (fun d => d.parameters.length) = some 0 := by decide +kernel
set_option maxRecDepth 20000 in
theorem cd_X9_frame : Cond.code yX9_frame cX9_frame 5 (some .int) ∈ TT := TT_mem 865 (by decide +kernel) rfl
set_option maxRecDepth 20000 in
theorem dd_X9_frame : yX9_frame.cls ≠ "java/lang/invoke/MethodHandle" ∧ yX9_frame.cls ≠ "java/lang/invoke/VarHandle" ∧ (parseMethodDescriptor yX9_frame.desc).map (fun d => d.parameters.length) = some 1 := by decide +kernel
set_option maxRecDepth 20000 in
theorem cd_X9_heard : Cond.code yX9_heard cX9_heard 2 (some .int) ∈ TT := TT_mem 869 (by decide +kernel) rfl
set_option maxRecDepth 20000 in
theorem dd_X9_heard : yX9_heard.cls ≠ "java/lang/invoke/MethodHandle" ∧ yX9_heard.cls ≠ "java/lang/invoke/VarHandle" ∧ (parseMethodDescriptor yX9_heard.desc).map (fun d => d.parameters.length) = some 1 := by decide +kernel
set_option maxRecDepth 20000 in
theorem cd_X9_found : Cond.code yX9_found cX9_found 2 (some .int) ∈ TT := TT_mem 873 (by decide +kernel) rfl
set_option maxRecDepth 20000 in
theorem dd_X9_found : yX9_found.cls ≠ "java/lang/invoke/MethodHandle" ∧ yX9_found.cls ≠ "java/lang/invoke/VarHandle" ∧ (parseMethodDescriptor yX9_found.desc).map (fun d => d.parameters.length) = some 1 := by decide +kernel
set_option maxRecDepth 20000 in
theorem cd_X9_cost : Cond.code yX9_cost cX9_cost 2 (some .int) ∈ TT := TT_mem 877 (by decide +kernel) rfl
set_option maxRecDepth 20000 in
theorem dd_X9_cost : yX9_cost.cls ≠ "java/lang/invoke/MethodHandle" ∧ yX9_cost.cls ≠ "java/lang/invoke/VarHandle" ∧ (parseMethodDescriptor yX9_cost.desc).map (fun d => d.parameters.length) = some 1 := by decide +kernel
set_option maxRecDepth 20000 in
theorem cd_X9_count : Cond.code yX9_count cX9_count 2 (some .int) ∈ TT := TT_mem 881 (by decide +kernel) rfl
set_option maxRecDepth 20000 in
theorem dd_X9_count : yX9_count.cls ≠ "java/lang/invoke/MethodHandle" ∧ yX9_count.cls ≠ "java/lang/invoke/VarHandle" ∧ (parseMethodDescriptor yX9_count.desc).map (fun d => d.parameters.length) = some 1 := by decide +kernel
set_option maxRecDepth 20000 in
theorem cd_X9_image : Cond.code yX9_image cX9_image 3 (some .boolean) ∈ TT := TT_mem 885 (by decide +kernel) rfl
set_option maxRecDepth 20000 in
theorem dd_X9_image : yX9_image.cls ≠ "java/lang/invoke/MethodHandle" ∧ yX9_image.cls ≠ "java/lang/invoke/VarHandle" ∧ (parseMethodDescriptor yX9_image.desc).map (fun d => d.parameters.length) = some 1 := by decide +kernel
set_option maxRecDepth 20000 in
theorem cd_X9_again : Cond.code yX9_again cX9_again 3 (some .boolean) ∈ TT := TT_mem 889 (by decide +kernel) rfl
set_option maxRecDepth 20000 in
theorem dd_X9_again : yX9_again.cls ≠ "java/lang/invoke/MethodHandle" ∧ yX9_again.cls ≠ "java/lang/invoke/VarHandle" ∧ (parseMethodDescriptor yX9_again.desc).map (fun d => d.parameters.length) = some 1 := by decide +kernel
set_option maxRecDepth 20000 in
theorem cd_X0_init : Cond.code yX0_init cX0_init 1 none ∈ TT := TT_mem 144 (by decide +kernel) rfl
set_option maxRecDepth 20000 in
theorem dd_X0_init : yX0_init.cls ≠ "java/lang/invoke/MethodHandle" ∧ yX0_init.cls ≠ "java/lang/invoke/VarHandle" ∧ (parseMethodDescriptor yX0_init.desc).map (fun d => d.parameters.length) = some 0 := by decide +kernel
set_option maxRecDepth 20000 in
theorem cf_X0_3 : ∀ w ∈ ([.methodLink RX0 3 objectInit, .instanceMethod objectInit, .code objectInit ⟨#[0xb1]⟩ 1 none] : List Cond), w ∈ TT := TT_by [145, 48, 49] (by decide +kernel) rfl
set_option maxRecDepth 20000 in
theorem fl_X0_9 : Cond.fieldLink RX0 9 (TX0 0).1 (TX0 0).2.1 (TX0 0).2.2.1 ∈ TT := TT_mem 146 (by decide +kernel) rfl
set_option maxRecDepth 20000 in
theorem fl_X0_15 : Cond.fieldLink RX0 15 (TX0 2).1 (TX0 2).2.1 (TX0 2).2.2.1 ∈ TT := TT_mem 148 (by decide +kernel) rfl
set_option maxRecDepth 20000 in
theorem cd_X0_start : Cond.code yX0_start cX0_start 3 none ∈ TT := TT_mem 522 (by decide +kernel) rfl
set_option maxRecDepth 20000 in
theorem dd_X0_start : yX0_start.cls ≠ "java/lang/invoke/MethodHandle" ∧ yX0_start.cls ≠ "java/lang/invoke/VarHandle" ∧ (parseMethodDescriptor yX0_start.desc).map (fun d => d.parameters.length) = some 1 := by decide +kernel
set_option maxRecDepth 20000 in
theorem cf_X0_19 : ∀ w ∈ ([.methodLink RX0 19 yJ7_fill_53178, .static yJ7_fill_53178, .initialized yJ7_fill_53178.cls] : List Cond), w ∈ TT := TT_by [523, 524, 40] (by decide +kernel) rfl
set_option maxRecDepth 20000 in
theorem fl_X0_25 : Cond.fieldLink RX0 25 (TX0 1).1 (TX0 1).2.1 (TX0 1).2.2.1 ∈ TT := TT_mem 147 (by decide +kernel) rfl
set_option maxRecDepth 20000 in
theorem cd_X0_isUnderWay : Cond.code yX0_isUnderWay cX0_isUnderWay 1 (some .boolean) ∈ TT := TT_mem 533 (by decide +kernel) rfl
set_option maxRecDepth 20000 in
theorem dd_X0_isUnderWay : yX0_isUnderWay.cls ≠ "java/lang/invoke/MethodHandle" ∧ yX0_isUnderWay.cls ≠ "java/lang/invoke/VarHandle" ∧ (parseMethodDescriptor yX0_isUnderWay.desc).map (fun d => d.parameters.length) = some 0 := by decide +kernel
set_option maxRecDepth 20000 in
theorem cd_X0_of : Cond.code yX0_of cX0_of 2 (some .int) ∈ TT := TT_mem 346 (by decide +kernel) rfl
set_option maxRecDepth 20000 in
theorem dd_X0_of : yX0_of.cls ≠ "java/lang/invoke/MethodHandle" ∧ yX0_of.cls ≠ "java/lang/invoke/VarHandle" ∧ (parseMethodDescriptor yX0_of.desc).map (fun d => d.parameters.length) = some 1 := by decide +kernel
set_option maxRecDepth 20000 in
theorem cf_X0_29 : ∀ w ∈ ([.static yX8_isIn, .initialized yX8_isIn.cls] : List Cond), w ∈ TT := TT_by [333, 28] (by decide +kernel) rfl
set_option maxRecDepth 20000 in
theorem cd_X0_put : Cond.code yX0_put cX0_put 3 none ∈ TT := TT_mem 559 (by decide +kernel) rfl
set_option maxRecDepth 20000 in
theorem dd_X0_put : yX0_put.cls ≠ "java/lang/invoke/MethodHandle" ∧ yX0_put.cls ≠ "java/lang/invoke/VarHandle" ∧ (parseMethodDescriptor yX0_put.desc).map (fun d => d.parameters.length) = some 2 := by decide +kernel
set_option maxRecDepth 20000 in
theorem cd_X0_release : Cond.code yX0_release cX0_release 2 none ∈ TT := TT_mem 563 (by decide +kernel) rfl
set_option maxRecDepth 20000 in
theorem dd_X0_release : yX0_release.cls ≠ "java/lang/invoke/MethodHandle" ∧ yX0_release.cls ≠ "java/lang/invoke/VarHandle" ∧ (parseMethodDescriptor yX0_release.desc).map (fun d => d.parameters.length) = some 1 := by decide +kernel
set_option maxRecDepth 20000 in
theorem cf_X0_33 : ∀ w ∈ ([.static yX8_setOf, .initialized yX8_setOf.cls] : List Cond), w ∈ TT := TT_by [304, 28] (by decide +kernel) rfl
set_option maxRecDepth 20000 in
theorem ld_X0_37 : Cond.constantLong RX0 37 (-1) ∈ TT := TT_mem 564 (by decide +kernel) rfl
set_option maxRecDepth 20000 in
theorem cd_X0_atZero : Cond.code yX0_atZero cX0_atZero 6 (some .long) ∈ TT := TT_mem 537 (by decide +kernel) rfl
set_option maxRecDepth 20000 in
theorem dd_X0_atZero : yX0_atZero.cls ≠ "java/lang/invoke/MethodHandle" ∧ yX0_atZero.cls ≠ "java/lang/invoke/VarHandle" ∧ (parseMethodDescriptor yX0_atZero.desc).map (fun d => d.parameters.length) = some 1 := by decide +kernel
set_option maxRecDepth 20000 in
theorem cd_X0_shift : Cond.code yX0_shift cX0_shift 5 none ∈ TT := TT_mem 542 (by decide +kernel) rfl
set_option maxRecDepth 20000 in
theorem dd_X0_shift : yX0_shift.cls ≠ "java/lang/invoke/MethodHandle" ∧ yX0_shift.cls ≠ "java/lang/invoke/VarHandle" ∧ (parseMethodDescriptor yX0_shift.desc).map (fun d => d.parameters.length) = some 2 := by decide +kernel
set_option maxRecDepth 20000 in
theorem cf_X0_39 : ∀ w ∈ ([.methodLink RX0 39 Lib.Math.max.name, .static Lib.Math.max.name, .initialized "java/lang/Math", .code Lib.Math.max.name Lib.Math.max.code 2 (some .int)] : List Cond), w ∈ TT := TT_by [543, 544, 41, 545] (by decide +kernel) rfl
set_option maxRecDepth 20000 in
theorem cd_X0_copyFrom : Cond.code yX0_copyFrom cX0_copyFrom 2 none ∈ TT := TT_mem 658 (by decide +kernel) rfl
set_option maxRecDepth 20000 in
theorem dd_X0_copyFrom : yX0_copyFrom.cls ≠ "java/lang/invoke/MethodHandle" ∧ yX0_copyFrom.cls ≠ "java/lang/invoke/VarHandle" ∧ (parseMethodDescriptor yX0_copyFrom.desc).map (fun d => d.parameters.length) = some 1 := by decide +kernel
set_option maxRecDepth 20000 in
theorem cf_X0_45 : ∀ w ∈ ([.methodLink RX0 45 arraycopyName, .native arraycopyName, .static arraycopyName, .initialized "java/lang/System"] : List Cond), w ∈ TT := TT_by [659, 506, 505, 39] (by decide +kernel) rfl
set_option maxRecDepth 20000 in
theorem cd_X1_init : Cond.code yX1_init cX1_init 1 none ∈ TT := TT_mem 252 (by decide +kernel) rfl
set_option maxRecDepth 20000 in
theorem dd_X1_init : yX1_init.cls ≠ "java/lang/invoke/MethodHandle" ∧ yX1_init.cls ≠ "java/lang/invoke/VarHandle" ∧ (parseMethodDescriptor yX1_init.desc).map (fun d => d.parameters.length) = some 0 := by decide +kernel
set_option maxRecDepth 20000 in
theorem cf_X1_3 : ∀ w ∈ ([.methodLink RX1 3 objectInit, .instanceMethod objectInit, .code objectInit ⟨#[0xb1]⟩ 1 none] : List Cond), w ∈ TT := TT_by [253, 48, 49] (by decide +kernel) rfl
set_option maxRecDepth 20000 in
theorem fl_X1_9 : Cond.fieldLink RX1 9 (TX1 0).1 (TX1 0).2.1 (TX1 0).2.2.1 ∈ TT := TT_mem 254 (by decide +kernel) rfl
set_option maxRecDepth 20000 in
theorem fl_X1_15 : Cond.fieldLink RX1 15 (TX1 1).1 (TX1 1).2.1 (TX1 1).2.2.1 ∈ TT := TT_mem 255 (by decide +kernel) rfl
set_option maxRecDepth 20000 in
theorem cd_X1_admit : Cond.code yX1_admit cX1_admit 3 none ∈ TT := TT_mem 499 (by decide +kernel) rfl
set_option maxRecDepth 20000 in
theorem dd_X1_admit : yX1_admit.cls ≠ "java/lang/invoke/MethodHandle" ∧ yX1_admit.cls ≠ "java/lang/invoke/VarHandle" ∧ (parseMethodDescriptor yX1_admit.desc).map (fun d => d.parameters.length) = some 1 := by decide +kernel
set_option maxRecDepth 20000 in
theorem fl_X1_18 : Cond.fieldLink RX1 18 (TX1 2).1 (TX1 2).2.1 (TX1 2).2.2.1 ∈ TT := TT_mem 256 (by decide +kernel) rfl
set_option maxRecDepth 20000 in
theorem cd_X1_at : Cond.code yX1_at cX1_at 2 (some .long) ∈ TT := TT_mem 510 (by decide +kernel) rfl
set_option maxRecDepth 20000 in
theorem dd_X1_at : yX1_at.cls ≠ "java/lang/invoke/MethodHandle" ∧ yX1_at.cls ≠ "java/lang/invoke/VarHandle" ∧ (parseMethodDescriptor yX1_at.desc).map (fun d => d.parameters.length) = some 1 := by decide +kernel
set_option maxRecDepth 20000 in
theorem fl_X1_22 : Cond.fieldLink RX1 22 (TX1 3).1 (TX1 3).2.1 (TX1 3).2.2.1 ∈ TT := TT_mem 257 (by decide +kernel) rfl
set_option maxRecDepth 20000 in
theorem cd_X1_turn : Cond.code yX1_turn cX1_turn 1 none ∈ TT := TT_mem 503 (by decide +kernel) rfl
set_option maxRecDepth 20000 in
theorem dd_X1_turn : yX1_turn.cls ≠ "java/lang/invoke/MethodHandle" ∧ yX1_turn.cls ≠ "java/lang/invoke/VarHandle" ∧ (parseMethodDescriptor yX1_turn.desc).map (fun d => d.parameters.length) = some 0 := by decide +kernel
set_option maxRecDepth 20000 in
theorem cf_X1_25 : ∀ w ∈ ([.methodLink RX1 25 arraycopyName, .native arraycopyName, .static arraycopyName, .initialized "java/lang/System"] : List Cond), w ∈ TT := TT_by [504, 506, 505, 39] (by decide +kernel) rfl
set_option maxRecDepth 20000 in
theorem cd_X2_init : Cond.code yX2_init cX2_init 1 none ∈ TT := TT_mem 161 (by decide +kernel) rfl
set_option maxRecDepth 20000 in
theorem dd_X2_init : yX2_init.cls ≠ "java/lang/invoke/MethodHandle" ∧ yX2_init.cls ≠ "java/lang/invoke/VarHandle" ∧ (parseMethodDescriptor yX2_init.desc).map (fun d => d.parameters.length) = some 0 := by decide +kernel
set_option maxRecDepth 20000 in
theorem cf_X2_3 : ∀ w ∈ ([.methodLink RX2 3 objectInit, .instanceMethod objectInit, .code objectInit ⟨#[0xb1]⟩ 1 none] : List Cond), w ∈ TT := TT_by [162, 48, 49] (by decide +kernel) rfl
set_option maxRecDepth 20000 in
theorem cd_X2_startOne : Cond.code yX2_startOne cX2_startOne 1 none ∈ TT := TT_mem 595 (by decide +kernel) rfl
set_option maxRecDepth 20000 in
theorem dd_X2_startOne : yX2_startOne.cls ≠ "java/lang/invoke/MethodHandle" ∧ yX2_startOne.cls ≠ "java/lang/invoke/VarHandle" ∧ (parseMethodDescriptor yX2_startOne.desc).map (fun d => d.parameters.length) = some 0 := by decide +kernel
set_option maxRecDepth 20000 in
theorem fl_X2_9 : Cond.fieldLink RX2 9 (TX2 1).1 (TX2 1).2.1 (TX2 1).2.2.1 ∈ TT := TT_mem 165 (by decide +kernel) rfl
set_option maxRecDepth 20000 in
theorem fl_X2_15 : Cond.fieldLink RX2 15 (TX2 2).1 (TX2 2).2.1 (TX2 2).2.2.1 ∈ TT := TT_mem 167 (by decide +kernel) rfl
set_option maxRecDepth 20000 in
theorem fl_X2_18 : Cond.fieldLink RX2 18 (TX2 3).1 (TX2 3).2.1 (TX2 3).2.2.1 ∈ TT := TT_mem 169 (by decide +kernel) rfl
set_option maxRecDepth 20000 in
theorem cd_X2_note : Cond.code yX2_note cX2_note 2 none ∈ TT := TT_mem 599 (by decide +kernel) rfl
set_option maxRecDepth 20000 in
theorem dd_X2_note : yX2_note.cls ≠ "java/lang/invoke/MethodHandle" ∧ yX2_note.cls ≠ "java/lang/invoke/VarHandle" ∧ (parseMethodDescriptor yX2_note.desc).map (fun d => d.parameters.length) = some 1 := by decide +kernel
set_option maxRecDepth 20000 in
theorem cd_X2_guessNext : Cond.code yX2_guessNext cX2_guessNext 2 none ∈ TT := TT_mem 603 (by decide +kernel) rfl
set_option maxRecDepth 20000 in
theorem dd_X2_guessNext : yX2_guessNext.cls ≠ "java/lang/invoke/MethodHandle" ∧ yX2_guessNext.cls ≠ "java/lang/invoke/VarHandle" ∧ (parseMethodDescriptor yX2_guessNext.desc).map (fun d => d.parameters.length) = some 0 := by decide +kernel
set_option maxRecDepth 20000 in
theorem ld_X2_21 : Cond.constantFloat RX2 21 (1075377603) ∈ TT := TT_mem 604 (by decide +kernel) rfl
set_option maxRecDepth 20000 in
theorem cf_X2_22 : ∀ w ∈ ([.methodLink RX2 22 Lib.Math.min.name, .static Lib.Math.min.name, .initialized "java/lang/Math", .code Lib.Math.min.name Lib.Math.min.code 2 (some .int)] : List Cond), w ∈ TT := TT_by [605, 606, 41, 607] (by decide +kernel) rfl
set_option maxRecDepth 20000 in
theorem cf_X2_28 : ∀ w ∈ ([.methodLink RX2 28 Lib.Math.max.name, .static Lib.Math.max.name, .initialized "java/lang/Math", .code Lib.Math.max.name Lib.Math.max.code 2 (some .int)] : List Cond), w ∈ TT := TT_by [608, 544, 41, 545] (by decide +kernel) rfl
set_option maxRecDepth 20000 in
theorem fl_X2_31 : Cond.fieldLink RX2 31 (TX2 4).1 (TX2 4).2.1 (TX2 4).2.2.1 ∈ TT := TT_mem 171 (by decide +kernel) rfl
set_option maxRecDepth 20000 in
theorem cd_X2_copyFrom : Cond.code yX2_copyFrom cX2_copyFrom 2 none ∈ TT := TT_mem 663 (by decide +kernel) rfl
set_option maxRecDepth 20000 in
theorem dd_X2_copyFrom : yX2_copyFrom.cls ≠ "java/lang/invoke/MethodHandle" ∧ yX2_copyFrom.cls ≠ "java/lang/invoke/VarHandle" ∧ (parseMethodDescriptor yX2_copyFrom.desc).map (fun d => d.parameters.length) = some 1 := by decide +kernel
set_option maxRecDepth 20000 in
theorem fl_X2_34 : Cond.fieldLink RX2 34 (TX2 0).1 (TX2 0).2.1 (TX2 0).2.2.1 ∈ TT := TT_mem 163 (by decide +kernel) rfl
set_option maxRecDepth 20000 in
theorem cd_X3_init : Cond.code yX3_init cX3_init 1 none ∈ TT := TT_mem 109 (by decide +kernel) rfl
set_option maxRecDepth 20000 in
theorem dd_X3_init : yX3_init.cls ≠ "java/lang/invoke/MethodHandle" ∧ yX3_init.cls ≠ "java/lang/invoke/VarHandle" ∧ (parseMethodDescriptor yX3_init.desc).map (fun d => d.parameters.length) = some 0 := by decide +kernel
set_option maxRecDepth 20000 in
theorem cf_X3_3 : ∀ w ∈ ([.methodLink RX3 3 objectInit, .instanceMethod objectInit, .code objectInit ⟨#[0xb1]⟩ 1 none] : List Cond), w ∈ TT := TT_by [110, 48, 49] (by decide +kernel) rfl
set_option maxRecDepth 20000 in
theorem fl_X3_9 : Cond.fieldLink RX3 9 (TX3 0).1 (TX3 0).2.1 (TX3 0).2.2.1 ∈ TT := TT_mem 111 (by decide +kernel) rfl
set_option maxRecDepth 20000 in
theorem cd_X3_wayIsOneAt : Cond.code yX3_wayIsOneAt cX3_wayIsOneAt 2 (some .boolean) ∈ TT := TT_mem 391 (by decide +kernel) rfl
set_option maxRecDepth 20000 in
theorem dd_X3_wayIsOneAt : yX3_wayIsOneAt.cls ≠ "java/lang/invoke/MethodHandle" ∧ yX3_wayIsOneAt.cls ≠ "java/lang/invoke/VarHandle" ∧ (parseMethodDescriptor yX3_wayIsOneAt.desc).map (fun d => d.parameters.length) = some 1 := by decide +kernel
set_option maxRecDepth 20000 in
theorem fl_X3_15 : Cond.fieldLink RX3 15 (TX3 2).1 (TX3 2).2.1 (TX3 2).2.2.1 ∈ TT := TT_mem 115 (by decide +kernel) rfl
set_option maxRecDepth 20000 in
theorem cf_X3_19 : ∀ w ∈ ([.static yX8_isOneAt, .initialized yX8_isOneAt.cls] : List Cond), w ∈ TT := TT_by [293, 28] (by decide +kernel) rfl
set_option maxRecDepth 20000 in
theorem cd_X3_goOnFrom : Cond.code yX3_goOnFrom cX3_goOnFrom 4 none ∈ TT := TT_mem 407 (by decide +kernel) rfl
set_option maxRecDepth 20000 in
theorem dd_X3_goOnFrom : yX3_goOnFrom.cls ≠ "java/lang/invoke/MethodHandle" ∧ yX3_goOnFrom.cls ≠ "java/lang/invoke/VarHandle" ∧ (parseMethodDescriptor yX3_goOnFrom.desc).map (fun d => d.parameters.length) = some 2 := by decide +kernel
set_option maxRecDepth 20000 in
theorem cf_X3_23 : ∀ w ∈ ([.methodLink RX3 23 yX3_endRow, .instanceMethod yX3_endRow, .selects yX3_endRow.cls yX3_endRow yX3_endRow, .initialized yX3_endRow.cls] : List Cond), w ∈ TT := TT_by [408, 401, 402, 31] (by decide +kernel) rfl
set_option maxRecDepth 20000 in
theorem fl_X3_26 : Cond.fieldLink RX3 26 (TX3 1).1 (TX3 1).2.1 (TX3 1).2.2.1 ∈ TT := TT_mem 113 (by decide +kernel) rfl
set_option maxRecDepth 20000 in
theorem cd_X3_endRow : Cond.code yX3_endRow cX3_endRow 1 none ∈ TT := TT_mem 403 (by decide +kernel) rfl
set_option maxRecDepth 20000 in
theorem dd_X3_endRow : yX3_endRow.cls ≠ "java/lang/invoke/MethodHandle" ∧ yX3_endRow.cls ≠ "java/lang/invoke/VarHandle" ∧ (parseMethodDescriptor yX3_endRow.desc).map (fun d => d.parameters.length) = some 0 := by decide +kernel
set_option maxRecDepth 20000 in
theorem cd_X3_copyFrom : Cond.code yX3_copyFrom cX3_copyFrom 2 none ∈ TT := TT_mem 649 (by decide +kernel) rfl
set_option maxRecDepth 20000 in
theorem dd_X3_copyFrom : yX3_copyFrom.cls ≠ "java/lang/invoke/MethodHandle" ∧ yX3_copyFrom.cls ≠ "java/lang/invoke/VarHandle" ∧ (parseMethodDescriptor yX3_copyFrom.desc).map (fun d => d.parameters.length) = some 1 := by decide +kernel
set_option maxRecDepth 20000 in
theorem cd_X4_init : Cond.code yX4_init cX4_init 1 none ∈ TT := TT_mem 127 (by decide +kernel) rfl
set_option maxRecDepth 20000 in
theorem dd_X4_init : yX4_init.cls ≠ "java/lang/invoke/MethodHandle" ∧ yX4_init.cls ≠ "java/lang/invoke/VarHandle" ∧ (parseMethodDescriptor yX4_init.desc).map (fun d => d.parameters.length) = some 0 := by decide +kernel
set_option maxRecDepth 20000 in
theorem cf_X4_3 : ∀ w ∈ ([.methodLink RX4 3 objectInit, .instanceMethod objectInit, .code objectInit ⟨#[0xb1]⟩ 1 none] : List Cond), w ∈ TT := TT_by [128, 48, 49] (by decide +kernel) rfl
set_option maxRecDepth 20000 in
theorem fl_X4_11 : Cond.fieldLink RX4 11 (TX4 0).1 (TX4 0).2.1 (TX4 0).2.2.1 ∈ TT := TT_mem 129 (by decide +kernel) rfl
set_option maxRecDepth 20000 in
theorem fl_X4_15 : Cond.fieldLink RX4 15 (TX4 1).1 (TX4 1).2.1 (TX4 1).2.2.1 ∈ TT := TT_mem 130 (by decide +kernel) rfl
set_option maxRecDepth 20000 in
theorem cd_X4_startAnew : Cond.code yX4_startAnew cX4_startAnew 1 none ∈ TT := TT_mem 462 (by decide +kernel) rfl
set_option maxRecDepth 20000 in
theorem dd_X4_startAnew : yX4_startAnew.cls ≠ "java/lang/invoke/MethodHandle" ∧ yX4_startAnew.cls ≠ "java/lang/invoke/VarHandle" ∧ (parseMethodDescriptor yX4_startAnew.desc).map (fun d => d.parameters.length) = some 0 := by decide +kernel
set_option maxRecDepth 20000 in
theorem fl_X4_19 : Cond.fieldLink RX4 19 (TX4 2).1 (TX4 2).2.1 (TX4 2).2.2.1 ∈ TT := TT_mem 131 (by decide +kernel) rfl
set_option maxRecDepth 20000 in
theorem cf_X4_23 : ∀ w ∈ ([.methodLink RX4 23 yX4_add, .instanceMethod yX4_add, .selects yX4_add.cls yX4_add yX4_add, .initialized yX4_add.cls] : List Cond), w ∈ TT := TT_by [463, 465, 5, 32] (by decide +kernel) rfl
set_option maxRecDepth 20000 in
theorem cd_X4_topRow : Cond.code yX4_topRow cX4_topRow 1 (some .long) ∈ TT := TT_mem 474 (by decide +kernel) rfl
set_option maxRecDepth 20000 in
theorem dd_X4_topRow : yX4_topRow.cls ≠ "java/lang/invoke/MethodHandle" ∧ yX4_topRow.cls ≠ "java/lang/invoke/VarHandle" ∧ (parseMethodDescriptor yX4_topRow.desc).map (fun d => d.parameters.length) = some 0 := by decide +kernel
set_option maxRecDepth 20000 in
theorem cd_X4_topLength : Cond.code yX4_topLength cX4_topLength 1 (some .int) ∈ TT := TT_mem 478 (by decide +kernel) rfl
set_option maxRecDepth 20000 in
theorem dd_X4_topLength : yX4_topLength.cls ≠ "java/lang/invoke/MethodHandle" ∧ yX4_topLength.cls ≠ "java/lang/invoke/VarHandle" ∧ (parseMethodDescriptor yX4_topLength.desc).map (fun d => d.parameters.length) = some 0 := by decide +kernel
set_option maxRecDepth 20000 in
theorem cd_X4_dropTop : Cond.code yX4_dropTop cX4_dropTop 1 none ∈ TT := TT_mem 482 (by decide +kernel) rfl
set_option maxRecDepth 20000 in
theorem dd_X4_dropTop : yX4_dropTop.cls ≠ "java/lang/invoke/MethodHandle" ∧ yX4_dropTop.cls ≠ "java/lang/invoke/VarHandle" ∧ (parseMethodDescriptor yX4_dropTop.desc).map (fun d => d.parameters.length) = some 0 := by decide +kernel
set_option maxRecDepth 20000 in
theorem cd_X4_addBoth : Cond.code yX4_addBoth cX4_addBoth 4 none ∈ TT := TT_mem 486 (by decide +kernel) rfl
set_option maxRecDepth 20000 in
theorem dd_X4_addBoth : yX4_addBoth.cls ≠ "java/lang/invoke/MethodHandle" ∧ yX4_addBoth.cls ≠ "java/lang/invoke/VarHandle" ∧ (parseMethodDescriptor yX4_addBoth.desc).map (fun d => d.parameters.length) = some 2 := by decide +kernel
set_option maxRecDepth 20000 in
theorem cd_X4_add : Cond.code yX4_add cX4_add 4 none ∈ TT := TT_mem 466 (by decide +kernel) rfl
set_option maxRecDepth 20000 in
theorem dd_X4_add : yX4_add.cls ≠ "java/lang/invoke/MethodHandle" ∧ yX4_add.cls ≠ "java/lang/invoke/VarHandle" ∧ (parseMethodDescriptor yX4_add.desc).map (fun d => d.parameters.length) = some 2 := by decide +kernel
set_option maxRecDepth 20000 in
theorem cd_X4_copyFrom : Cond.code yX4_copyFrom cX4_copyFrom 2 none ∈ TT := TT_mem 653 (by decide +kernel) rfl
set_option maxRecDepth 20000 in
theorem dd_X4_copyFrom : yX4_copyFrom.cls ≠ "java/lang/invoke/MethodHandle" ∧ yX4_copyFrom.cls ≠ "java/lang/invoke/VarHandle" ∧ (parseMethodDescriptor yX4_copyFrom.desc).map (fun d => d.parameters.length) = some 1 := by decide +kernel
set_option maxRecDepth 20000 in
theorem cf_X4_27 : ∀ w ∈ ([.methodLink RX4 27 arraycopyName, .native arraycopyName, .static arraycopyName, .initialized "java/lang/System"] : List Cond), w ∈ TT := TT_by [654, 506, 505, 39] (by decide +kernel) rfl
set_option maxRecDepth 20000 in
theorem cd_X5_init : Cond.code yX5_init cX5_init 1 none ∈ TT := TT_mem 54 (by decide +kernel) rfl
set_option maxRecDepth 20000 in
theorem dd_X5_init : yX5_init.cls ≠ "java/lang/invoke/MethodHandle" ∧ yX5_init.cls ≠ "java/lang/invoke/VarHandle" ∧ (parseMethodDescriptor yX5_init.desc).map (fun d => d.parameters.length) = some 0 := by decide +kernel
set_option maxRecDepth 20000 in
theorem cf_X5_3 : ∀ w ∈ ([.methodLink RX5 3 objectInit, .instanceMethod objectInit, .code objectInit ⟨#[0xb1]⟩ 1 none] : List Cond), w ∈ TT := TT_by [55, 48, 49] (by decide +kernel) rfl
set_option maxRecDepth 20000 in
theorem nw_X5_9 : ∀ w ∈ ([.classLink RX5 9 RX6, .instantiable RX6 11, .initialized RX6] : List Cond), w ∈ TT := TT_by [56, 57, 30] (by decide +kernel) rfl
set_option maxRecDepth 20000 in
theorem cf_X5_11 : ∀ w ∈ ([.instanceMethod yX6_init, .initialized yX6_init.cls] : List Cond), w ∈ TT := TT_by [59, 30] (by decide +kernel) rfl
set_option maxRecDepth 20000 in
theorem fl_X5_12 : Cond.fieldLink RX5 12 (TX5 0).1 (TX5 0).2.1 (TX5 0).2.2.1 ∈ TT := TT_mem 214 (by decide +kernel) rfl
set_option maxRecDepth 20000 in
theorem nw_X5_18 : ∀ w ∈ ([.classLink RX5 18 RX3, .instantiable RX3 3, .initialized RX3] : List Cond), w ∈ TT := TT_by [105, 106, 31] (by decide +kernel) rfl
set_option maxRecDepth 20000 in
theorem cf_X5_20 : ∀ w ∈ ([.instanceMethod yX3_init, .initialized yX3_init.cls] : List Cond), w ∈ TT := TT_by [108, 31] (by decide +kernel) rfl
set_option maxRecDepth 20000 in
theorem fl_X5_21 : Cond.fieldLink RX5 21 (TX5 1).1 (TX5 1).2.1 (TX5 1).2.2.1 ∈ TT := TT_mem 216 (by decide +kernel) rfl
set_option maxRecDepth 20000 in
theorem nw_X5_25 : ∀ w ∈ ([.classLink RX5 25 RX4, .instantiable RX4 3, .initialized RX4] : List Cond), w ∈ TT := TT_by [123, 124, 32] (by decide +kernel) rfl
set_option maxRecDepth 20000 in
theorem cf_X5_27 : ∀ w ∈ ([.instanceMethod yX4_init, .initialized yX4_init.cls] : List Cond), w ∈ TT := TT_by [126, 32] (by decide +kernel) rfl
set_option maxRecDepth 20000 in
theorem fl_X5_28 : Cond.fieldLink RX5 28 (TX5 2).1 (TX5 2).2.1 (TX5 2).2.2.1 ∈ TT := TT_mem 218 (by decide +kernel) rfl
set_option maxRecDepth 20000 in
theorem nw_X5_32 : ∀ w ∈ ([.classLink RX5 32 RX0, .instantiable RX0 3, .initialized RX0] : List Cond), w ∈ TT := TT_by [140, 141, 33] (by decide +kernel) rfl
set_option maxRecDepth 20000 in
theorem cf_X5_34 : ∀ w ∈ ([.instanceMethod yX0_init, .initialized yX0_init.cls] : List Cond), w ∈ TT := TT_by [143, 33] (by decide +kernel) rfl
set_option maxRecDepth 20000 in
theorem fl_X5_35 : Cond.fieldLink RX5 35 (TX5 3).1 (TX5 3).2.1 (TX5 3).2.2.1 ∈ TT := TT_mem 220 (by decide +kernel) rfl
set_option maxRecDepth 20000 in
theorem nw_X5_39 : ∀ w ∈ ([.classLink RX5 39 RX2, .instantiable RX2 5, .initialized RX2] : List Cond), w ∈ TT := TT_by [157, 158, 34] (by decide +kernel) rfl
set_option maxRecDepth 20000 in
theorem cf_X5_41 : ∀ w ∈ ([.instanceMethod yX2_init, .initialized yX2_init.cls] : List Cond), w ∈ TT := TT_by [160, 34] (by decide +kernel) rfl
set_option maxRecDepth 20000 in
theorem fl_X5_42 : Cond.fieldLink RX5 42 (TX5 4).1 (TX5 4).2.1 (TX5 4).2.2.1 ∈ TT := TT_mem 222 (by decide +kernel) rfl
set_option maxRecDepth 20000 in
theorem nw_X5_46 : ∀ w ∈ ([.classLink RX5 46 RX7, .instantiable RX7 6, .initialized RX7] : List Cond), w ∈ TT := TT_by [184, 185, 35] (by decide +kernel) rfl
set_option maxRecDepth 20000 in
theorem cf_X5_48 : ∀ w ∈ ([.instanceMethod yX7_init, .initialized yX7_init.cls] : List Cond), w ∈ TT := TT_by [187, 35] (by decide +kernel) rfl
set_option maxRecDepth 20000 in
theorem fl_X5_49 : Cond.fieldLink RX5 49 (TX5 5).1 (TX5 5).2.1 (TX5 5).2.2.1 ∈ TT := TT_mem 224 (by decide +kernel) rfl
set_option maxRecDepth 20000 in
theorem fl_X5_53 : Cond.fieldLink RX5 53 (TX5 6).1 (TX5 6).2.1 (TX5 6).2.2.1 ∈ TT := TT_mem 226 (by decide +kernel) rfl
set_option maxRecDepth 20000 in
theorem fl_X5_57 : Cond.fieldLink RX5 57 (TX5 7).1 (TX5 7).2.1 (TX5 7).2.2.1 ∈ TT := TT_mem 228 (by decide +kernel) rfl
set_option maxRecDepth 20000 in
theorem cd_X5_copyFrom : Cond.code yX5_copyFrom cX5_copyFrom 2 none ∈ TT := TT_mem 640 (by decide +kernel) rfl
set_option maxRecDepth 20000 in
theorem dd_X5_copyFrom : yX5_copyFrom.cls ≠ "java/lang/invoke/MethodHandle" ∧ yX5_copyFrom.cls ≠ "java/lang/invoke/VarHandle" ∧ (parseMethodDescriptor yX5_copyFrom.desc).map (fun d => d.parameters.length) = some 1 := by decide +kernel
set_option maxRecDepth 20000 in
theorem cf_X5_60 : ∀ w ∈ ([.methodLink RX5 60 yX6_copyFrom, .instanceMethod yX6_copyFrom, .selects yX6_copyFrom.cls yX6_copyFrom yX6_copyFrom, .initialized yX6_copyFrom.cls] : List Cond), w ∈ TT := TT_by [641, 642, 643, 30] (by decide +kernel) rfl
set_option maxRecDepth 20000 in
theorem cf_X5_64 : ∀ w ∈ ([.methodLink RX5 64 yX3_copyFrom, .instanceMethod yX3_copyFrom, .selects yX3_copyFrom.cls yX3_copyFrom yX3_copyFrom, .initialized yX3_copyFrom.cls] : List Cond), w ∈ TT := TT_by [646, 647, 648, 31] (by decide +kernel) rfl
set_option maxRecDepth 20000 in
theorem cf_X5_67 : ∀ w ∈ ([.methodLink RX5 67 yX4_copyFrom, .instanceMethod yX4_copyFrom, .selects yX4_copyFrom.cls yX4_copyFrom yX4_copyFrom, .initialized yX4_copyFrom.cls] : List Cond), w ∈ TT := TT_by [650, 651, 652, 32] (by decide +kernel) rfl
set_option maxRecDepth 20000 in
theorem cf_X5_70 : ∀ w ∈ ([.methodLink RX5 70 yX0_copyFrom, .instanceMethod yX0_copyFrom, .selects yX0_copyFrom.cls yX0_copyFrom yX0_copyFrom, .initialized yX0_copyFrom.cls] : List Cond), w ∈ TT := TT_by [655, 656, 657, 33] (by decide +kernel) rfl
set_option maxRecDepth 20000 in
theorem cf_X5_73 : ∀ w ∈ ([.methodLink RX5 73 yX2_copyFrom, .instanceMethod yX2_copyFrom, .selects yX2_copyFrom.cls yX2_copyFrom yX2_copyFrom, .initialized yX2_copyFrom.cls] : List Cond), w ∈ TT := TT_by [660, 661, 662, 34] (by decide +kernel) rfl
set_option maxRecDepth 20000 in
theorem cf_X5_76 : ∀ w ∈ ([.methodLink RX5 76 yX7_copyFrom, .instanceMethod yX7_copyFrom, .selects yX7_copyFrom.cls yX7_copyFrom yX7_copyFrom, .initialized yX7_copyFrom.cls] : List Cond), w ∈ TT := TT_by [664, 665, 666, 35] (by decide +kernel) rfl
set_option maxRecDepth 20000 in
theorem cd_X6_init : Cond.code yX6_init cX6_init 1 none ∈ TT := TT_mem 60 (by decide +kernel) rfl
set_option maxRecDepth 20000 in
theorem dd_X6_init : yX6_init.cls ≠ "java/lang/invoke/MethodHandle" ∧ yX6_init.cls ≠ "java/lang/invoke/VarHandle" ∧ (parseMethodDescriptor yX6_init.desc).map (fun d => d.parameters.length) = some 0 := by decide +kernel
set_option maxRecDepth 20000 in
theorem cf_X6_3 : ∀ w ∈ ([.methodLink RX6 3 objectInit, .instanceMethod objectInit, .code objectInit ⟨#[0xb1]⟩ 1 none] : List Cond), w ∈ TT := TT_by [61, 48, 49] (by decide +kernel) rfl
set_option maxRecDepth 20000 in
theorem fl_X6_9 : Cond.fieldLink RX6 9 (TX6 0).1 (TX6 0).2.1 (TX6 0).2.2.1 ∈ TT := TT_mem 62 (by decide +kernel) rfl
set_option maxRecDepth 20000 in
theorem fl_X6_15 : Cond.fieldLink RX6 15 (TX6 1).1 (TX6 1).2.1 (TX6 1).2.2.1 ∈ TT := TT_mem 64 (by decide +kernel) rfl
set_option maxRecDepth 20000 in
theorem fl_X6_19 : Cond.fieldLink RX6 19 (TX6 2).1 (TX6 2).2.1 (TX6 2).2.2.1 ∈ TT := TT_mem 66 (by decide +kernel) rfl
set_option maxRecDepth 20000 in
theorem fl_X6_22 : Cond.fieldLink RX6 22 (TX6 3).1 (TX6 3).2.1 (TX6 3).2.2.1 ∈ TT := TT_mem 68 (by decide +kernel) rfl
set_option maxRecDepth 20000 in
theorem fl_X6_25 : Cond.fieldLink RX6 25 (TX6 4).1 (TX6 4).2.1 (TX6 4).2.2.1 ∈ TT := TT_mem 69 (by decide +kernel) rfl
set_option maxRecDepth 20000 in
theorem cd_X6_has : Cond.code yX6_has cX6_has 2 (some .boolean) ∈ TT := TT_mem 322 (by decide +kernel) rfl
set_option maxRecDepth 20000 in
theorem dd_X6_has : yX6_has.cls ≠ "java/lang/invoke/MethodHandle" ∧ yX6_has.cls ≠ "java/lang/invoke/VarHandle" ∧ (parseMethodDescriptor yX6_has.desc).map (fun d => d.parameters.length) = some 1 := by decide +kernel
set_option maxRecDepth 20000 in
theorem fl_X6_28 : Cond.fieldLink RX6 28 (TX6 5).1 (TX6 5).2.1 (TX6 5).2.2.1 ∈ TT := TT_mem 71 (by decide +kernel) rfl
set_option maxRecDepth 20000 in
theorem cd_X6_add : Cond.code yX6_add cX6_add 6 (some .int) ∈ TT := TT_mem 298 (by decide +kernel) rfl
set_option maxRecDepth 20000 in
theorem dd_X6_add : yX6_add.cls ≠ "java/lang/invoke/MethodHandle" ∧ yX6_add.cls ≠ "java/lang/invoke/VarHandle" ∧ (parseMethodDescriptor yX6_add.desc).map (fun d => d.parameters.length) = some 3 := by decide +kernel
set_option maxRecDepth 20000 in
theorem cf_X6_32 : ∀ w ∈ ([.methodLink RX6 32 yX6_isTaken, .instanceMethod yX6_isTaken, .selects yX6_isTaken.cls yX6_isTaken yX6_isTaken, .initialized yX6_isTaken.cls] : List Cond), w ∈ TT := TT_by [299, 301, 0, 30] (by decide +kernel) rfl
set_option maxRecDepth 20000 in
theorem cf_X6_36 : ∀ w ∈ ([.static yX8_setOf, .initialized yX8_setOf.cls] : List Cond), w ∈ TT := TT_by [304, 28] (by decide +kernel) rfl
set_option maxRecDepth 20000 in
theorem fl_X6_40 : Cond.fieldLink RX6 40 (TX6 6).1 (TX6 6).2.1 (TX6 6).2.2.1 ∈ TT := TT_mem 73 (by decide +kernel) rfl
set_option maxRecDepth 20000 in
theorem fl_X6_44 : Cond.fieldLink RX6 44 (TX6 7).1 (TX6 7).2.1 (TX6 7).2.2.1 ∈ TT := TT_mem 75 (by decide +kernel) rfl
set_option maxRecDepth 20000 in
theorem cf_X6_47 : ∀ w ∈ ([.methodLink RX6 47 yX6_isOfGroup, .instanceMethod yX6_isOfGroup, .selects yX6_isOfGroup.cls yX6_isOfGroup yX6_isOfGroup, .initialized yX6_isOfGroup.cls] : List Cond), w ∈ TT := TT_by [306, 308, 1, 30] (by decide +kernel) rfl
set_option maxRecDepth 20000 in
theorem fl_X6_50 : Cond.fieldLink RX6 50 (TX6 8).1 (TX6 8).2.1 (TX6 8).2.2.1 ∈ TT := TT_mem 77 (by decide +kernel) rfl
set_option maxRecDepth 20000 in
theorem cf_X6_53 : ∀ w ∈ ([.methodLink RX6 53 yX6_noteOnes, .instanceMethod yX6_noteOnes, .selects yX6_noteOnes.cls yX6_noteOnes yX6_noteOnes, .initialized yX6_noteOnes.cls] : List Cond), w ∈ TT := TT_by [310, 312, 2, 30] (by decide +kernel) rfl
set_option maxRecDepth 20000 in
theorem cd_X6_noteOnes : Cond.code yX6_noteOnes cX6_noteOnes 5 none ∈ TT := TT_mem 313 (by decide +kernel) rfl
set_option maxRecDepth 20000 in
theorem dd_X6_noteOnes : yX6_noteOnes.cls ≠ "java/lang/invoke/MethodHandle" ∧ yX6_noteOnes.cls ≠ "java/lang/invoke/VarHandle" ∧ (parseMethodDescriptor yX6_noteOnes.desc).map (fun d => d.parameters.length) = some 2 := by decide +kernel
set_option maxRecDepth 20000 in
theorem cf_X6_57 : ∀ w ∈ ([.static yX8_isOneAt, .initialized yX8_isOneAt.cls] : List Cond), w ∈ TT := TT_by [293, 28] (by decide +kernel) rfl
set_option maxRecDepth 20000 in
theorem cd_X6_isTaken : Cond.code yX6_isTaken cX6_isTaken 4 (some .boolean) ∈ TT := TT_mem 302 (by decide +kernel) rfl
set_option maxRecDepth 20000 in
theorem dd_X6_isTaken : yX6_isTaken.cls ≠ "java/lang/invoke/MethodHandle" ∧ yX6_isTaken.cls ≠ "java/lang/invoke/VarHandle" ∧ (parseMethodDescriptor yX6_isTaken.desc).map (fun d => d.parameters.length) = some 1 := by decide +kernel
set_option maxRecDepth 20000 in
theorem cd_X6_isOfGroup : Cond.code yX6_isOfGroup cX6_isOfGroup 3 (some .boolean) ∈ TT := TT_mem 309 (by decide +kernel) rfl
set_option maxRecDepth 20000 in
theorem dd_X6_isOfGroup : yX6_isOfGroup.cls ≠ "java/lang/invoke/MethodHandle" ∧ yX6_isOfGroup.cls ≠ "java/lang/invoke/VarHandle" ∧ (parseMethodDescriptor yX6_isOfGroup.desc).map (fun d => d.parameters.length) = some 1 := by decide +kernel
set_option maxRecDepth 20000 in
theorem fl_X6_61 : Cond.fieldLink RX6 61 (TX6 9).1 (TX6 9).2.1 (TX6 9).2.2.1 ∈ TT := TT_mem 78 (by decide +kernel) rfl
set_option maxRecDepth 20000 in
theorem fl_X6_64 : Cond.fieldLink RX6 64 (TX6 10).1 (TX6 10).2.1 (TX6 10).2.2.1 ∈ TT := TT_mem 79 (by decide +kernel) rfl
set_option maxRecDepth 20000 in
theorem cd_X6_regroup : Cond.code yX6_regroup cX6_regroup 6 none ∈ TT := TT_mem 372 (by decide +kernel) rfl
set_option maxRecDepth 20000 in
theorem dd_X6_regroup : yX6_regroup.cls ≠ "java/lang/invoke/MethodHandle" ∧ yX6_regroup.cls ≠ "java/lang/invoke/VarHandle" ∧ (parseMethodDescriptor yX6_regroup.desc).map (fun d => d.parameters.length) = some 2 := by decide +kernel
set_option maxRecDepth 20000 in
theorem cd_X6_setThere : Cond.code yX6_setThere cX6_setThere 3 (some .boolean) ∈ TT := TT_mem 359 (by decide +kernel) rfl
set_option maxRecDepth 20000 in
theorem dd_X6_setThere : yX6_setThere.cls ≠ "java/lang/invoke/MethodHandle" ∧ yX6_setThere.cls ≠ "java/lang/invoke/VarHandle" ∧ (parseMethodDescriptor yX6_setThere.desc).map (fun d => d.parameters.length) = some 2 := by decide +kernel
set_option maxRecDepth 20000 in
theorem cf_X6_67 : ∀ w ∈ ([.static yX8_isIn, .initialized yX8_isIn.cls] : List Cond), w ∈ TT := TT_by [333, 28] (by decide +kernel) rfl
set_option maxRecDepth 20000 in
theorem cd_X6_setAwake : Cond.code yX6_setAwake cX6_setAwake 3 (some .boolean) ∈ TT := TT_mem 364 (by decide +kernel) rfl
set_option maxRecDepth 20000 in
theorem dd_X6_setAwake : yX6_setAwake.cls ≠ "java/lang/invoke/MethodHandle" ∧ yX6_setAwake.cls ≠ "java/lang/invoke/VarHandle" ∧ (parseMethodDescriptor yX6_setAwake.desc).map (fun d => d.parameters.length) = some 2 := by decide +kernel
set_option maxRecDepth 20000 in
theorem cd_X6_tire : Cond.code yX6_tire cX6_tire 2 none ∈ TT := TT_mem 572 (by decide +kernel) rfl
set_option maxRecDepth 20000 in
theorem dd_X6_tire : yX6_tire.cls ≠ "java/lang/invoke/MethodHandle" ∧ yX6_tire.cls ≠ "java/lang/invoke/VarHandle" ∧ (parseMethodDescriptor yX6_tire.desc).map (fun d => d.parameters.length) = some 1 := by decide +kernel
set_option maxRecDepth 20000 in
theorem ld_X6_70 : Cond.constantLong RX6 70 (-1) ∈ TT := TT_mem 434 (by decide +kernel) rfl
set_option maxRecDepth 20000 in
theorem cd_X6_listening : Cond.code yX6_listening cX6_listening 1 (some .long) ∈ TT := TT_mem 342 (by decide +kernel) rfl
set_option maxRecDepth 20000 in
theorem dd_X6_listening : yX6_listening.cls ≠ "java/lang/invoke/MethodHandle" ∧ yX6_listening.cls ≠ "java/lang/invoke/VarHandle" ∧ (parseMethodDescriptor yX6_listening.desc).map (fun d => d.parameters.length) = some 0 := by decide +kernel
set_option maxRecDepth 20000 in
theorem cd_X6_asked : Cond.code yX6_asked cX6_asked 1 (some .long) ∈ TT := TT_mem 432 (by decide +kernel) rfl
set_option maxRecDepth 20000 in
theorem dd_X6_asked : yX6_asked.cls ≠ "java/lang/invoke/MethodHandle" ∧ yX6_asked.cls ≠ "java/lang/invoke/VarHandle" ∧ (parseMethodDescriptor yX6_asked.desc).map (fun d => d.parameters.length) = some 0 := by decide +kernel
set_option maxRecDepth 20000 in
theorem cf_X6_72 : ∀ w ∈ ([.methodLink RX6 72 yX6_listening, .instanceMethod yX6_listening, .selects yX6_listening.cls yX6_listening yX6_listening, .initialized yX6_listening.cls] : List Cond), w ∈ TT := TT_by [433, 340, 341, 30] (by decide +kernel) rfl
set_option maxRecDepth 20000 in
theorem cd_X6_slotted : Cond.code yX6_slotted cX6_slotted 1 (some .long) ∈ TT := TT_mem 591 (by decide +kernel) rfl
set_option maxRecDepth 20000 in
theorem dd_X6_slotted : yX6_slotted.cls ≠ "java/lang/invoke/MethodHandle" ∧ yX6_slotted.cls ≠ "java/lang/invoke/VarHandle" ∧ (parseMethodDescriptor yX6_slotted.desc).map (fun d => d.parameters.length) = some 0 := by decide +kernel
set_option maxRecDepth 20000 in
theorem cd_X6_splitting : Cond.code yX6_splitting cX6_splitting 1 (some .long) ∈ TT := TT_mem 518 (by decide +kernel) rfl
set_option maxRecDepth 20000 in
theorem dd_X6_splitting : yX6_splitting.cls ≠ "java/lang/invoke/MethodHandle" ∧ yX6_splitting.cls ≠ "java/lang/invoke/VarHandle" ∧ (parseMethodDescriptor yX6_splitting.desc).map (fun d => d.parameters.length) = some 0 := by decide +kernel
set_option maxRecDepth 20000 in
theorem cd_X6_tellingOne : Cond.code yX6_tellingOne cX6_tellingOne 4 (some .long) ∈ TT := TT_mem 386 (by decide +kernel) rfl
set_option maxRecDepth 20000 in
theorem dd_X6_tellingOne : yX6_tellingOne.cls ≠ "java/lang/invoke/MethodHandle" ∧ yX6_tellingOne.cls ≠ "java/lang/invoke/VarHandle" ∧ (parseMethodDescriptor yX6_tellingOne.desc).map (fun d => d.parameters.length) = some 2 := by decide +kernel
set_option maxRecDepth 20000 in
theorem cd_X6_beginningWith : Cond.code yX6_beginningWith cX6_beginningWith 9 (some .long) ∈ TT := TT_mem 428 (by decide +kernel) rfl
set_option maxRecDepth 20000 in
theorem dd_X6_beginningWith : yX6_beginningWith.cls ≠ "java/lang/invoke/MethodHandle" ∧ yX6_beginningWith.cls ≠ "java/lang/invoke/VarHandle" ∧ (parseMethodDescriptor yX6_beginningWith.desc).map (fun d => d.parameters.length) = some 2 := by decide +kernel
set_option maxRecDepth 20000 in
theorem cf_X6_76 : ∀ w ∈ ([.methodLink RX6 76 yX6_asked, .instanceMethod yX6_asked, .selects yX6_asked.cls yX6_asked yX6_asked, .initialized yX6_asked.cls] : List Cond), w ∈ TT := TT_by [429, 430, 431, 30] (by decide +kernel) rfl
set_option maxRecDepth 20000 in
theorem cf_X6_79 : ∀ w ∈ ([.methodLink RX6 79 yX6_tellingOne, .instanceMethod yX6_tellingOne, .selects yX6_tellingOne.cls yX6_tellingOne yX6_tellingOne, .initialized yX6_tellingOne.cls] : List Cond), w ∈ TT := TT_by [435, 384, 385, 30] (by decide +kernel) rfl
set_option maxRecDepth 20000 in
theorem cd_X6_draw : Cond.code yX6_draw cX6_draw 3 (some .int) ∈ TT := TT_mem 553 (by decide +kernel) rfl
set_option maxRecDepth 20000 in
theorem dd_X6_draw : yX6_draw.cls ≠ "java/lang/invoke/MethodHandle" ∧ yX6_draw.cls ≠ "java/lang/invoke/VarHandle" ∧ (parseMethodDescriptor yX6_draw.desc).map (fun d => d.parameters.length) = some 2 := by decide +kernel
set_option maxRecDepth 20000 in
theorem cf_X6_83 : ∀ w ∈ ([.methodLink RX6 83 yX6_has, .instanceMethod yX6_has, .selects yX6_has.cls yX6_has yX6_has, .initialized yX6_has.cls] : List Cond), w ∈ TT := TT_by [554, 320, 321, 30] (by decide +kernel) rfl
set_option maxRecDepth 20000 in
theorem ld_X6_87 : Cond.constant RX6 87 (1103515245) ∈ TT := TT_mem 555 (by decide +kernel) rfl
set_option maxRecDepth 20000 in
theorem cd_X6_copyFrom : Cond.code yX6_copyFrom cX6_copyFrom 2 none ∈ TT := TT_mem 644 (by decide +kernel) rfl
set_option maxRecDepth 20000 in
theorem dd_X6_copyFrom : yX6_copyFrom.cls ≠ "java/lang/invoke/MethodHandle" ∧ yX6_copyFrom.cls ≠ "java/lang/invoke/VarHandle" ∧ (parseMethodDescriptor yX6_copyFrom.desc).map (fun d => d.parameters.length) = some 1 := by decide +kernel
set_option maxRecDepth 20000 in
theorem cf_X6_88 : ∀ w ∈ ([.methodLink RX6 88 arraycopyName, .native arraycopyName, .static arraycopyName, .initialized "java/lang/System"] : List Cond), w ∈ TT := TT_by [645, 506, 505, 39] (by decide +kernel) rfl
set_option maxRecDepth 20000 in
theorem cd_X7_init : Cond.code yX7_init cX7_init 1 none ∈ TT := TT_mem 188 (by decide +kernel) rfl
set_option maxRecDepth 20000 in
theorem dd_X7_init : yX7_init.cls ≠ "java/lang/invoke/MethodHandle" ∧ yX7_init.cls ≠ "java/lang/invoke/VarHandle" ∧ (parseMethodDescriptor yX7_init.desc).map (fun d => d.parameters.length) = some 0 := by decide +kernel
set_option maxRecDepth 20000 in
theorem cf_X7_3 : ∀ w ∈ ([.methodLink RX7 3 objectInit, .instanceMethod objectInit, .code objectInit ⟨#[0xb1]⟩ 1 none] : List Cond), w ∈ TT := TT_by [189, 48, 49] (by decide +kernel) rfl
set_option maxRecDepth 20000 in
theorem fl_X7_9 : Cond.fieldLink RX7 9 (TX7 0).1 (TX7 0).2.1 (TX7 0).2.2.1 ∈ TT := TT_mem 190 (by decide +kernel) rfl
set_option maxRecDepth 20000 in
theorem cd_X7_addFound : Cond.code yX7_addFound cX7_addFound 2 none ∈ TT := TT_mem 412 (by decide +kernel) rfl
set_option maxRecDepth 20000 in
theorem dd_X7_addFound : yX7_addFound.cls ≠ "java/lang/invoke/MethodHandle" ∧ yX7_addFound.cls ≠ "java/lang/invoke/VarHandle" ∧ (parseMethodDescriptor yX7_addFound.desc).map (fun d => d.parameters.length) = some 1 := by decide +kernel
set_option maxRecDepth 20000 in
theorem fl_X7_15 : Cond.fieldLink RX7 15 (TX7 1).1 (TX7 1).2.1 (TX7 1).2.2.1 ∈ TT := TT_mem 191 (by decide +kernel) rfl
set_option maxRecDepth 20000 in
theorem cd_X7_foundAt : Cond.code yX7_foundAt cX7_foundAt 2 (some .int) ∈ TT := TT_mem 620 (by decide +kernel) rfl
set_option maxRecDepth 20000 in
theorem dd_X7_foundAt : yX7_foundAt.cls ≠ "java/lang/invoke/MethodHandle" ∧ yX7_foundAt.cls ≠ "java/lang/invoke/VarHandle" ∧ (parseMethodDescriptor yX7_foundAt.desc).map (fun d => d.parameters.length) = some 1 := by decide +kernel
set_option maxRecDepth 20000 in
theorem cd_X7_timesFound : Cond.code yX7_timesFound cX7_timesFound 4 (some .int) ∈ TT := TT_mem 351 (by decide +kernel) rfl
set_option maxRecDepth 20000 in
theorem dd_X7_timesFound : yX7_timesFound.cls ≠ "java/lang/invoke/MethodHandle" ∧ yX7_timesFound.cls ≠ "java/lang/invoke/VarHandle" ∧ (parseMethodDescriptor yX7_timesFound.desc).map (fun d => d.parameters.length) = some 1 := by decide +kernel
set_option maxRecDepth 20000 in
theorem cd_X7_addSlot : Cond.code yX7_addSlot cX7_addSlot 2 none ∈ TT := TT_mem 450 (by decide +kernel) rfl
set_option maxRecDepth 20000 in
theorem dd_X7_addSlot : yX7_addSlot.cls ≠ "java/lang/invoke/MethodHandle" ∧ yX7_addSlot.cls ≠ "java/lang/invoke/VarHandle" ∧ (parseMethodDescriptor yX7_addSlot.desc).map (fun d => d.parameters.length) = some 1 := by decide +kernel
set_option maxRecDepth 20000 in
theorem fl_X7_19 : Cond.fieldLink RX7 19 (TX7 2).1 (TX7 2).2.1 (TX7 2).2.2.1 ∈ TT := TT_mem 193 (by decide +kernel) rfl
set_option maxRecDepth 20000 in
theorem fl_X7_22 : Cond.fieldLink RX7 22 (TX7 3).1 (TX7 3).2.1 (TX7 3).2.2.1 ∈ TT := TT_mem 195 (by decide +kernel) rfl
set_option maxRecDepth 20000 in
theorem fl_X7_25 : Cond.fieldLink RX7 25 (TX7 4).1 (TX7 4).2.1 (TX7 4).2.2.1 ∈ TT := TT_mem 197 (by decide +kernel) rfl
set_option maxRecDepth 20000 in
theorem cd_X7_addPassSlots : Cond.code yX7_addPassSlots cX7_addPassSlots 2 none ∈ TT := TT_mem 396 (by decide +kernel) rfl
set_option maxRecDepth 20000 in
theorem dd_X7_addPassSlots : yX7_addPassSlots.cls ≠ "java/lang/invoke/MethodHandle" ∧ yX7_addPassSlots.cls ≠ "java/lang/invoke/VarHandle" ∧ (parseMethodDescriptor yX7_addPassSlots.desc).map (fun d => d.parameters.length) = some 1 := by decide +kernel
set_option maxRecDepth 20000 in
theorem fl_X7_28 : Cond.fieldLink RX7 28 (TX7 5).1 (TX7 5).2.1 (TX7 5).2.2.1 ∈ TT := TT_mem 199 (by decide +kernel) rfl
set_option maxRecDepth 20000 in
theorem cd_X7_allSlots : Cond.code yX7_allSlots cX7_allSlots 1 (some .int) ∈ TT := TT_mem 628 (by decide +kernel) rfl
set_option maxRecDepth 20000 in
theorem dd_X7_allSlots : yX7_allSlots.cls ≠ "java/lang/invoke/MethodHandle" ∧ yX7_allSlots.cls ≠ "java/lang/invoke/VarHandle" ∧ (parseMethodDescriptor yX7_allSlots.desc).map (fun d => d.parameters.length) = some 0 := by decide +kernel
set_option maxRecDepth 20000 in
theorem cd_X7_copyFrom : Cond.code yX7_copyFrom cX7_copyFrom 2 none ∈ TT := TT_mem 667 (by decide +kernel) rfl
set_option maxRecDepth 20000 in
theorem dd_X7_copyFrom : yX7_copyFrom.cls ≠ "java/lang/invoke/MethodHandle" ∧ yX7_copyFrom.cls ≠ "java/lang/invoke/VarHandle" ∧ (parseMethodDescriptor yX7_copyFrom.desc).map (fun d => d.parameters.length) = some 1 := by decide +kernel
set_option maxRecDepth 20000 in
theorem cf_X7_31 : ∀ w ∈ ([.methodLink RX7 31 arraycopyName, .native arraycopyName, .static arraycopyName, .initialized "java/lang/System"] : List Cond), w ∈ TT := TT_by [668, 506, 505, 39] (by decide +kernel) rfl
set_option maxRecDepth 20000 in
theorem nw_L_7 : ∀ w ∈ ([.classLink RL 7 RX8, .instantiable RX8 4, .initialized RX8] : List Cond), w ∈ TT := TT_by [42, 43, 28] (by decide +kernel) rfl
set_option maxRecDepth 20000 in
theorem cf_L_9 : ∀ w ∈ ([.methodLink RL 9 yX8_init, .instanceMethod yX8_init, .initialized yX8_init.cls] : List Cond), w ∈ TT := TT_by [44, 45, 28] (by decide +kernel) rfl
set_option maxRecDepth 20000 in
theorem nw_L_10 : ∀ w ∈ ([.classLink RL 10 RX9, .instantiable RX9 9, .initialized RX9] : List Cond), w ∈ TT := TT_by [673, 674, 37] (by decide +kernel) rfl
set_option maxRecDepth 20000 in
theorem cf_L_12 : ∀ w ∈ ([.methodLink RL 12 yX9_init, .instanceMethod yX9_init, .initialized yX9_init.cls] : List Cond), w ∈ TT := TT_by [675, 676, 37] (by decide +kernel) rfl
set_option maxRecDepth 20000 in
theorem cf_L_13 : ∀ w ∈ ([.methodLink RL 13 yX8_wire, .instanceMethod yX8_wire, .selects yX8_wire.cls yX8_wire yX8_wire, .initialized yX8_wire.cls] : List Cond), w ∈ TT := TT_by [281, 282, 283, 28] (by decide +kernel) rfl
set_option maxRecDepth 20000 in
theorem cf_L_17 : ∀ w ∈ ([.methodLink RL 17 yX9_wire, .instanceMethod yX9_wire, .selects yX9_wire.cls yX9_wire yX9_wire, .initialized yX9_wire.cls] : List Cond), w ∈ TT := TT_by [708, 709, 710, 37] (by decide +kernel) rfl
set_option maxRecDepth 20000 in
theorem ld_L_18 : Cond.constantLong RL 18 (4294967295) ∈ TT := TT_mem 890 (by decide +kernel) rfl
set_option maxRecDepth 20000 in
theorem cf_L_20 : ∀ w ∈ ([.methodLink RL 20 yX8_tag, .instanceMethod yX8_tag, .selects yX8_tag.cls yX8_tag yX8_tag, .initialized yX8_tag.cls] : List Cond), w ∈ TT := TT_by [285, 286, 287, 28] (by decide +kernel) rfl
set_option maxRecDepth 20000 in
theorem cf_L_24 : ∀ w ∈ ([.methodLink RL 24 yX9_tag, .instanceMethod yX9_tag, .selects yX9_tag.cls yX9_tag yX9_tag, .initialized yX9_tag.cls] : List Cond), w ∈ TT := TT_by [715, 716, 717, 37] (by decide +kernel) rfl
set_option maxRecDepth 20000 in
theorem cf_L_25 : ∀ w ∈ ([.methodLink RL 25 yX8_name, .instanceMethod yX8_name, .selects yX8_name.cls yX8_name yX8_name, .initialized yX8_name.cls] : List Cond), w ∈ TT := TT_by [315, 316, 317, 28] (by decide +kernel) rfl
set_option maxRecDepth 20000 in
theorem cf_L_29 : ∀ w ∈ ([.methodLink RL 29 yX9_name, .instanceMethod yX9_name, .selects yX9_name.cls yX9_name yX9_name, .initialized yX9_name.cls] : List Cond), w ∈ TT := TT_by [729, 730, 731, 37] (by decide +kernel) rfl
set_option maxRecDepth 20000 in
theorem cf_L_30 : ∀ w ∈ ([.methodLink RL 30 yX8_isName, .instanceMethod yX8_isName, .selects yX8_isName.cls yX8_isName yX8_isName, .initialized yX8_isName.cls] : List Cond), w ∈ TT := TT_by [323, 324, 325, 28] (by decide +kernel) rfl
set_option maxRecDepth 20000 in
theorem cf_L_34 : ∀ w ∈ ([.methodLink RL 34 yX9_isName, .instanceMethod yX9_isName, .selects yX9_isName.cls yX9_isName yX9_isName, .initialized yX9_isName.cls] : List Cond), w ∈ TT := TT_by [737, 738, 739, 37] (by decide +kernel) rfl
set_option maxRecDepth 20000 in
theorem cf_L_35 : ∀ w ∈ ([.methodLink RL 35 yX8_tell, .instanceMethod yX8_tell, .selects yX8_tell.cls yX8_tell yX8_tell, .initialized yX8_tell.cls] : List Cond), w ∈ TT := TT_by [328, 329, 330, 28] (by decide +kernel) rfl
set_option maxRecDepth 20000 in
theorem cf_L_39 : ∀ w ∈ ([.methodLink RL 39 yX9_tell, .instanceMethod yX9_tell, .selects yX9_tell.cls yX9_tell yX9_tell, .initialized yX9_tell.cls] : List Cond), w ∈ TT := TT_by [742, 743, 744, 37] (by decide +kernel) rfl
set_option maxRecDepth 20000 in
theorem cf_L_40 : ∀ w ∈ ([.methodLink RL 40 yX8_act, .instanceMethod yX8_act, .selects yX8_act.cls yX8_act yX8_act, .initialized yX8_act.cls] : List Cond), w ∈ TT := TT_by [352, 353, 354, 28] (by decide +kernel) rfl
set_option maxRecDepth 20000 in
theorem cf_L_44 : ∀ w ∈ ([.methodLink RL 44 yX9_act, .instanceMethod yX9_act, .selects yX9_act.cls yX9_act yX9_act, .initialized yX9_act.cls] : List Cond), w ∈ TT := TT_by [754, 755, 756, 37] (by decide +kernel) rfl
set_option maxRecDepth 20000 in
theorem cf_L_45 : ∀ w ∈ ([.methodLink RL 45 yX8_group, .instanceMethod yX8_group, .selects yX8_group.cls yX8_group yX8_group, .initialized yX8_group.cls] : List Cond), w ∈ TT := TT_by [365, 366, 367, 28] (by decide +kernel) rfl
set_option maxRecDepth 20000 in
theorem cf_L_49 : ∀ w ∈ ([.methodLink RL 49 yX9_group, .instanceMethod yX9_group, .selects yX9_group.cls yX9_group yX9_group, .initialized yX9_group.cls] : List Cond), w ∈ TT := TT_by [758, 759, 760, 37] (by decide +kernel) rfl
set_option maxRecDepth 20000 in
theorem cf_L_50 : ∀ w ∈ ([.methodLink RL 50 yX8_pass, .instanceMethod yX8_pass, .selects yX8_pass.cls yX8_pass yX8_pass, .initialized yX8_pass.cls] : List Cond), w ∈ TT := TT_by [379, 380, 381, 28] (by decide +kernel) rfl
set_option maxRecDepth 20000 in
theorem cf_L_54 : ∀ w ∈ ([.methodLink RL 54 yX9_pass, .instanceMethod yX9_pass, .selects yX9_pass.cls yX9_pass yX9_pass, .initialized yX9_pass.cls] : List Cond), w ∈ TT := TT_by [766, 767, 768, 37] (by decide +kernel) rfl
set_option maxRecDepth 20000 in
theorem cf_L_55 : ∀ w ∈ ([.methodLink RL 55 yX8_fork, .instanceMethod yX8_fork, .selects yX8_fork.cls yX8_fork yX8_fork, .initialized yX8_fork.cls] : List Cond), w ∈ TT := TT_by [413, 414, 415, 28] (by decide +kernel) rfl
set_option maxRecDepth 20000 in
theorem cf_L_59 : ∀ w ∈ ([.methodLink RL 59 yX9_fork, .instanceMethod yX9_fork, .selects yX9_fork.cls yX9_fork yX9_fork, .initialized yX9_fork.cls] : List Cond), w ∈ TT := TT_by [790, 791, 792, 37] (by decide +kernel) rfl
set_option maxRecDepth 20000 in
theorem cf_L_60 : ∀ w ∈ ([.methodLink RL 60 yX8_verify, .instanceMethod yX8_verify, .selects yX8_verify.cls yX8_verify yX8_verify, .initialized yX8_verify.cls] : List Cond), w ∈ TT := TT_by [417, 418, 419, 28] (by decide +kernel) rfl
set_option maxRecDepth 20000 in
theorem cf_L_63 : ∀ w ∈ ([.methodLink RL 63 yX9_verify, .instanceMethod yX9_verify, .selects yX9_verify.cls yX9_verify yX9_verify, .initialized yX9_verify.cls] : List Cond), w ∈ TT := TT_by [794, 795, 796, 37] (by decide +kernel) rfl
set_option maxRecDepth 20000 in
theorem cf_L_64 : ∀ w ∈ ([.methodLink RL 64 yX8_ask, .instanceMethod yX8_ask, .selects yX8_ask.cls yX8_ask yX8_ask, .initialized yX8_ask.cls] : List Cond), w ∈ TT := TT_by [421, 422, 423, 28] (by decide +kernel) rfl
set_option maxRecDepth 20000 in
theorem cf_L_68 : ∀ w ∈ ([.methodLink RL 68 yX9_ask, .instanceMethod yX9_ask, .selects yX9_ask.cls yX9_ask yX9_ask, .initialized yX9_ask.cls] : List Cond), w ∈ TT := TT_by [798, 799, 800, 37] (by decide +kernel) rfl
set_option maxRecDepth 20000 in
theorem cf_L_69 : ∀ w ∈ ([.methodLink RL 69 yX8_alone, .instanceMethod yX8_alone, .selects yX8_alone.cls yX8_alone yX8_alone, .initialized yX8_alone.cls] : List Cond), w ∈ TT := TT_by [451, 452, 453, 28] (by decide +kernel) rfl
set_option maxRecDepth 20000 in
theorem cf_L_72 : ∀ w ∈ ([.methodLink RL 72 yX9_alone, .instanceMethod yX9_alone, .selects yX9_alone.cls yX9_alone yX9_alone, .initialized yX9_alone.cls] : List Cond), w ∈ TT := TT_by [817, 818, 819, 37] (by decide +kernel) rfl
set_option maxRecDepth 20000 in
theorem cf_L_73 : ∀ w ∈ ([.methodLink RL 73 yX8_descend, .instanceMethod yX8_descend, .selects yX8_descend.cls yX8_descend yX8_descend, .initialized yX8_descend.cls] : List Cond), w ∈ TT := TT_by [455, 456, 457, 28] (by decide +kernel) rfl
set_option maxRecDepth 20000 in
theorem cf_L_76 : ∀ w ∈ ([.methodLink RL 76 yX9_descend, .instanceMethod yX9_descend, .selects yX9_descend.cls yX9_descend yX9_descend, .initialized yX9_descend.cls] : List Cond), w ∈ TT := TT_by [821, 822, 823, 37] (by decide +kernel) rfl
set_option maxRecDepth 20000 in
theorem cf_L_77 : ∀ w ∈ ([.methodLink RL 77 yX8_step, .instanceMethod yX8_step, .selects yX8_step.cls yX8_step yX8_step, .initialized yX8_step.cls] : List Cond), w ∈ TT := TT_by [467, 468, 469, 28] (by decide +kernel) rfl
set_option maxRecDepth 20000 in
theorem cf_L_80 : ∀ w ∈ ([.methodLink RL 80 yX9_step, .instanceMethod yX9_step, .selects yX9_step.cls yX9_step yX9_step, .initialized yX9_step.cls] : List Cond), w ∈ TT := TT_by [829, 830, 831, 37] (by decide +kernel) rfl
set_option maxRecDepth 20000 in
theorem cf_L_81 : ∀ w ∈ ([.methodLink RL 81 yX8_nodes, .instanceMethod yX8_nodes, .selects yX8_nodes.cls yX8_nodes yX8_nodes, .initialized yX8_nodes.cls] : List Cond), w ∈ TT := TT_by [487, 488, 489, 28] (by decide +kernel) rfl
set_option maxRecDepth 20000 in
theorem cf_L_84 : ∀ w ∈ ([.methodLink RL 84 yX9_nodes, .instanceMethod yX9_nodes, .selects yX9_nodes.cls yX9_nodes yX9_nodes, .initialized yX9_nodes.cls] : List Cond), w ∈ TT := TT_by [833, 834, 835, 37] (by decide +kernel) rfl
set_option maxRecDepth 20000 in
theorem cf_L_85 : ∀ w ∈ ([.methodLink RL 85 yX8_begin, .instanceMethod yX8_begin, .selects yX8_begin.cls yX8_begin yX8_begin, .initialized yX8_begin.cls] : List Cond), w ∈ TT := TT_by [511, 512, 513, 28] (by decide +kernel) rfl
set_option maxRecDepth 20000 in
theorem cf_L_88 : ∀ w ∈ ([.methodLink RL 88 yX9_begin, .instanceMethod yX9_begin, .selects yX9_begin.cls yX9_begin yX9_begin, .initialized yX9_begin.cls] : List Cond), w ∈ TT := TT_by [837, 838, 839, 37] (by decide +kernel) rfl
set_option maxRecDepth 20000 in
theorem cf_L_89 : ∀ w ∈ ([.methodLink RL 89 yX8_split, .instanceMethod yX8_split, .selects yX8_split.cls yX8_split yX8_split, .initialized yX8_split.cls] : List Cond), w ∈ TT := TT_by [526, 527, 528, 28] (by decide +kernel) rfl
set_option maxRecDepth 20000 in
theorem cf_L_92 : ∀ w ∈ ([.methodLink RL 92 yX9_split, .instanceMethod yX9_split, .selects yX9_split.cls yX9_split yX9_split, .initialized yX9_split.cls] : List Cond), w ∈ TT := TT_by [845, 846, 847, 37] (by decide +kernel) rfl
set_option maxRecDepth 20000 in
theorem cf_L_93 : ∀ w ∈ ([.methodLink RL 93 yX8_frames, .instanceMethod yX8_frames, .selects yX8_frames.cls yX8_frames yX8_frames, .initialized yX8_frames.cls] : List Cond), w ∈ TT := TT_by [573, 574, 575, 28] (by decide +kernel) rfl
set_option maxRecDepth 20000 in
theorem cf_L_96 : ∀ w ∈ ([.methodLink RL 96 yX9_frames, .instanceMethod yX9_frames, .selects yX9_frames.cls yX9_frames yX9_frames, .initialized yX9_frames.cls] : List Cond), w ∈ TT := TT_by [858, 859, 860, 37] (by decide +kernel) rfl
set_option maxRecDepth 20000 in
theorem cf_L_97 : ∀ w ∈ ([.methodLink RL 97 yX8_frame, .instanceMethod yX8_frame, .selects yX8_frame.cls yX8_frame yX8_frame, .initialized yX8_frame.cls] : List Cond), w ∈ TT := TT_by [577, 578, 579, 28] (by decide +kernel) rfl
set_option maxRecDepth 20000 in
theorem cf_L_100 : ∀ w ∈ ([.methodLink RL 100 yX9_frame, .instanceMethod yX9_frame, .selects yX9_frame.cls yX9_frame yX9_frame, .initialized yX9_frame.cls] : List Cond), w ∈ TT := TT_by [862, 863, 864, 37] (by decide +kernel) rfl
set_option maxRecDepth 20000 in
theorem cf_L_101 : ∀ w ∈ ([.methodLink RL 101 yX8_heard, .instanceMethod yX8_heard, .selects yX8_heard.cls yX8_heard yX8_heard, .initialized yX8_heard.cls] : List Cond), w ∈ TT := TT_by [609, 610, 611, 28] (by decide +kernel) rfl
set_option maxRecDepth 20000 in
theorem cf_L_104 : ∀ w ∈ ([.methodLink RL 104 yX9_heard, .instanceMethod yX9_heard, .selects yX9_heard.cls yX9_heard yX9_heard, .initialized yX9_heard.cls] : List Cond), w ∈ TT := TT_by [866, 867, 868, 37] (by decide +kernel) rfl
set_option maxRecDepth 20000 in
theorem cf_L_105 : ∀ w ∈ ([.methodLink RL 105 yX8_found, .instanceMethod yX8_found, .selects yX8_found.cls yX8_found yX8_found, .initialized yX8_found.cls] : List Cond), w ∈ TT := TT_by [613, 614, 615, 28] (by decide +kernel) rfl
set_option maxRecDepth 20000 in
theorem cf_L_108 : ∀ w ∈ ([.methodLink RL 108 yX9_found, .instanceMethod yX9_found, .selects yX9_found.cls yX9_found yX9_found, .initialized yX9_found.cls] : List Cond), w ∈ TT := TT_by [870, 871, 872, 37] (by decide +kernel) rfl
set_option maxRecDepth 20000 in
theorem cf_L_109 : ∀ w ∈ ([.methodLink RL 109 yX8_cost, .instanceMethod yX8_cost, .selects yX8_cost.cls yX8_cost yX8_cost, .initialized yX8_cost.cls] : List Cond), w ∈ TT := TT_by [621, 622, 623, 28] (by decide +kernel) rfl
set_option maxRecDepth 20000 in
theorem cf_L_112 : ∀ w ∈ ([.methodLink RL 112 yX9_cost, .instanceMethod yX9_cost, .selects yX9_cost.cls yX9_cost yX9_cost, .initialized yX9_cost.cls] : List Cond), w ∈ TT := TT_by [874, 875, 876, 37] (by decide +kernel) rfl
set_option maxRecDepth 20000 in
theorem cf_L_113 : ∀ w ∈ ([.methodLink RL 113 yX8_count, .instanceMethod yX8_count, .selects yX8_count.cls yX8_count yX8_count, .initialized yX8_count.cls] : List Cond), w ∈ TT := TT_by [629, 630, 631, 28] (by decide +kernel) rfl
set_option maxRecDepth 20000 in
theorem cf_L_116 : ∀ w ∈ ([.methodLink RL 116 yX9_count, .instanceMethod yX9_count, .selects yX9_count.cls yX9_count yX9_count, .initialized yX9_count.cls] : List Cond), w ∈ TT := TT_by [878, 879, 880, 37] (by decide +kernel) rfl
set_option maxRecDepth 20000 in
theorem cf_L_117 : ∀ w ∈ ([.methodLink RL 117 yX8_image, .instanceMethod yX8_image, .selects yX8_image.cls yX8_image yX8_image, .initialized yX8_image.cls] : List Cond), w ∈ TT := TT_by [633, 634, 635, 28] (by decide +kernel) rfl
set_option maxRecDepth 20000 in
theorem cf_L_120 : ∀ w ∈ ([.methodLink RL 120 yX9_image, .instanceMethod yX9_image, .selects yX9_image.cls yX9_image yX9_image, .initialized yX9_image.cls] : List Cond), w ∈ TT := TT_by [882, 883, 884, 37] (by decide +kernel) rfl
set_option maxRecDepth 20000 in
theorem cf_L_121 : ∀ w ∈ ([.methodLink RL 121 yX8_again, .instanceMethod yX8_again, .selects yX8_again.cls yX8_again yX8_again, .initialized yX8_again.cls] : List Cond), w ∈ TT := TT_by [669, 670, 671, 28] (by decide +kernel) rfl
set_option maxRecDepth 20000 in
theorem cf_L_124 : ∀ w ∈ ([.methodLink RL 124 yX9_again, .instanceMethod yX9_again, .selects yX9_again.cls yX9_again yX9_again, .initialized yX9_again.cls] : List Cond), w ∈ TT := TT_by [886, 887, 888, 37] (by decide +kernel) rfl
set_option maxRecDepth 20000 in
theorem cd_J13_bitCount_95d88 : Cond.code yJ13_bitCount_95d88 cJ13_bitCount_95d88 2 (some .int) ∈ TT := TT_mem 375 (by decide +kernel) rfl
set_option maxRecDepth 20000 in
theorem dd_J13_bitCount_95d88 : yJ13_bitCount_95d88.cls ≠ "java/lang/invoke/MethodHandle" ∧ yJ13_bitCount_95d88.cls ≠ "java/lang/invoke/VarHandle" ∧ (parseMethodDescriptor yJ13_bitCount_95d88.desc).map (fun d => d.parameters.length) = some 1 := by decide +kernel
set_option maxRecDepth 20000 in
theorem cd_J9_max_7cf53 : Cond.code yJ9_max_7cf53 cJ9_max_7cf53 2 (some .int) ∈ TT := TT_mem 545 (by decide +kernel) rfl
set_option maxRecDepth 20000 in
theorem dd_J9_max_7cf53 : yJ9_max_7cf53.cls ≠ "java/lang/invoke/MethodHandle" ∧ yJ9_max_7cf53.cls ≠ "java/lang/invoke/VarHandle" ∧ (parseMethodDescriptor yJ9_max_7cf53.desc).map (fun d => d.parameters.length) = some 2 := by decide +kernel
set_option maxRecDepth 20000 in
theorem cd_J9_min_7cf53 : Cond.code yJ9_min_7cf53 cJ9_min_7cf53 2 (some .int) ∈ TT := TT_mem 607 (by decide +kernel) rfl
set_option maxRecDepth 20000 in
theorem dd_J9_min_7cf53 : yJ9_min_7cf53.cls ≠ "java/lang/invoke/MethodHandle" ∧ yJ9_min_7cf53.cls ≠ "java/lang/invoke/VarHandle" ∧ (parseMethodDescriptor yJ9_min_7cf53.desc).map (fun d => d.parameters.length) = some 2 := by decide +kernel
set_option maxRecDepth 20000 in
theorem cd_J7_fill_53178 : Cond.code yJ7_fill_53178 cJ7_fill_53178 4 none ∈ TT := TT_mem 525 (by decide +kernel) rfl
set_option maxRecDepth 20000 in
theorem dd_J7_fill_53178 : yJ7_fill_53178.cls ≠ "java/lang/invoke/MethodHandle" ∧ yJ7_fill_53178.cls ≠ "java/lang/invoke/VarHandle" ∧ (parseMethodDescriptor yJ7_fill_53178.desc).map (fun d => d.parameters.length) = some 2 := by decide +kernel
set_option maxRecDepth 20000 in
theorem cd_J7_fill_d0a16 : Cond.code yJ7_fill_d0a16 cJ7_fill_d0a16 5 none ∈ TT := TT_mem 587 (by decide +kernel) rfl
set_option maxRecDepth 20000 in
theorem dd_J7_fill_d0a16 : yJ7_fill_d0a16.cls ≠ "java/lang/invoke/MethodHandle" ∧ yJ7_fill_d0a16.cls ≠ "java/lang/invoke/VarHandle" ∧ (parseMethodDescriptor yJ7_fill_d0a16.desc).map (fun d => d.parameters.length) = some 2 := by decide +kernel
set_option maxRecDepth 20000 in
theorem ld_J13_314 : Cond.constantLong RJ13 314 (6148914691236517205) ∈ TT := TT_mem 376 (by decide +kernel) rfl
set_option maxRecDepth 20000 in
theorem ld_J13_316 : Cond.constantLong RJ13 316 (3689348814741910323) ∈ TT := TT_mem 377 (by decide +kernel) rfl
set_option maxRecDepth 20000 in
theorem ld_J13_318 : Cond.constantLong RJ13 318 (1085102592571150095) ∈ TT := TT_mem 378 (by decide +kernel) rfl
set_option maxRecDepth 20000 in
theorem ac_int : Cond.arrayClass .int ∈ TT := TT_mem 103 (by decide +kernel) rfl
set_option maxRecDepth 20000 in
theorem ac_long : Cond.arrayClass .long ∈ TT := TT_mem 104 (by decide +kernel) rfl
set_option maxRecDepth 20000 in
theorem ac_boolean : Cond.arrayClass .boolean ∈ TT := TT_mem 707 (by decide +kernel) rfl
end
section
def mW (q : Nat → Nat) (kc : Nat → ClassId) (a : Nat → Int32) (w : Nat → Int64) (hs : Nat → Int32) (inn : Nat → Int32) (sp : Nat → Int32) (lone : Int32) (lt : Nat → Int64) (lz : Nat → Int32) (dr : Nat → Int32) : va_W := [(q 0, .inr (9, [.ref (q 1), .ref (q 2), .ref (q 3), .ref (q 4), .ref (q 5), .int lone, .ref (q 6), .ref (q 7), .ref (q 8)])), (q 1, .inl (kc 1, 2700, .inl a)), (q 2, .inl (kc 2, 620, .inr (.inl w))), (q 3, .inl (kc 3, 4, .inl hs)), (q 4, .inl (kc 4, 40, .inl inn)), (q 5, .inl (kc 5, 40, .inl sp)), (q 6, .inl (kc 6, 80, .inr (.inl lt))), (q 7, .inl (kc 7, 80, .inl lz)), (q 8, .inl (kc 8, 40, .inl dr))]
def tagW (qT : Nat → Nat) (kT : Nat → ClassId) (kinds : Nat → Int32) (names : Nat → Int64) (seeds : Nat → Int32) (ones : Nat → Int64) (ofk : Nat → Int64) (sz : Int32) (there : Int64) (awake : Int64) (grp : Int64) (gm : Int64) (gb : Int64) : va_W := [(qT 0, .inr (6, [.ref (qT 1), .ref (qT 2), .ref (qT 3), .ref (qT 4), .ref (qT 5), .int sz, .long there, .long awake, .long grp, .long gm, .long gb])), (qT 1, .inl (kT 1, 40, .inl kinds)), (qT 2, .inl (kT 2, 40, .inr (.inl names))), (qT 3, .inl (kT 3, 40, .inl seeds)), (qT 4, .inl (kT 4, 64, .inr (.inl ones))), (qT 5, .inl (kT 5, 6, .inr (.inl ofk)))]
def pasW (p0 : Nat) (lf : Int32) (ir : Int32) (ln : Int64) : va_W := [(p0, .inr (3, [.int lf, .int ir, .long ln]))]
def pilW (qL : Nat → Nat) (kL : Nat → ClassId) (rows : Nat → Int64) (lens : Nat → Int32) (psz : Int32) : va_W := [(qL 0, .inr (4, [.ref (qL 1), .ref (qL 2), .int psz])), (qL 1, .inl (kL 1, 65, .inr (.inl rows))), (qL 2, .inl (kL 2, 65, .inl lens))]
def cntW (qK : Nat → Nat) (kK : Nat → ClassId) (vals : Nat → Int32) (hold : Int64) (call : Int32) : va_W := [(qK 0, .inr (0, [.ref (qK 1), .long hold, .int call])), (qK 1, .inl (kK 1, 40, .inl vals))]
def frmW (f0 : Nat) (fio : Int64) (fqu : Int32) (fal : Int32) (fco : Int32) (fgu : Int32) : va_W := [(f0, .inr (2, [.long fio, .int fqu, .int fal, .int fco, .int fgu]))]
def talW (qY : Nat → Nat) (kY : Nat → ClassId) (ft : Nat → Int32) (fs : Int32) (qs : Int32) (als : Int32) (cs : Int32) (ps : Int32) : va_W := [(qY 0, .inr (7, [.ref (qY 1), .int fs, .int qs, .int als, .int cs, .int ps])), (qY 1, .inl (kY 1, 200, .inl ft))]
def crdW (qC : Nat → Nat) (kC : Nat → ClassId) (pr : Nat → Int64) (nx : Nat → Int64) (ns : Int32) (csz : Int32) : va_W := [(qC 0, .inr (1, [.ref (qC 1), .ref (qC 2), .int ns, .int csz])), (qC 1, .inl (kC 1, 20, .inr (.inl pr))), (qC 2, .inl (kC 2, 20, .inr (.inl nx)))]
def staW (s0 : Nat) (qT : Nat → Nat) (kT : Nat → ClassId) (kinds : Nat → Int32) (names : Nat → Int64) (seeds : Nat → Int32) (ones : Nat → Int64) (ofk : Nat → Int64) (sz : Int32) (there : Int64) (awake : Int64) (grp : Int64) (gm : Int64) (gb : Int64) (p0 : Nat) (lf : Int32) (ir : Int32) (ln : Int64) (qL : Nat → Nat) (kL : Nat → ClassId) (rows : Nat → Int64) (lens : Nat → Int32) (psz : Int32) (qK : Nat → Nat) (kK : Nat → ClassId) (vals : Nat → Int32) (hold : Int64) (call : Int32) (f0 : Nat) (fio : Int64) (fqu : Int32) (fal : Int32) (fco : Int32) (fgu : Int32) (qY : Nat → Nat) (kY : Nat → ClassId) (ft : Nat → Int32) (fs : Int32) (qs : Int32) (als : Int32) (cs : Int32) (ps : Int32) (wire : Int32) (alo : Int32) : va_W := [(s0, .inr (5, [.ref (qT 0), .ref p0, .ref (qL 0), .ref (qK 0), .ref f0, .ref (qY 0), .int wire, .int alo])), (qT 0, .inr (6, [.ref (qT 1), .ref (qT 2), .ref (qT 3), .ref (qT 4), .ref (qT 5), .int sz, .long there, .long awake, .long grp, .long gm, .long gb])), (qT 1, .inl (kT 1, 40, .inl kinds)), (qT 2, .inl (kT 2, 40, .inr (.inl names))), (qT 3, .inl (kT 3, 40, .inl seeds)), (qT 4, .inl (kT 4, 64, .inr (.inl ones))), (qT 5, .inl (kT 5, 6, .inr (.inl ofk))), (p0, .inr (3, [.int lf, .int ir, .long ln])), (qL 0, .inr (4, [.ref (qL 1), .ref (qL 2), .int psz])), (qL 1, .inl (kL 1, 65, .inr (.inl rows))), (qL 2, .inl (kL 2, 65, .inl lens)), (qK 0, .inr (0, [.ref (qK 1), .long hold, .int call])), (qK 1, .inl (kK 1, 40, .inl vals)), (f0, .inr (2, [.long fio, .int fqu, .int fal, .int fco, .int fgu])), (qY 0, .inr (7, [.ref (qY 1), .int fs, .int qs, .int als, .int cs, .int ps])), (qY 1, .inl (kY 1, 200, .inl ft))]
def rolW (r0 : Nat) (ri : Nat) (rs : Nat) (kS : ClassId) (sl : Nat → Int64) (qC : Nat → Nat) (kC : Nat → ClassId) (pr : Nat → Int64) (nx : Nat → Int64) (ns : Int32) (csz : Int32) (s0 : Nat) (qT : Nat → Nat) (kT : Nat → ClassId) (kinds : Nat → Int32) (names : Nat → Int64) (seeds : Nat → Int32) (ones : Nat → Int64) (ofk : Nat → Int64) (sz : Int32) (there : Int64) (awake : Int64) (grp : Int64) (gm : Int64) (gb : Int64) (p0 : Nat) (lf : Int32) (ir : Int32) (ln : Int64) (qL : Nat → Nat) (kL : Nat → ClassId) (rows : Nat → Int64) (lens : Nat → Int32) (psz : Int32) (qK : Nat → Nat) (kK : Nat → ClassId) (vals : Nat → Int32) (hold : Int64) (call : Int32) (f0 : Nat) (fio : Int64) (fqu : Int32) (fal : Int32) (fco : Int32) (fgu : Int32) (qY : Nat → Nat) (kY : Nat → ClassId) (ft : Nat → Int32) (fs : Int32) (qs : Int32) (als : Int32) (cs : Int32) (ps : Int32) (wire : Int32) (alo : Int32) : va_W := [(r0, .inr (8, [.ref s0, .ref ri, .ref rs, .ref (qC 0)])), (rs, .inl (kS, 64, .inr (.inl sl))), (qC 0, .inr (1, [.ref (qC 1), .ref (qC 2), .int ns, .int csz])), (qC 1, .inl (kC 1, 20, .inr (.inl pr))), (qC 2, .inl (kC 2, 20, .inr (.inl nx))), (s0, .inr (5, [.ref (qT 0), .ref p0, .ref (qL 0), .ref (qK 0), .ref f0, .ref (qY 0), .int wire, .int alo])), (qT 0, .inr (6, [.ref (qT 1), .ref (qT 2), .ref (qT 3), .ref (qT 4), .ref (qT 5), .int sz, .long there, .long awake, .long grp, .long gm, .long gb])), (qT 1, .inl (kT 1, 40, .inl kinds)), (qT 2, .inl (kT 2, 40, .inr (.inl names))), (qT 3, .inl (kT 3, 40, .inl seeds)), (qT 4, .inl (kT 4, 64, .inr (.inl ones))), (qT 5, .inl (kT 5, 6, .inr (.inl ofk))), (p0, .inr (3, [.int lf, .int ir, .long ln])), (qL 0, .inr (4, [.ref (qL 1), .ref (qL 2), .int psz])), (qL 1, .inl (kL 1, 65, .inr (.inl rows))), (qL 2, .inl (kL 2, 65, .inl lens)), (qK 0, .inr (0, [.ref (qK 1), .long hold, .int call])), (qK 1, .inl (kK 1, 40, .inl vals)), (f0, .inr (2, [.long fio, .int fqu, .int fal, .int fco, .int fgu])), (qY 0, .inr (7, [.ref (qY 1), .int fs, .int qs, .int als, .int cs, .int ps])), (qY 1, .inl (kY 1, 200, .inl ft))]
section AWM
variable {p : Program} {l : Launch} {e : Env} {R : Room} {s : State} {m : MethodId} {args : Array Value} {below : List Frame} {meth : Method} {c : Code} {cc : ByteArray} {nL : Nat} {ret : Option FieldType} {own : String} {D : va_G} {tys : List (ClassId × FieldType)} {A : Nat → Prop} {cells slots : Nat} {Q : State → Prop} {pc : Nat} {lv : List (Nat × Value)} {st : List Value} {ws : va_W}
/-- fewer locals, in any order, by their places -/
theorem aw_sub {lv' : List (Nat × Value)} (ks : List Nat) (h : lv_pick lv ks = lv') (k : AW p l e R s m args below meth c D A nL cells slots Q pc lv' st ws) : AW p l e R s m args below meth c D A nL cells slots Q pc lv st ws := fun H locs ls h1 h2 h3 hl => k H locs ls h1 h2 h3 (lv_sub hl ks h)
theorem aw_copyi (X : Cx p s m args meth c cc nL ret own D tys A) {index : Nat} {x : Int32} {ws' : va_W} (n : Nat) (hx : x = nI n) (q0 q1 t0 t1 : Nat) {a a0 : Nat} {c0 c1 : ClassId} {n0 n1 : Nat} {f g : Nat → Int32} (ha0 : ws[q0]? = some (a0, .inl (c0, n0, .inl f))) (ha1 : ws[q1]? = some (a, .inl (c1, n1, .inl g))) (ht0 : tys[t0]? = some (c0, .int)) (ht1 : tys[t1]? = some (c1, .int)) (h4 : n ≤ n0 ∧ n ≤ n1) (hn : n < 2 ^ 31) (hg : ∀ w ∈ ([.methodLink own index arraycopyName, .native arraycopyName, .static arraycopyName, .initialized "java/lang/System"] : List Cond), w ∈ TT) (hfr : 1 ≤ R.frames) (hlo : (st.map fun v => v.category).sum + (nativeFrameWords "java/lang/System" "arraycopy" 5 + 11) ≤ R.locals) (hws : ws.set q1 (a, .inl (c1, n1, .inl (va_cpy f g 0 0 n))) = ws') (hd : decode cc pc = .ok (.invokestatic index, 3)) (k : AW p l e R s m args below meth c D A nL cells slots Q (pc + 3) lv st ws') : AW p l e R s m args below meth c D A nL cells slots Q pc lv (.int x :: .int 0 :: .ref a :: .int 0 :: .ref a0 :: st) ws := by
  subst hx; subst hws
  intro H locs ls h1 h2 h3 hl
  have e0 : (0 : Int32).toNatClampNeg = 0 := rfl
  have en : (nI n).toNatClampNeg = n := nI_clamp hn
  refine va_copyi X.1.1 X.1.2.1 (X.1.2.2.1.trans hl.1.symm) X.1.2.2.2.1 (X.1.2.2.2.2 _ (hg _ List.mem_cons_self)) (X.1.2.2.2.2 _ (hg _ (List.mem_cons_of_mem _ List.mem_cons_self))) (X.1.2.2.2.2 _ (hg _ (List.mem_cons_of_mem _ (List.mem_cons_of_mem _ List.mem_cons_self)))) (X.1.2.2.2.2 _ (hg _ (List.mem_cons_of_mem _ (List.mem_cons_of_mem _ (List.mem_cons_of_mem _ List.mem_cons_self))))) X.2.2.2.1.1 h1 h2 h3 q0 q1 t0 t1 ha0 ha1 ht0 ht1 rfl (by decide) (by decide) (nI_pos hn) (by rw [e0, en]; omega) (by rw [e0, en]; omega) (fun i hi => rfl) hfr hlo hd ?_
  rw [e0, en]
  exact fun H1 locs1 g1 g2 g3 => k H1 locs1 ls g1 g2 g3 hl
theorem aw_copyl (X : Cx p s m args meth c cc nL ret own D tys A) {index : Nat} {x : Int32} {ws' : va_W} (n : Nat) (hx : x = nI n) (q0 q1 t0 t1 : Nat) {a a0 : Nat} {c0 c1 : ClassId} {n0 n1 : Nat} {f g : Nat → Int64} (ha0 : ws[q0]? = some (a0, .inl (c0, n0, .inr (.inl f)))) (ha1 : ws[q1]? = some (a, .inl (c1, n1, .inr (.inl g)))) (ht0 : tys[t0]? = some (c0, .long)) (ht1 : tys[t1]? = some (c1, .long)) (h4 : n ≤ n0 ∧ n ≤ n1) (hn : n < 2 ^ 31) (hg : ∀ w ∈ ([.methodLink own index arraycopyName, .native arraycopyName, .static arraycopyName, .initialized "java/lang/System"] : List Cond), w ∈ TT) (hfr : 1 ≤ R.frames) (hlo : (st.map fun v => v.category).sum + (nativeFrameWords "java/lang/System" "arraycopy" 5 + 11) ≤ R.locals) (hws : ws.set q1 (a, .inl (c1, n1, .inr (.inl (va_cpy f g 0 0 n)))) = ws') (hd : decode cc pc = .ok (.invokestatic index, 3)) (k : AW p l e R s m args below meth c D A nL cells slots Q (pc + 3) lv st ws') : AW p l e R s m args below meth c D A nL cells slots Q pc lv (.int x :: .int 0 :: .ref a :: .int 0 :: .ref a0 :: st) ws := by
  subst hx; subst hws
  intro H locs ls h1 h2 h3 hl
  have e0 : (0 : Int32).toNatClampNeg = 0 := rfl
  have en : (nI n).toNatClampNeg = n := nI_clamp hn
  refine va_copyl X.1.1 X.1.2.1 (X.1.2.2.1.trans hl.1.symm) X.1.2.2.2.1 (X.1.2.2.2.2 _ (hg _ List.mem_cons_self)) (X.1.2.2.2.2 _ (hg _ (List.mem_cons_of_mem _ List.mem_cons_self))) (X.1.2.2.2.2 _ (hg _ (List.mem_cons_of_mem _ (List.mem_cons_of_mem _ List.mem_cons_self)))) (X.1.2.2.2.2 _ (hg _ (List.mem_cons_of_mem _ (List.mem_cons_of_mem _ (List.mem_cons_of_mem _ List.mem_cons_self))))) X.2.2.2.1.1 h1 h2 h3 q0 q1 t0 t1 ha0 ha1 ht0 ht1 rfl (by decide) (by decide) (nI_pos hn) (by rw [e0, en]; omega) (by rw [e0, en]; omega) (fun i hi => rfl) hfr hlo hd ?_
  rw [e0, en]
  exact fun H1 locs1 g1 g2 g3 => k H1 locs1 ls g1 g2 g3 hl
end AWM
theorem lpW_go {σ : Type} {go : Nat → σ → Bool} {body : Nat → σ → σ} {n k : Nat} {s : σ} (h : go k s = true) : lpW go body (n + 1) k s = lpW go body n (k + 1) (body k s) := if_pos h
theorem lpW_stop {σ : Type} {go : Nat → σ → Bool} {body : Nat → σ → σ} {n k : Nat} {s : σ} (h : go k s = false) : lpW go body (n + 1) k s = (k, s) := if_neg (by rw [h]; decide)
theorem nn_m1 {x : Int32} {a : Nat} (hx : x = nI a) (h : 0 < a) : x + Int32.ofInt (-1) = nI (a - 1) := by
  subst hx
  obtain ⟨b, rfl⟩ : ∃ b, a = b + 1 := ⟨a - 1, by omega⟩
  exact pk_m1 b
theorem nn_le {x y : Int32} {a b : Nat} (hx : x = nI a) (hy : y = nI b) (h : a ≤ b) (hb : b < 2 ^ 31) : x ≤ y := by subst hx; subst hy; exact nI_le h hb
theorem nn_nle {x y : Int32} {a b : Nat} (hx : x = nI a) (hy : y = nI b) (h : b < a) (ha : a < 2 ^ 31) : ¬ x ≤ y := by subst hx; subst hy; exact nI_ge h ha
theorem nn_lt {x y : Int32} {a b : Nat} (hx : x = nI a) (hy : y = nI b) (h : a < b) (hb : b < 2 ^ 31) : x < y := by subst hx; subst hy; exact nI_lt h hb
theorem nn_nlt {x y : Int32} {a b : Nat} (hx : x = nI a) (hy : y = nI b) (h : b ≤ a) (ha : a < 2 ^ 31) : ¬ x < y := by subst hx; subst hy; exact nI_nlt h ha
theorem nn_eq {x y : Int32} {a b : Nat} (hx : x = nI a) (hy : y = nI b) (h : a = b) : x = y := by subst hx; subst hy; subst h; rfl
theorem nn_ne {x y : Int32} {a b : Nat} (hx : x = nI a) (hy : y = nI b) (h : a ≠ b) (ha : a < 2 ^ 31) (hb : b < 2 ^ 31) : ¬ x = y := by subst hx; subst hy; exact fun z => h ((nI_eq ha hb).mp z)
theorem tb_ne {x : Int32} {k : Int32} (h : ¬ x = k) : ¬ x.toInt = k.toInt := fun z => h (Int32.toInt_inj.mp z)
theorem tb_out1 {x : Int32} (h0 : ¬ x = 0) (h1 : ¬ x = 1) : x.toInt < 0 ∨ 1 < x.toInt := by
  have a0 : ¬ x.toInt = 0 := tb_ne (k := 0) h0
  have a1 : ¬ x.toInt = 1 := tb_ne (k := 1) h1
  omega
theorem tb_out3 {x : Int32} (h0 : ¬ x = 0) (h1 : ¬ x = 1) (h2 : ¬ x = 2) (h3 : ¬ x = 3) : x.toInt < 0 ∨ 3 < x.toInt := by
  have a0 : ¬ x.toInt = 0 := tb_ne (k := 0) h0
  have a1 : ¬ x.toInt = 1 := tb_ne (k := 1) h1
  have a2 : ¬ x.toInt = 2 := tb_ne (k := 2) h2
  have a3 : ¬ x.toInt = 3 := tb_ne (k := 3) h3
  omega
theorem tb_out4 {x : Int32} (h0 : ¬ x = 0) (h1 : ¬ x = 1) (h2 : ¬ x = 2) (h3 : ¬ x = 3) (h4 : ¬ x = 4) : x.toInt < 0 ∨ 4 < x.toInt := by
  have a0 : ¬ x.toInt = 0 := tb_ne (k := 0) h0
  have a1 : ¬ x.toInt = 1 := tb_ne (k := 1) h1
  have a2 : ¬ x.toInt = 2 := tb_ne (k := 2) h2
  have a3 : ¬ x.toInt = 3 := tb_ne (k := 3) h3
  have a4 : ¬ x.toInt = 4 := tb_ne (k := 4) h4
  omega
theorem tb_out6 {x : Int32} (h0 : ¬ x = 0) (h1 : ¬ x = 1) (h2 : ¬ x = 2) (h3 : ¬ x = 3) (h4 : ¬ x = 4) (h5 : ¬ x = 5) (h6 : ¬ x = 6) : x.toInt < 0 ∨ 6 < x.toInt := by
  have a0 : ¬ x.toInt = 0 := tb_ne (k := 0) h0
  have a1 : ¬ x.toInt = 1 := tb_ne (k := 1) h1
  have a2 : ¬ x.toInt = 2 := tb_ne (k := 2) h2
  have a3 : ¬ x.toInt = 3 := tb_ne (k := 3) h3
  have a4 : ¬ x.toInt = 4 := tb_ne (k := 4) h4
  have a5 : ¬ x.toInt = 5 := tb_ne (k := 5) h5
  have a6 : ¬ x.toInt = 6 := tb_ne (k := 6) h6
  omega
theorem nar_01 {x : Int32} (h : x = 0 ∨ x = 1) : vp_nar .boolean x = x := by rcases h with rfl | rfl <;> rfl
theorem nrw_01 {x : Int32} (h : x = 0 ∨ x = 1) : narrow .boolean (.int x) = .int x := by rcases h with rfl | rfl <;> rfl
def anyB (p : Nat → Bool) : Nat → Bool
  | 0 => false
  | n + 1 => anyB p n || p n
theorem anyB_of {p : Nat → Bool} : ∀ {n k : Nat}, k < n → p k = true → anyB p n = true
  | 0, k, h, _ => absurd h (Nat.not_lt_zero k)
  | n + 1, k, h, hp => by
    show (anyB p n || p n) = true
    rcases Nat.lt_or_ge k n with q | q
    · rw [anyB_of q hp]; rfl
    · have e : k = n := by omega
      subst e
      rw [hp]; simp
theorem anyB_not {p : Nat → Bool} : ∀ {n : Nat}, (∀ j, j < n → p j = false) → anyB p n = false
  | 0, _ => rfl
  | n + 1, h => by
    show (anyB p n || p n) = false
    rw [anyB_not (fun j hj => h j (by omega)), h n (by omega)]; rfl
theorem anyB_yes {P : Nat → Prop} [DecidablePred P] {n k : Nat} (h : k < n) (hp : P k) : anyB (fun j => decide (P j)) n = true := anyB_of h (by simp [hp])
theorem anyB_no {P : Nat → Prop} [DecidablePred P] {n : Nat} (h : ∀ j, j < n → ¬ P j) : ¬ anyB (fun j => decide (P j)) n = true := by
  rw [anyB_not (fun j hj => by simp [h j hj])]; simp
theorem ite_01 {c : Prop} {inst : Decidable c} : (@ite Int32 c inst 1 0) = 0 ∨ (@ite Int32 c inst 1 0) = 1 := by by_cases h : c <;> simp [h]
theorem ite_10 {c : Prop} {inst : Decidable c} : (@ite Int32 c inst 0 1) = 0 ∨ (@ite Int32 c inst 0 1) = 1 := by by_cases h : c <;> simp [h]
end
section
def r_X9_isIn (v : Int32) (most : Int32) : Int32 := if v < 0 then 0 else (if most ≤ v then 0 else 1)
theorem z_X9_isIn (v : Int32) (most : Int32) : r_X9_isIn v most = 0 ∨ r_X9_isIn v most = 1 := by unfold r_X9_isIn; (repeat (split <;> try first | exact Or.inl rfl | exact Or.inr rfl)) <;> first | exact Or.inl rfl | exact Or.inr rfl
abbrev rm_X9_isIn : Room := { frames := 0, cells := 0, slots := 0, locals := 0 }
set_option maxHeartbeats 4000000 in
set_option maxRecDepth 100000 in
theorem c_X9_isIn (l : Launch) (D : va_G) (v : Int32) (most : Int32)  : MW l D yX9_isIn (Cond.code yX9_isIn cX9_isIn 2 (some .boolean) :: TT) rm_X9_isIn [.int v, .int most] [] [] (some (.int (r_X9_isIn v most))) [] := by
  refine MW.of (cc := cX9_isIn) (nL := 2) (ret := (some .boolean)) (lv := [(0, .int v), (1, .int most)]) (by decide) rfl rfl (Nat.le_of_ble_eq_true rfl) ?_
  intro p e s m args below meth c A Q hQ X
  refine aw_iload_n X (pc := 0) 0 rfl rfl dX9_isIn_0 ?_
  refine aw_if_lt X (pc := 1) (tgt := 13) (by decide) dX9_isIn_1 (fun c1 => ?_) (fun c1 => ?_)
  · refine aw_iconst X (pc := 13) (v := 0) dX9_isIn_13 (by decide) ?_
    exact aw_zret X (v := 0) rfl hQ (by simp only [r_X9_isIn, if_pos c1]; try rfl) rfl dX9_isIn_14
  · refine aw_iload_n X (pc := 4) 0 rfl rfl dX9_isIn_4 ?_
    refine aw_iload_n X (pc := 5) 1 rfl rfl dX9_isIn_5 ?_
    refine aw_icmp_ge X (pc := 6) (tgt := 13) (by decide) dX9_isIn_6 (fun c2 => ?_) (fun c2 => ?_)
    · refine aw_iconst X (pc := 13) (v := 0) dX9_isIn_13 (by decide) ?_
      exact aw_zret X (v := 0) rfl hQ (by simp only [r_X9_isIn, if_neg c1, if_pos c2]; try rfl) rfl dX9_isIn_14
    · refine aw_iconst X (pc := 9) (v := 1) dX9_isIn_9 (by decide) ?_
      refine aw_goto X (pc := 10) (tgt := 14) (by decide) dX9_isIn_10 ?_
      exact aw_zret X (v := 1) rfl hQ (by simp only [r_X9_isIn, if_neg c1, if_neg c2]; try rfl) rfl dX9_isIn_14

def r_X9_bitOf (name : Int64) (i : Int32) : Int32 := (((name.toUInt64 >>> ((63 - i).toInt64.toUInt64 &&& Int64.toUInt64 63)).toInt64).toInt32) &&& 1
abbrev rm_X9_bitOf : Room := { frames := 0, cells := 0, slots := 0, locals := 0 }
set_option maxHeartbeats 4000000 in
set_option maxRecDepth 100000 in
theorem c_X9_bitOf (l : Launch) (D : va_G) (name : Int64) (i : Int32)  : MW l D yX9_bitOf (Cond.code yX9_bitOf cX9_bitOf 3 (some .int) :: TT) rm_X9_bitOf [.long name, .int i] [] [] (some (.int (r_X9_bitOf name i))) [] := by
  refine MW.of (cc := cX9_bitOf) (nL := 3) (ret := (some .int)) (lv := [(0, .long name), (2, .int i)]) (by decide) rfl rfl (Nat.le_of_ble_eq_true rfl) ?_
  intro p e s m args below meth c A Q hQ X
  refine aw_lload_n X (pc := 0) 0 rfl rfl dX9_bitOf_0 ?_
  refine aw_bipush X (pc := 1) (v := 63) dX9_bitOf_1 (by decide) ?_
  refine aw_iload_n X (pc := 3) 1 rfl rfl dX9_bitOf_3 ?_
  refine aw_isub X (pc := 4) (z := 63 - i) rfl  dX9_bitOf_4 ?_
  refine aw_lushr X (pc := 5) (z := (name.toUInt64 >>> ((63 - i).toInt64.toUInt64 &&& Int64.toUInt64 63)).toInt64) rfl dX9_bitOf_5 ?_
  refine aw_l2i X (pc := 6) (z := ((name.toUInt64 >>> ((63 - i).toInt64.toUInt64 &&& Int64.toUInt64 63)).toInt64).toInt32) rfl dX9_bitOf_6 ?_
  refine aw_iconst X (pc := 7) (v := 1) dX9_bitOf_7 (by decide) ?_
  refine aw_iand X (pc := 8) (z := (((name.toUInt64 >>> ((63 - i).toInt64.toUInt64 &&& Int64.toUInt64 63)).toInt64).toInt32) &&& 1) rfl  dX9_bitOf_8 ?_
  exact aw_iret X (v := (((name.toUInt64 >>> ((63 - i).toInt64.toUInt64 &&& Int64.toUInt64 63)).toInt64).toInt32) &&& 1) hQ rfl rfl dX9_bitOf_9

abbrev rm_X8_setOf : Room := { frames := 0, cells := 0, slots := 0, locals := 0 }
set_option maxHeartbeats 4000000 in
set_option maxRecDepth 100000 in
theorem c_X8_setOf (l : Launch) (D : va_G) (tag : Int32)  : MW l D yX8_setOf (Cond.code yX8_setOf cX8_setOf 1 (some .long) :: TT) rm_X8_setOf [.int tag] [] [] (some (.long ((1 : Int64) <<< (tag.toInt64 &&& 63)))) [] := by
  refine MW.of (cc := cX8_setOf) (nL := 1) (ret := (some .long)) (lv := [(0, .int tag)]) (by decide) rfl rfl (Nat.le_of_ble_eq_true rfl) ?_
  intro p e s m args below meth c A Q hQ X
  refine aw_lconst X (pc := 0) (v := 1) dX8_setOf_0 (by decide) ?_
  refine aw_iload_n X (pc := 1) 0 rfl rfl dX8_setOf_1 ?_
  refine aw_lshl X (pc := 2) (z := ((1 : Int64) <<< (tag.toInt64 &&& 63))) rfl dX8_setOf_2 ?_
  exact aw_lret X (v := ((1 : Int64) <<< (tag.toInt64 &&& 63))) hQ rfl rfl dX8_setOf_3

def r_X8_isIn (set : Int64) (tag : Int32) : Int32 := if lg_cmp (set &&& ((1 : Int64) <<< (tag.toInt64 &&& 63))) 0 = 0 then 0 else 1
theorem z_X8_isIn (set : Int64) (tag : Int32) : r_X8_isIn set tag = 0 ∨ r_X8_isIn set tag = 1 := by unfold r_X8_isIn; (repeat (split <;> try first | exact Or.inl rfl | exact Or.inr rfl)) <;> first | exact Or.inl rfl | exact Or.inr rfl
abbrev rm_X8_isIn : Room := { frames := 1, cells := 0, slots := 0, locals := 20 }
set_option maxHeartbeats 4000000 in
set_option maxRecDepth 100000 in
theorem c_X8_isIn (l : Launch) (D : va_G) (set : Int64) (tag : Int32)  : MW l D yX8_isIn (Cond.code yX8_isIn cX8_isIn 3 (some .boolean) :: TT) rm_X8_isIn [.long set, .int tag] [] [] (some (.int (r_X8_isIn set tag))) [] := by
  refine MW.of (cc := cX8_isIn) (nL := 3) (ret := (some .boolean)) (lv := [(0, .long set), (2, .int tag)]) (by decide) rfl rfl (Nat.le_of_ble_eq_true rfl) ?_
  intro p e s m args below meth c A Q hQ X
  refine aw_lload_n X (pc := 0) 0 rfl rfl dX8_isIn_0 ?_
  refine aw_iload_n X (pc := 1) 1 rfl rfl dX8_isIn_1 ?_
  refine aw_callS X (pc := 2) (rest := [.long set]) (st' := [.long ((1 : Int64) <<< (tag.toInt64 &&& 63)), .long set]) (ws' := []) (c_X8_setOf l D tag) rfl [] [] rfl rfl rfl rfl cf_X8_333 cd_X8_setOf dd_X8_setOf (by decide) (by decide) (by decide) rfl (Nat.le_of_ble_eq_true rfl) dX8_isIn_2 rfl ?_
  refine aw_land X (pc := 5) (z := set &&& ((1 : Int64) <<< (tag.toInt64 &&& 63))) rfl dX8_isIn_5 ?_
  refine aw_lconst X (pc := 6) (v := 0) dX8_isIn_6 (by decide) ?_
  refine aw_lcmp X (pc := 7) dX8_isIn_7 ?_
  refine aw_if_eq X (pc := 8) (tgt := 15) (by decide) dX8_isIn_8 (fun c1 => ?_) (fun c1 => ?_)
  · refine aw_iconst X (pc := 15) (v := 0) dX8_isIn_15 (by decide) ?_
    exact aw_zret X (v := 0) rfl hQ (by simp only [r_X8_isIn, if_pos c1]; try rfl) rfl dX8_isIn_16
  · refine aw_iconst X (pc := 11) (v := 1) dX8_isIn_11 (by decide) ?_
    refine aw_goto X (pc := 12) (tgt := 16) (by decide) dX8_isIn_12 ?_
    exact aw_zret X (v := 1) rfl hQ (by simp only [r_X8_isIn, if_neg c1]; try rfl) rfl dX8_isIn_16

def r_X8_oneIf (b : Int32) : Int32 := if b = 0 then 0 else 1
abbrev rm_X8_oneIf : Room := { frames := 0, cells := 0, slots := 0, locals := 0 }
set_option maxHeartbeats 4000000 in
set_option maxRecDepth 100000 in
theorem c_X8_oneIf (l : Launch) (D : va_G) (b : Int32)  : MW l D yX8_oneIf (Cond.code yX8_oneIf cX8_oneIf 1 (some .int) :: TT) rm_X8_oneIf [.int b] [] [] (some (.int (r_X8_oneIf b))) [] := by
  refine MW.of (cc := cX8_oneIf) (nL := 1) (ret := (some .int)) (lv := [(0, .int b)]) (by decide) rfl rfl (Nat.le_of_ble_eq_true rfl) ?_
  intro p e s m args below meth c A Q hQ X
  refine aw_iload_n X (pc := 0) 0 rfl rfl dX8_oneIf_0 ?_
  refine aw_if_eq X (pc := 1) (tgt := 8) (by decide) dX8_oneIf_1 (fun c1 => ?_) (fun c1 => ?_)
  · refine aw_iconst X (pc := 8) (v := 0) dX8_oneIf_8 (by decide) ?_
    exact aw_iret X (v := 0) hQ (by simp only [r_X8_oneIf, if_pos c1]; try rfl) rfl dX8_oneIf_9
  · refine aw_iconst X (pc := 4) (v := 1) dX8_oneIf_4 (by decide) ?_
    refine aw_goto X (pc := 5) (tgt := 9) (by decide) dX8_oneIf_5 ?_
    exact aw_iret X (v := 1) hQ (by simp only [r_X8_oneIf, if_neg c1]; try rfl) rfl dX8_oneIf_9

def r_X8_kindOfSlot (aud : Int64) : Nat := if lg_cmp aud 0 = 0 then 0 else (if lg_cmp (aud &&& (aud - 1)) 0 = 0 then 1 else 2)
abbrev rm_X8_kindOfSlot : Room := { frames := 0, cells := 0, slots := 0, locals := 0 }
set_option maxHeartbeats 4000000 in
set_option maxRecDepth 100000 in
theorem c_X8_kindOfSlot (l : Launch) (D : va_G) (aud : Int64)  : MW l D yX8_kindOfSlot (Cond.code yX8_kindOfSlot cX8_kindOfSlot 2 (some .int) :: TT) rm_X8_kindOfSlot [.long aud] [] [] (some (.int (nI (r_X8_kindOfSlot aud)))) [] := by
  refine MW.of (cc := cX8_kindOfSlot) (nL := 2) (ret := (some .int)) (lv := [(0, .long aud)]) (by decide) rfl rfl (Nat.le_of_ble_eq_true rfl) ?_
  intro p e s m args below meth c A Q hQ X
  refine aw_lload_n X (pc := 0) 0 rfl rfl dX8_kindOfSlot_0 ?_
  refine aw_lconst X (pc := 1) (v := 0) dX8_kindOfSlot_1 (by decide) ?_
  refine aw_lcmp X (pc := 2) dX8_kindOfSlot_2 ?_
  refine aw_if_ne X (pc := 3) (tgt := 8) (by decide) dX8_kindOfSlot_3 (fun c1 => ?_) (fun c1 => ?_)
  · refine aw_lload_n X (pc := 8) 0 rfl rfl dX8_kindOfSlot_8 ?_
    refine aw_lload_n X (pc := 9) 0 rfl rfl dX8_kindOfSlot_9 ?_
    refine aw_lconst X (pc := 10) (v := 1) dX8_kindOfSlot_10 (by decide) ?_
    refine aw_lsub X (pc := 11) (z := aud - 1) rfl dX8_kindOfSlot_11 ?_
    refine aw_land X (pc := 12) (z := aud &&& (aud - 1)) rfl dX8_kindOfSlot_12 ?_
    refine aw_lconst X (pc := 13) (v := 0) dX8_kindOfSlot_13 (by decide) ?_
    refine aw_lcmp X (pc := 14) dX8_kindOfSlot_14 ?_
    refine aw_if_ne X (pc := 15) (tgt := 22) (by decide) dX8_kindOfSlot_15 (fun c2 => ?_) (fun c2 => ?_)
    · refine aw_iconst X (pc := 22) (v := 2) dX8_kindOfSlot_22 (by decide) ?_
      exact aw_iret X (v := 2) hQ (by simp only [r_X8_kindOfSlot, if_neg c1, if_neg c2]; try rfl) rfl dX8_kindOfSlot_23
    · refine aw_iconst X (pc := 18) (v := 1) dX8_kindOfSlot_18 (by decide) ?_
      refine aw_goto X (pc := 19) (tgt := 23) (by decide) dX8_kindOfSlot_19 ?_
      exact aw_iret X (v := 1) hQ (by simp only [r_X8_kindOfSlot, if_neg c1, if_pos c2]; try rfl) rfl dX8_kindOfSlot_23
  · refine aw_iconst X (pc := 6) (v := 0) dX8_kindOfSlot_6 (by decide) ?_
    exact aw_iret X (v := 0) hQ (by simp only [r_X8_kindOfSlot, if_pos c1]; try rfl) rfl dX8_kindOfSlot_7

def r_X8_isOneAt (name : Int64) (bit : Int32) : Int32 := if lg_cmp (((name.toUInt64 >>> ((63 - bit).toInt64.toUInt64 &&& Int64.toUInt64 63)).toInt64) &&& 1) 1 = 0 then 1 else 0
theorem z_X8_isOneAt (name : Int64) (bit : Int32) : r_X8_isOneAt name bit = 0 ∨ r_X8_isOneAt name bit = 1 := by unfold r_X8_isOneAt; (repeat (split <;> try first | exact Or.inl rfl | exact Or.inr rfl)) <;> first | exact Or.inl rfl | exact Or.inr rfl
abbrev rm_X8_isOneAt : Room := { frames := 0, cells := 0, slots := 0, locals := 0 }
set_option maxHeartbeats 4000000 in
set_option maxRecDepth 100000 in
theorem c_X8_isOneAt (l : Launch) (D : va_G) (name : Int64) (bit : Int32)  : MW l D yX8_isOneAt (Cond.code yX8_isOneAt cX8_isOneAt 3 (some .boolean) :: TT) rm_X8_isOneAt [.long name, .int bit] [] [] (some (.int (r_X8_isOneAt name bit))) [] := by
  refine MW.of (cc := cX8_isOneAt) (nL := 3) (ret := (some .boolean)) (lv := [(0, .long name), (2, .int bit)]) (by decide) rfl rfl (Nat.le_of_ble_eq_true rfl) ?_
  intro p e s m args below meth c A Q hQ X
  refine aw_lload_n X (pc := 0) 0 rfl rfl dX8_isOneAt_0 ?_
  refine aw_bipush X (pc := 1) (v := 63) dX8_isOneAt_1 (by decide) ?_
  refine aw_iload_n X (pc := 3) 1 rfl rfl dX8_isOneAt_3 ?_
  refine aw_isub X (pc := 4) (z := 63 - bit) rfl  dX8_isOneAt_4 ?_
  refine aw_lushr X (pc := 5) (z := (name.toUInt64 >>> ((63 - bit).toInt64.toUInt64 &&& Int64.toUInt64 63)).toInt64) rfl dX8_isOneAt_5 ?_
  refine aw_lconst X (pc := 6) (v := 1) dX8_isOneAt_6 (by decide) ?_
  refine aw_land X (pc := 7) (z := ((name.toUInt64 >>> ((63 - bit).toInt64.toUInt64 &&& Int64.toUInt64 63)).toInt64) &&& 1) rfl dX8_isOneAt_7 ?_
  refine aw_lconst X (pc := 8) (v := 1) dX8_isOneAt_8 (by decide) ?_
  refine aw_lcmp X (pc := 9) dX8_isOneAt_9 ?_
  refine aw_if_ne X (pc := 10) (tgt := 17) (by decide) dX8_isOneAt_10 (fun c1 => ?_) (fun c1 => ?_)
  · refine aw_iconst X (pc := 17) (v := 0) dX8_isOneAt_17 (by decide) ?_
    exact aw_zret X (v := 0) rfl hQ (by simp only [r_X8_isOneAt, if_neg c1]; try rfl) rfl dX8_isOneAt_18
  · refine aw_iconst X (pc := 13) (v := 1) dX8_isOneAt_13 (by decide) ?_
    refine aw_goto X (pc := 14) (tgt := 18) (by decide) dX8_isOneAt_14 ?_
    exact aw_zret X (v := 1) rfl hQ (by simp only [r_X8_isOneAt, if_pos c1]; try rfl) rfl dX8_isOneAt_18

def r_X9_begins (name : Int64) (bits : Int64) (n : Int32) : Int32 := if n = 0 then 1 else (if lg_cmp (((name ^^^ bits).toUInt64 >>> ((64 - n).toInt64.toUInt64 &&& Int64.toUInt64 63)).toInt64) 0 = 0 then 1 else 0)
theorem z_X9_begins (name : Int64) (bits : Int64) (n : Int32) : r_X9_begins name bits n = 0 ∨ r_X9_begins name bits n = 1 := by unfold r_X9_begins; (repeat (split <;> try first | exact Or.inl rfl | exact Or.inr rfl)) <;> first | exact Or.inl rfl | exact Or.inr rfl
abbrev rm_X9_begins : Room := { frames := 0, cells := 0, slots := 0, locals := 0 }
set_option maxHeartbeats 4000000 in
set_option maxRecDepth 100000 in
theorem c_X9_begins (l : Launch) (D : va_G) (name : Int64) (bits : Int64) (n : Int32)  : MW l D yX9_begins (Cond.code yX9_begins cX9_begins 5 (some .boolean) :: TT) rm_X9_begins [.long name, .long bits, .int n] [] [] (some (.int (r_X9_begins name bits n))) [] := by
  refine MW.of (cc := cX9_begins) (nL := 5) (ret := (some .boolean)) (lv := [(0, .long name), (2, .long bits), (4, .int n)]) (by decide) rfl rfl (Nat.le_of_ble_eq_true rfl) ?_
  intro p e s m args below meth c A Q hQ X
  refine aw_iload X (pc := 0) 2 rfl dX9_begins_0 ?_
  refine aw_if_eq X (pc := 2) (tgt := 19) (by decide) dX9_begins_2 (fun c1 => ?_) (fun c1 => ?_)
  · refine aw_iconst X (pc := 19) (v := 1) dX9_begins_19 (by decide) ?_
    refine aw_goto X (pc := 20) (tgt := 24) (by decide) dX9_begins_20 ?_
    exact aw_zret X (v := 1) rfl hQ (by simp only [r_X9_begins, if_pos c1]; try rfl) rfl dX9_begins_24
  · refine aw_lload_n X (pc := 5) 0 rfl rfl dX9_begins_5 ?_
    refine aw_lload_n X (pc := 6) 1 rfl rfl dX9_begins_6 ?_
    refine aw_lxor X (pc := 7) (z := name ^^^ bits) rfl dX9_begins_7 ?_
    refine aw_bipush X (pc := 8) (v := 64) dX9_begins_8 (by decide) ?_
    refine aw_iload X (pc := 10) 2 rfl dX9_begins_10 ?_
    refine aw_isub X (pc := 12) (z := 64 - n) rfl  dX9_begins_12 ?_
    refine aw_lushr X (pc := 13) (z := ((name ^^^ bits).toUInt64 >>> ((64 - n).toInt64.toUInt64 &&& Int64.toUInt64 63)).toInt64) rfl dX9_begins_13 ?_
    refine aw_lconst X (pc := 14) (v := 0) dX9_begins_14 (by decide) ?_
    refine aw_lcmp X (pc := 15) dX9_begins_15 ?_
    refine aw_if_ne X (pc := 16) (tgt := 23) (by decide) dX9_begins_16 (fun c2 => ?_) (fun c2 => ?_)
    · refine aw_iconst X (pc := 23) (v := 0) dX9_begins_23 (by decide) ?_
      exact aw_zret X (v := 0) rfl hQ (by simp only [r_X9_begins, if_neg c1, if_neg c2]; try rfl) rfl dX9_begins_24
    · refine aw_iconst X (pc := 19) (v := 1) dX9_begins_19 (by decide) ?_
      refine aw_goto X (pc := 20) (tgt := 24) (by decide) dX9_begins_20 ?_
      exact aw_zret X (v := 1) rfl hQ (by simp only [r_X9_begins, if_neg c1, if_pos c2]; try rfl) rfl dX9_begins_24

def r_J13_bitCount_95d88 (i : Int64) : Int32 := (((((((((i - (((i.toUInt64 >>> ((Int32.toInt64 1).toUInt64 &&& Int64.toUInt64 63)).toInt64) &&& 6148914691236517205)) &&& 3689348814741910323) + ((((i - (((i.toUInt64 >>> ((Int32.toInt64 1).toUInt64 &&& Int64.toUInt64 63)).toInt64) &&& 6148914691236517205)).toUInt64 >>> ((Int32.toInt64 2).toUInt64 &&& Int64.toUInt64 63)).toInt64) &&& 3689348814741910323)) + (((((i - (((i.toUInt64 >>> ((Int32.toInt64 1).toUInt64 &&& Int64.toUInt64 63)).toInt64) &&& 6148914691236517205)) &&& 3689348814741910323) + ((((i - (((i.toUInt64 >>> ((Int32.toInt64 1).toUInt64 &&& Int64.toUInt64 63)).toInt64) &&& 6148914691236517205)).toUInt64 >>> ((Int32.toInt64 2).toUInt64 &&& Int64.toUInt64 63)).toInt64) &&& 3689348814741910323)).toUInt64 >>> ((Int32.toInt64 4).toUInt64 &&& Int64.toUInt64 63)).toInt64)) &&& 1085102592571150095) + (((((((i - (((i.toUInt64 >>> ((Int32.toInt64 1).toUInt64 &&& Int64.toUInt64 63)).toInt64) &&& 6148914691236517205)) &&& 3689348814741910323) + ((((i - (((i.toUInt64 >>> ((Int32.toInt64 1).toUInt64 &&& Int64.toUInt64 63)).toInt64) &&& 6148914691236517205)).toUInt64 >>> ((Int32.toInt64 2).toUInt64 &&& Int64.toUInt64 63)).toInt64) &&& 3689348814741910323)) + (((((i - (((i.toUInt64 >>> ((Int32.toInt64 1).toUInt64 &&& Int64.toUInt64 63)).toInt64) &&& 6148914691236517205)) &&& 3689348814741910323) + ((((i - (((i.toUInt64 >>> ((Int32.toInt64 1).toUInt64 &&& Int64.toUInt64 63)).toInt64) &&& 6148914691236517205)).toUInt64 >>> ((Int32.toInt64 2).toUInt64 &&& Int64.toUInt64 63)).toInt64) &&& 3689348814741910323)).toUInt64 >>> ((Int32.toInt64 4).toUInt64 &&& Int64.toUInt64 63)).toInt64)) &&& 1085102592571150095).toUInt64 >>> ((Int32.toInt64 8).toUInt64 &&& Int64.toUInt64 63)).toInt64)) + ((((((((i - (((i.toUInt64 >>> ((Int32.toInt64 1).toUInt64 &&& Int64.toUInt64 63)).toInt64) &&& 6148914691236517205)) &&& 3689348814741910323) + ((((i - (((i.toUInt64 >>> ((Int32.toInt64 1).toUInt64 &&& Int64.toUInt64 63)).toInt64) &&& 6148914691236517205)).toUInt64 >>> ((Int32.toInt64 2).toUInt64 &&& Int64.toUInt64 63)).toInt64) &&& 3689348814741910323)) + (((((i - (((i.toUInt64 >>> ((Int32.toInt64 1).toUInt64 &&& Int64.toUInt64 63)).toInt64) &&& 6148914691236517205)) &&& 3689348814741910323) + ((((i - (((i.toUInt64 >>> ((Int32.toInt64 1).toUInt64 &&& Int64.toUInt64 63)).toInt64) &&& 6148914691236517205)).toUInt64 >>> ((Int32.toInt64 2).toUInt64 &&& Int64.toUInt64 63)).toInt64) &&& 3689348814741910323)).toUInt64 >>> ((Int32.toInt64 4).toUInt64 &&& Int64.toUInt64 63)).toInt64)) &&& 1085102592571150095) + (((((((i - (((i.toUInt64 >>> ((Int32.toInt64 1).toUInt64 &&& Int64.toUInt64 63)).toInt64) &&& 6148914691236517205)) &&& 3689348814741910323) + ((((i - (((i.toUInt64 >>> ((Int32.toInt64 1).toUInt64 &&& Int64.toUInt64 63)).toInt64) &&& 6148914691236517205)).toUInt64 >>> ((Int32.toInt64 2).toUInt64 &&& Int64.toUInt64 63)).toInt64) &&& 3689348814741910323)) + (((((i - (((i.toUInt64 >>> ((Int32.toInt64 1).toUInt64 &&& Int64.toUInt64 63)).toInt64) &&& 6148914691236517205)) &&& 3689348814741910323) + ((((i - (((i.toUInt64 >>> ((Int32.toInt64 1).toUInt64 &&& Int64.toUInt64 63)).toInt64) &&& 6148914691236517205)).toUInt64 >>> ((Int32.toInt64 2).toUInt64 &&& Int64.toUInt64 63)).toInt64) &&& 3689348814741910323)).toUInt64 >>> ((Int32.toInt64 4).toUInt64 &&& Int64.toUInt64 63)).toInt64)) &&& 1085102592571150095).toUInt64 >>> ((Int32.toInt64 8).toUInt64 &&& Int64.toUInt64 63)).toInt64)).toUInt64 >>> ((Int32.toInt64 16).toUInt64 &&& Int64.toUInt64 63)).toInt64)) + (((((((((i - (((i.toUInt64 >>> ((Int32.toInt64 1).toUInt64 &&& Int64.toUInt64 63)).toInt64) &&& 6148914691236517205)) &&& 3689348814741910323) + ((((i - (((i.toUInt64 >>> ((Int32.toInt64 1).toUInt64 &&& Int64.toUInt64 63)).toInt64) &&& 6148914691236517205)).toUInt64 >>> ((Int32.toInt64 2).toUInt64 &&& Int64.toUInt64 63)).toInt64) &&& 3689348814741910323)) + (((((i - (((i.toUInt64 >>> ((Int32.toInt64 1).toUInt64 &&& Int64.toUInt64 63)).toInt64) &&& 6148914691236517205)) &&& 3689348814741910323) + ((((i - (((i.toUInt64 >>> ((Int32.toInt64 1).toUInt64 &&& Int64.toUInt64 63)).toInt64) &&& 6148914691236517205)).toUInt64 >>> ((Int32.toInt64 2).toUInt64 &&& Int64.toUInt64 63)).toInt64) &&& 3689348814741910323)).toUInt64 >>> ((Int32.toInt64 4).toUInt64 &&& Int64.toUInt64 63)).toInt64)) &&& 1085102592571150095) + (((((((i - (((i.toUInt64 >>> ((Int32.toInt64 1).toUInt64 &&& Int64.toUInt64 63)).toInt64) &&& 6148914691236517205)) &&& 3689348814741910323) + ((((i - (((i.toUInt64 >>> ((Int32.toInt64 1).toUInt64 &&& Int64.toUInt64 63)).toInt64) &&& 6148914691236517205)).toUInt64 >>> ((Int32.toInt64 2).toUInt64 &&& Int64.toUInt64 63)).toInt64) &&& 3689348814741910323)) + (((((i - (((i.toUInt64 >>> ((Int32.toInt64 1).toUInt64 &&& Int64.toUInt64 63)).toInt64) &&& 6148914691236517205)) &&& 3689348814741910323) + ((((i - (((i.toUInt64 >>> ((Int32.toInt64 1).toUInt64 &&& Int64.toUInt64 63)).toInt64) &&& 6148914691236517205)).toUInt64 >>> ((Int32.toInt64 2).toUInt64 &&& Int64.toUInt64 63)).toInt64) &&& 3689348814741910323)).toUInt64 >>> ((Int32.toInt64 4).toUInt64 &&& Int64.toUInt64 63)).toInt64)) &&& 1085102592571150095).toUInt64 >>> ((Int32.toInt64 8).toUInt64 &&& Int64.toUInt64 63)).toInt64)) + ((((((((i - (((i.toUInt64 >>> ((Int32.toInt64 1).toUInt64 &&& Int64.toUInt64 63)).toInt64) &&& 6148914691236517205)) &&& 3689348814741910323) + ((((i - (((i.toUInt64 >>> ((Int32.toInt64 1).toUInt64 &&& Int64.toUInt64 63)).toInt64) &&& 6148914691236517205)).toUInt64 >>> ((Int32.toInt64 2).toUInt64 &&& Int64.toUInt64 63)).toInt64) &&& 3689348814741910323)) + (((((i - (((i.toUInt64 >>> ((Int32.toInt64 1).toUInt64 &&& Int64.toUInt64 63)).toInt64) &&& 6148914691236517205)) &&& 3689348814741910323) + ((((i - (((i.toUInt64 >>> ((Int32.toInt64 1).toUInt64 &&& Int64.toUInt64 63)).toInt64) &&& 6148914691236517205)).toUInt64 >>> ((Int32.toInt64 2).toUInt64 &&& Int64.toUInt64 63)).toInt64) &&& 3689348814741910323)).toUInt64 >>> ((Int32.toInt64 4).toUInt64 &&& Int64.toUInt64 63)).toInt64)) &&& 1085102592571150095) + (((((((i - (((i.toUInt64 >>> ((Int32.toInt64 1).toUInt64 &&& Int64.toUInt64 63)).toInt64) &&& 6148914691236517205)) &&& 3689348814741910323) + ((((i - (((i.toUInt64 >>> ((Int32.toInt64 1).toUInt64 &&& Int64.toUInt64 63)).toInt64) &&& 6148914691236517205)).toUInt64 >>> ((Int32.toInt64 2).toUInt64 &&& Int64.toUInt64 63)).toInt64) &&& 3689348814741910323)) + (((((i - (((i.toUInt64 >>> ((Int32.toInt64 1).toUInt64 &&& Int64.toUInt64 63)).toInt64) &&& 6148914691236517205)) &&& 3689348814741910323) + ((((i - (((i.toUInt64 >>> ((Int32.toInt64 1).toUInt64 &&& Int64.toUInt64 63)).toInt64) &&& 6148914691236517205)).toUInt64 >>> ((Int32.toInt64 2).toUInt64 &&& Int64.toUInt64 63)).toInt64) &&& 3689348814741910323)).toUInt64 >>> ((Int32.toInt64 4).toUInt64 &&& Int64.toUInt64 63)).toInt64)) &&& 1085102592571150095).toUInt64 >>> ((Int32.toInt64 8).toUInt64 &&& Int64.toUInt64 63)).toInt64)).toUInt64 >>> ((Int32.toInt64 16).toUInt64 &&& Int64.toUInt64 63)).toInt64)).toUInt64 >>> ((Int32.toInt64 32).toUInt64 &&& Int64.toUInt64 63)).toInt64)).toInt32) &&& 127
abbrev rm_J13_bitCount_95d88 : Room := { frames := 0, cells := 0, slots := 0, locals := 0 }
set_option maxHeartbeats 4000000 in
set_option maxRecDepth 100000 in
theorem c_J13_bitCount_95d88 (l : Launch) (D : va_G) (i : Int64)  : MW l D yJ13_bitCount_95d88 (Cond.code yJ13_bitCount_95d88 cJ13_bitCount_95d88 2 (some .int) :: TT) rm_J13_bitCount_95d88 [.long i] [] [] (some (.int (r_J13_bitCount_95d88 i))) [] := by
  refine MW.of (cc := cJ13_bitCount_95d88) (nL := 2) (ret := (some .int)) (lv := [(0, .long i)]) (by decide) rfl rfl (Nat.le_of_ble_eq_true rfl) ?_
  intro p e s m args below meth c A Q hQ X
  refine aw_lload_n X (pc := 0) 0 rfl rfl dJ13_bitCount_95d88_0 ?_
  refine aw_lload_n X (pc := 1) 0 rfl rfl dJ13_bitCount_95d88_1 ?_
  refine aw_iconst X (pc := 2) (v := 1) dJ13_bitCount_95d88_2 (by decide) ?_
  refine aw_lushr X (pc := 3) (z := (i.toUInt64 >>> ((Int32.toInt64 1).toUInt64 &&& Int64.toUInt64 63)).toInt64) rfl dJ13_bitCount_95d88_3 ?_
  refine aw_ldc2 X (pc := 4) ld_J13_314 dJ13_bitCount_95d88_4 ?_
  refine aw_land X (pc := 7) (z := ((i.toUInt64 >>> ((Int32.toInt64 1).toUInt64 &&& Int64.toUInt64 63)).toInt64) &&& 6148914691236517205) rfl dJ13_bitCount_95d88_7 ?_
  refine aw_lsub X (pc := 8) (z := i - (((i.toUInt64 >>> ((Int32.toInt64 1).toUInt64 &&& Int64.toUInt64 63)).toInt64) &&& 6148914691236517205)) rfl dJ13_bitCount_95d88_8 ?_
  refine aw_lstore_n X (pc := 9) (lv' := [(0, .long (i - (((i.toUInt64 >>> ((Int32.toInt64 1).toUInt64 &&& Int64.toUInt64 63)).toInt64) &&& 6148914691236517205)))]) rfl (by decide) rfl dJ13_bitCount_95d88_9 ?_
  refine aw_lload_n X (pc := 10) 0 rfl rfl dJ13_bitCount_95d88_10 ?_
  refine aw_ldc2 X (pc := 11) ld_J13_316 dJ13_bitCount_95d88_11 ?_
  refine aw_land X (pc := 14) (z := (i - (((i.toUInt64 >>> ((Int32.toInt64 1).toUInt64 &&& Int64.toUInt64 63)).toInt64) &&& 6148914691236517205)) &&& 3689348814741910323) rfl dJ13_bitCount_95d88_14 ?_
  refine aw_lload_n X (pc := 15) 0 rfl rfl dJ13_bitCount_95d88_15 ?_
  refine aw_iconst X (pc := 16) (v := 2) dJ13_bitCount_95d88_16 (by decide) ?_
  refine aw_lushr X (pc := 17) (z := ((i - (((i.toUInt64 >>> ((Int32.toInt64 1).toUInt64 &&& Int64.toUInt64 63)).toInt64) &&& 6148914691236517205)).toUInt64 >>> ((Int32.toInt64 2).toUInt64 &&& Int64.toUInt64 63)).toInt64) rfl dJ13_bitCount_95d88_17 ?_
  refine aw_ldc2 X (pc := 18) ld_J13_316 dJ13_bitCount_95d88_18 ?_
  refine aw_land X (pc := 21) (z := (((i - (((i.toUInt64 >>> ((Int32.toInt64 1).toUInt64 &&& Int64.toUInt64 63)).toInt64) &&& 6148914691236517205)).toUInt64 >>> ((Int32.toInt64 2).toUInt64 &&& Int64.toUInt64 63)).toInt64) &&& 3689348814741910323) rfl dJ13_bitCount_95d88_21 ?_
  refine aw_ladd X (pc := 22) (z := ((i - (((i.toUInt64 >>> ((Int32.toInt64 1).toUInt64 &&& Int64.toUInt64 63)).toInt64) &&& 6148914691236517205)) &&& 3689348814741910323) + ((((i - (((i.toUInt64 >>> ((Int32.toInt64 1).toUInt64 &&& Int64.toUInt64 63)).toInt64) &&& 6148914691236517205)).toUInt64 >>> ((Int32.toInt64 2).toUInt64 &&& Int64.toUInt64 63)).toInt64) &&& 3689348814741910323)) rfl dJ13_bitCount_95d88_22 ?_
  refine aw_lstore_n X (pc := 23) (lv' := [(0, .long (((i - (((i.toUInt64 >>> ((Int32.toInt64 1).toUInt64 &&& Int64.toUInt64 63)).toInt64) &&& 6148914691236517205)) &&& 3689348814741910323) + ((((i - (((i.toUInt64 >>> ((Int32.toInt64 1).toUInt64 &&& Int64.toUInt64 63)).toInt64) &&& 6148914691236517205)).toUInt64 >>> ((Int32.toInt64 2).toUInt64 &&& Int64.toUInt64 63)).toInt64) &&& 3689348814741910323)))]) rfl (by decide) rfl dJ13_bitCount_95d88_23 ?_
  refine aw_lload_n X (pc := 24) 0 rfl rfl dJ13_bitCount_95d88_24 ?_
  refine aw_lload_n X (pc := 25) 0 rfl rfl dJ13_bitCount_95d88_25 ?_
  refine aw_iconst X (pc := 26) (v := 4) dJ13_bitCount_95d88_26 (by decide) ?_
  refine aw_lushr X (pc := 27) (z := ((((i - (((i.toUInt64 >>> ((Int32.toInt64 1).toUInt64 &&& Int64.toUInt64 63)).toInt64) &&& 6148914691236517205)) &&& 3689348814741910323) + ((((i - (((i.toUInt64 >>> ((Int32.toInt64 1).toUInt64 &&& Int64.toUInt64 63)).toInt64) &&& 6148914691236517205)).toUInt64 >>> ((Int32.toInt64 2).toUInt64 &&& Int64.toUInt64 63)).toInt64) &&& 3689348814741910323)).toUInt64 >>> ((Int32.toInt64 4).toUInt64 &&& Int64.toUInt64 63)).toInt64) rfl dJ13_bitCount_95d88_27 ?_
  refine aw_ladd X (pc := 28) (z := (((i - (((i.toUInt64 >>> ((Int32.toInt64 1).toUInt64 &&& Int64.toUInt64 63)).toInt64) &&& 6148914691236517205)) &&& 3689348814741910323) + ((((i - (((i.toUInt64 >>> ((Int32.toInt64 1).toUInt64 &&& Int64.toUInt64 63)).toInt64) &&& 6148914691236517205)).toUInt64 >>> ((Int32.toInt64 2).toUInt64 &&& Int64.toUInt64 63)).toInt64) &&& 3689348814741910323)) + (((((i - (((i.toUInt64 >>> ((Int32.toInt64 1).toUInt64 &&& Int64.toUInt64 63)).toInt64) &&& 6148914691236517205)) &&& 3689348814741910323) + ((((i - (((i.toUInt64 >>> ((Int32.toInt64 1).toUInt64 &&& Int64.toUInt64 63)).toInt64) &&& 6148914691236517205)).toUInt64 >>> ((Int32.toInt64 2).toUInt64 &&& Int64.toUInt64 63)).toInt64) &&& 3689348814741910323)).toUInt64 >>> ((Int32.toInt64 4).toUInt64 &&& Int64.toUInt64 63)).toInt64)) rfl dJ13_bitCount_95d88_28 ?_
  refine aw_ldc2 X (pc := 29) ld_J13_318 dJ13_bitCount_95d88_29 ?_
  refine aw_land X (pc := 32) (z := ((((i - (((i.toUInt64 >>> ((Int32.toInt64 1).toUInt64 &&& Int64.toUInt64 63)).toInt64) &&& 6148914691236517205)) &&& 3689348814741910323) + ((((i - (((i.toUInt64 >>> ((Int32.toInt64 1).toUInt64 &&& Int64.toUInt64 63)).toInt64) &&& 6148914691236517205)).toUInt64 >>> ((Int32.toInt64 2).toUInt64 &&& Int64.toUInt64 63)).toInt64) &&& 3689348814741910323)) + (((((i - (((i.toUInt64 >>> ((Int32.toInt64 1).toUInt64 &&& Int64.toUInt64 63)).toInt64) &&& 6148914691236517205)) &&& 3689348814741910323) + ((((i - (((i.toUInt64 >>> ((Int32.toInt64 1).toUInt64 &&& Int64.toUInt64 63)).toInt64) &&& 6148914691236517205)).toUInt64 >>> ((Int32.toInt64 2).toUInt64 &&& Int64.toUInt64 63)).toInt64) &&& 3689348814741910323)).toUInt64 >>> ((Int32.toInt64 4).toUInt64 &&& Int64.toUInt64 63)).toInt64)) &&& 1085102592571150095) rfl dJ13_bitCount_95d88_32 ?_
  refine aw_lstore_n X (pc := 33) (lv' := [(0, .long (((((i - (((i.toUInt64 >>> ((Int32.toInt64 1).toUInt64 &&& Int64.toUInt64 63)).toInt64) &&& 6148914691236517205)) &&& 3689348814741910323) + ((((i - (((i.toUInt64 >>> ((Int32.toInt64 1).toUInt64 &&& Int64.toUInt64 63)).toInt64) &&& 6148914691236517205)).toUInt64 >>> ((Int32.toInt64 2).toUInt64 &&& Int64.toUInt64 63)).toInt64) &&& 3689348814741910323)) + (((((i - (((i.toUInt64 >>> ((Int32.toInt64 1).toUInt64 &&& Int64.toUInt64 63)).toInt64) &&& 6148914691236517205)) &&& 3689348814741910323) + ((((i - (((i.toUInt64 >>> ((Int32.toInt64 1).toUInt64 &&& Int64.toUInt64 63)).toInt64) &&& 6148914691236517205)).toUInt64 >>> ((Int32.toInt64 2).toUInt64 &&& Int64.toUInt64 63)).toInt64) &&& 3689348814741910323)).toUInt64 >>> ((Int32.toInt64 4).toUInt64 &&& Int64.toUInt64 63)).toInt64)) &&& 1085102592571150095))]) rfl (by decide) rfl dJ13_bitCount_95d88_33 ?_
  refine aw_lload_n X (pc := 34) 0 rfl rfl dJ13_bitCount_95d88_34 ?_
  refine aw_lload_n X (pc := 35) 0 rfl rfl dJ13_bitCount_95d88_35 ?_
  refine aw_bipush X (pc := 36) (v := 8) dJ13_bitCount_95d88_36 (by decide) ?_
  refine aw_lushr X (pc := 38) (z := ((((((i - (((i.toUInt64 >>> ((Int32.toInt64 1).toUInt64 &&& Int64.toUInt64 63)).toInt64) &&& 6148914691236517205)) &&& 3689348814741910323) + ((((i - (((i.toUInt64 >>> ((Int32.toInt64 1).toUInt64 &&& Int64.toUInt64 63)).toInt64) &&& 6148914691236517205)).toUInt64 >>> ((Int32.toInt64 2).toUInt64 &&& Int64.toUInt64 63)).toInt64) &&& 3689348814741910323)) + (((((i - (((i.toUInt64 >>> ((Int32.toInt64 1).toUInt64 &&& Int64.toUInt64 63)).toInt64) &&& 6148914691236517205)) &&& 3689348814741910323) + ((((i - (((i.toUInt64 >>> ((Int32.toInt64 1).toUInt64 &&& Int64.toUInt64 63)).toInt64) &&& 6148914691236517205)).toUInt64 >>> ((Int32.toInt64 2).toUInt64 &&& Int64.toUInt64 63)).toInt64) &&& 3689348814741910323)).toUInt64 >>> ((Int32.toInt64 4).toUInt64 &&& Int64.toUInt64 63)).toInt64)) &&& 1085102592571150095).toUInt64 >>> ((Int32.toInt64 8).toUInt64 &&& Int64.toUInt64 63)).toInt64) rfl dJ13_bitCount_95d88_38 ?_
  refine aw_ladd X (pc := 39) (z := (((((i - (((i.toUInt64 >>> ((Int32.toInt64 1).toUInt64 &&& Int64.toUInt64 63)).toInt64) &&& 6148914691236517205)) &&& 3689348814741910323) + ((((i - (((i.toUInt64 >>> ((Int32.toInt64 1).toUInt64 &&& Int64.toUInt64 63)).toInt64) &&& 6148914691236517205)).toUInt64 >>> ((Int32.toInt64 2).toUInt64 &&& Int64.toUInt64 63)).toInt64) &&& 3689348814741910323)) + (((((i - (((i.toUInt64 >>> ((Int32.toInt64 1).toUInt64 &&& Int64.toUInt64 63)).toInt64) &&& 6148914691236517205)) &&& 3689348814741910323) + ((((i - (((i.toUInt64 >>> ((Int32.toInt64 1).toUInt64 &&& Int64.toUInt64 63)).toInt64) &&& 6148914691236517205)).toUInt64 >>> ((Int32.toInt64 2).toUInt64 &&& Int64.toUInt64 63)).toInt64) &&& 3689348814741910323)).toUInt64 >>> ((Int32.toInt64 4).toUInt64 &&& Int64.toUInt64 63)).toInt64)) &&& 1085102592571150095) + (((((((i - (((i.toUInt64 >>> ((Int32.toInt64 1).toUInt64 &&& Int64.toUInt64 63)).toInt64) &&& 6148914691236517205)) &&& 3689348814741910323) + ((((i - (((i.toUInt64 >>> ((Int32.toInt64 1).toUInt64 &&& Int64.toUInt64 63)).toInt64) &&& 6148914691236517205)).toUInt64 >>> ((Int32.toInt64 2).toUInt64 &&& Int64.toUInt64 63)).toInt64) &&& 3689348814741910323)) + (((((i - (((i.toUInt64 >>> ((Int32.toInt64 1).toUInt64 &&& Int64.toUInt64 63)).toInt64) &&& 6148914691236517205)) &&& 3689348814741910323) + ((((i - (((i.toUInt64 >>> ((Int32.toInt64 1).toUInt64 &&& Int64.toUInt64 63)).toInt64) &&& 6148914691236517205)).toUInt64 >>> ((Int32.toInt64 2).toUInt64 &&& Int64.toUInt64 63)).toInt64) &&& 3689348814741910323)).toUInt64 >>> ((Int32.toInt64 4).toUInt64 &&& Int64.toUInt64 63)).toInt64)) &&& 1085102592571150095).toUInt64 >>> ((Int32.toInt64 8).toUInt64 &&& Int64.toUInt64 63)).toInt64)) rfl dJ13_bitCount_95d88_39 ?_
  refine aw_lstore_n X (pc := 40) (lv' := [(0, .long ((((((i - (((i.toUInt64 >>> ((Int32.toInt64 1).toUInt64 &&& Int64.toUInt64 63)).toInt64) &&& 6148914691236517205)) &&& 3689348814741910323) + ((((i - (((i.toUInt64 >>> ((Int32.toInt64 1).toUInt64 &&& Int64.toUInt64 63)).toInt64) &&& 6148914691236517205)).toUInt64 >>> ((Int32.toInt64 2).toUInt64 &&& Int64.toUInt64 63)).toInt64) &&& 3689348814741910323)) + (((((i - (((i.toUInt64 >>> ((Int32.toInt64 1).toUInt64 &&& Int64.toUInt64 63)).toInt64) &&& 6148914691236517205)) &&& 3689348814741910323) + ((((i - (((i.toUInt64 >>> ((Int32.toInt64 1).toUInt64 &&& Int64.toUInt64 63)).toInt64) &&& 6148914691236517205)).toUInt64 >>> ((Int32.toInt64 2).toUInt64 &&& Int64.toUInt64 63)).toInt64) &&& 3689348814741910323)).toUInt64 >>> ((Int32.toInt64 4).toUInt64 &&& Int64.toUInt64 63)).toInt64)) &&& 1085102592571150095) + (((((((i - (((i.toUInt64 >>> ((Int32.toInt64 1).toUInt64 &&& Int64.toUInt64 63)).toInt64) &&& 6148914691236517205)) &&& 3689348814741910323) + ((((i - (((i.toUInt64 >>> ((Int32.toInt64 1).toUInt64 &&& Int64.toUInt64 63)).toInt64) &&& 6148914691236517205)).toUInt64 >>> ((Int32.toInt64 2).toUInt64 &&& Int64.toUInt64 63)).toInt64) &&& 3689348814741910323)) + (((((i - (((i.toUInt64 >>> ((Int32.toInt64 1).toUInt64 &&& Int64.toUInt64 63)).toInt64) &&& 6148914691236517205)) &&& 3689348814741910323) + ((((i - (((i.toUInt64 >>> ((Int32.toInt64 1).toUInt64 &&& Int64.toUInt64 63)).toInt64) &&& 6148914691236517205)).toUInt64 >>> ((Int32.toInt64 2).toUInt64 &&& Int64.toUInt64 63)).toInt64) &&& 3689348814741910323)).toUInt64 >>> ((Int32.toInt64 4).toUInt64 &&& Int64.toUInt64 63)).toInt64)) &&& 1085102592571150095).toUInt64 >>> ((Int32.toInt64 8).toUInt64 &&& Int64.toUInt64 63)).toInt64)))]) rfl (by decide) rfl dJ13_bitCount_95d88_40 ?_
  refine aw_lload_n X (pc := 41) 0 rfl rfl dJ13_bitCount_95d88_41 ?_
  refine aw_lload_n X (pc := 42) 0 rfl rfl dJ13_bitCount_95d88_42 ?_
  refine aw_bipush X (pc := 43) (v := 16) dJ13_bitCount_95d88_43 (by decide) ?_
  refine aw_lushr X (pc := 45) (z := (((((((i - (((i.toUInt64 >>> ((Int32.toInt64 1).toUInt64 &&& Int64.toUInt64 63)).toInt64) &&& 6148914691236517205)) &&& 3689348814741910323) + ((((i - (((i.toUInt64 >>> ((Int32.toInt64 1).toUInt64 &&& Int64.toUInt64 63)).toInt64) &&& 6148914691236517205)).toUInt64 >>> ((Int32.toInt64 2).toUInt64 &&& Int64.toUInt64 63)).toInt64) &&& 3689348814741910323)) + (((((i - (((i.toUInt64 >>> ((Int32.toInt64 1).toUInt64 &&& Int64.toUInt64 63)).toInt64) &&& 6148914691236517205)) &&& 3689348814741910323) + ((((i - (((i.toUInt64 >>> ((Int32.toInt64 1).toUInt64 &&& Int64.toUInt64 63)).toInt64) &&& 6148914691236517205)).toUInt64 >>> ((Int32.toInt64 2).toUInt64 &&& Int64.toUInt64 63)).toInt64) &&& 3689348814741910323)).toUInt64 >>> ((Int32.toInt64 4).toUInt64 &&& Int64.toUInt64 63)).toInt64)) &&& 1085102592571150095) + (((((((i - (((i.toUInt64 >>> ((Int32.toInt64 1).toUInt64 &&& Int64.toUInt64 63)).toInt64) &&& 6148914691236517205)) &&& 3689348814741910323) + ((((i - (((i.toUInt64 >>> ((Int32.toInt64 1).toUInt64 &&& Int64.toUInt64 63)).toInt64) &&& 6148914691236517205)).toUInt64 >>> ((Int32.toInt64 2).toUInt64 &&& Int64.toUInt64 63)).toInt64) &&& 3689348814741910323)) + (((((i - (((i.toUInt64 >>> ((Int32.toInt64 1).toUInt64 &&& Int64.toUInt64 63)).toInt64) &&& 6148914691236517205)) &&& 3689348814741910323) + ((((i - (((i.toUInt64 >>> ((Int32.toInt64 1).toUInt64 &&& Int64.toUInt64 63)).toInt64) &&& 6148914691236517205)).toUInt64 >>> ((Int32.toInt64 2).toUInt64 &&& Int64.toUInt64 63)).toInt64) &&& 3689348814741910323)).toUInt64 >>> ((Int32.toInt64 4).toUInt64 &&& Int64.toUInt64 63)).toInt64)) &&& 1085102592571150095).toUInt64 >>> ((Int32.toInt64 8).toUInt64 &&& Int64.toUInt64 63)).toInt64)).toUInt64 >>> ((Int32.toInt64 16).toUInt64 &&& Int64.toUInt64 63)).toInt64) rfl dJ13_bitCount_95d88_45 ?_
  refine aw_ladd X (pc := 46) (z := ((((((i - (((i.toUInt64 >>> ((Int32.toInt64 1).toUInt64 &&& Int64.toUInt64 63)).toInt64) &&& 6148914691236517205)) &&& 3689348814741910323) + ((((i - (((i.toUInt64 >>> ((Int32.toInt64 1).toUInt64 &&& Int64.toUInt64 63)).toInt64) &&& 6148914691236517205)).toUInt64 >>> ((Int32.toInt64 2).toUInt64 &&& Int64.toUInt64 63)).toInt64) &&& 3689348814741910323)) + (((((i - (((i.toUInt64 >>> ((Int32.toInt64 1).toUInt64 &&& Int64.toUInt64 63)).toInt64) &&& 6148914691236517205)) &&& 3689348814741910323) + ((((i - (((i.toUInt64 >>> ((Int32.toInt64 1).toUInt64 &&& Int64.toUInt64 63)).toInt64) &&& 6148914691236517205)).toUInt64 >>> ((Int32.toInt64 2).toUInt64 &&& Int64.toUInt64 63)).toInt64) &&& 3689348814741910323)).toUInt64 >>> ((Int32.toInt64 4).toUInt64 &&& Int64.toUInt64 63)).toInt64)) &&& 1085102592571150095) + (((((((i - (((i.toUInt64 >>> ((Int32.toInt64 1).toUInt64 &&& Int64.toUInt64 63)).toInt64) &&& 6148914691236517205)) &&& 3689348814741910323) + ((((i - (((i.toUInt64 >>> ((Int32.toInt64 1).toUInt64 &&& Int64.toUInt64 63)).toInt64) &&& 6148914691236517205)).toUInt64 >>> ((Int32.toInt64 2).toUInt64 &&& Int64.toUInt64 63)).toInt64) &&& 3689348814741910323)) + (((((i - (((i.toUInt64 >>> ((Int32.toInt64 1).toUInt64 &&& Int64.toUInt64 63)).toInt64) &&& 6148914691236517205)) &&& 3689348814741910323) + ((((i - (((i.toUInt64 >>> ((Int32.toInt64 1).toUInt64 &&& Int64.toUInt64 63)).toInt64) &&& 6148914691236517205)).toUInt64 >>> ((Int32.toInt64 2).toUInt64 &&& Int64.toUInt64 63)).toInt64) &&& 3689348814741910323)).toUInt64 >>> ((Int32.toInt64 4).toUInt64 &&& Int64.toUInt64 63)).toInt64)) &&& 1085102592571150095).toUInt64 >>> ((Int32.toInt64 8).toUInt64 &&& Int64.toUInt64 63)).toInt64)) + ((((((((i - (((i.toUInt64 >>> ((Int32.toInt64 1).toUInt64 &&& Int64.toUInt64 63)).toInt64) &&& 6148914691236517205)) &&& 3689348814741910323) + ((((i - (((i.toUInt64 >>> ((Int32.toInt64 1).toUInt64 &&& Int64.toUInt64 63)).toInt64) &&& 6148914691236517205)).toUInt64 >>> ((Int32.toInt64 2).toUInt64 &&& Int64.toUInt64 63)).toInt64) &&& 3689348814741910323)) + (((((i - (((i.toUInt64 >>> ((Int32.toInt64 1).toUInt64 &&& Int64.toUInt64 63)).toInt64) &&& 6148914691236517205)) &&& 3689348814741910323) + ((((i - (((i.toUInt64 >>> ((Int32.toInt64 1).toUInt64 &&& Int64.toUInt64 63)).toInt64) &&& 6148914691236517205)).toUInt64 >>> ((Int32.toInt64 2).toUInt64 &&& Int64.toUInt64 63)).toInt64) &&& 3689348814741910323)).toUInt64 >>> ((Int32.toInt64 4).toUInt64 &&& Int64.toUInt64 63)).toInt64)) &&& 1085102592571150095) + (((((((i - (((i.toUInt64 >>> ((Int32.toInt64 1).toUInt64 &&& Int64.toUInt64 63)).toInt64) &&& 6148914691236517205)) &&& 3689348814741910323) + ((((i - (((i.toUInt64 >>> ((Int32.toInt64 1).toUInt64 &&& Int64.toUInt64 63)).toInt64) &&& 6148914691236517205)).toUInt64 >>> ((Int32.toInt64 2).toUInt64 &&& Int64.toUInt64 63)).toInt64) &&& 3689348814741910323)) + (((((i - (((i.toUInt64 >>> ((Int32.toInt64 1).toUInt64 &&& Int64.toUInt64 63)).toInt64) &&& 6148914691236517205)) &&& 3689348814741910323) + ((((i - (((i.toUInt64 >>> ((Int32.toInt64 1).toUInt64 &&& Int64.toUInt64 63)).toInt64) &&& 6148914691236517205)).toUInt64 >>> ((Int32.toInt64 2).toUInt64 &&& Int64.toUInt64 63)).toInt64) &&& 3689348814741910323)).toUInt64 >>> ((Int32.toInt64 4).toUInt64 &&& Int64.toUInt64 63)).toInt64)) &&& 1085102592571150095).toUInt64 >>> ((Int32.toInt64 8).toUInt64 &&& Int64.toUInt64 63)).toInt64)).toUInt64 >>> ((Int32.toInt64 16).toUInt64 &&& Int64.toUInt64 63)).toInt64)) rfl dJ13_bitCount_95d88_46 ?_
  refine aw_lstore_n X (pc := 47) (lv' := [(0, .long (((((((i - (((i.toUInt64 >>> ((Int32.toInt64 1).toUInt64 &&& Int64.toUInt64 63)).toInt64) &&& 6148914691236517205)) &&& 3689348814741910323) + ((((i - (((i.toUInt64 >>> ((Int32.toInt64 1).toUInt64 &&& Int64.toUInt64 63)).toInt64) &&& 6148914691236517205)).toUInt64 >>> ((Int32.toInt64 2).toUInt64 &&& Int64.toUInt64 63)).toInt64) &&& 3689348814741910323)) + (((((i - (((i.toUInt64 >>> ((Int32.toInt64 1).toUInt64 &&& Int64.toUInt64 63)).toInt64) &&& 6148914691236517205)) &&& 3689348814741910323) + ((((i - (((i.toUInt64 >>> ((Int32.toInt64 1).toUInt64 &&& Int64.toUInt64 63)).toInt64) &&& 6148914691236517205)).toUInt64 >>> ((Int32.toInt64 2).toUInt64 &&& Int64.toUInt64 63)).toInt64) &&& 3689348814741910323)).toUInt64 >>> ((Int32.toInt64 4).toUInt64 &&& Int64.toUInt64 63)).toInt64)) &&& 1085102592571150095) + (((((((i - (((i.toUInt64 >>> ((Int32.toInt64 1).toUInt64 &&& Int64.toUInt64 63)).toInt64) &&& 6148914691236517205)) &&& 3689348814741910323) + ((((i - (((i.toUInt64 >>> ((Int32.toInt64 1).toUInt64 &&& Int64.toUInt64 63)).toInt64) &&& 6148914691236517205)).toUInt64 >>> ((Int32.toInt64 2).toUInt64 &&& Int64.toUInt64 63)).toInt64) &&& 3689348814741910323)) + (((((i - (((i.toUInt64 >>> ((Int32.toInt64 1).toUInt64 &&& Int64.toUInt64 63)).toInt64) &&& 6148914691236517205)) &&& 3689348814741910323) + ((((i - (((i.toUInt64 >>> ((Int32.toInt64 1).toUInt64 &&& Int64.toUInt64 63)).toInt64) &&& 6148914691236517205)).toUInt64 >>> ((Int32.toInt64 2).toUInt64 &&& Int64.toUInt64 63)).toInt64) &&& 3689348814741910323)).toUInt64 >>> ((Int32.toInt64 4).toUInt64 &&& Int64.toUInt64 63)).toInt64)) &&& 1085102592571150095).toUInt64 >>> ((Int32.toInt64 8).toUInt64 &&& Int64.toUInt64 63)).toInt64)) + ((((((((i - (((i.toUInt64 >>> ((Int32.toInt64 1).toUInt64 &&& Int64.toUInt64 63)).toInt64) &&& 6148914691236517205)) &&& 3689348814741910323) + ((((i - (((i.toUInt64 >>> ((Int32.toInt64 1).toUInt64 &&& Int64.toUInt64 63)).toInt64) &&& 6148914691236517205)).toUInt64 >>> ((Int32.toInt64 2).toUInt64 &&& Int64.toUInt64 63)).toInt64) &&& 3689348814741910323)) + (((((i - (((i.toUInt64 >>> ((Int32.toInt64 1).toUInt64 &&& Int64.toUInt64 63)).toInt64) &&& 6148914691236517205)) &&& 3689348814741910323) + ((((i - (((i.toUInt64 >>> ((Int32.toInt64 1).toUInt64 &&& Int64.toUInt64 63)).toInt64) &&& 6148914691236517205)).toUInt64 >>> ((Int32.toInt64 2).toUInt64 &&& Int64.toUInt64 63)).toInt64) &&& 3689348814741910323)).toUInt64 >>> ((Int32.toInt64 4).toUInt64 &&& Int64.toUInt64 63)).toInt64)) &&& 1085102592571150095) + (((((((i - (((i.toUInt64 >>> ((Int32.toInt64 1).toUInt64 &&& Int64.toUInt64 63)).toInt64) &&& 6148914691236517205)) &&& 3689348814741910323) + ((((i - (((i.toUInt64 >>> ((Int32.toInt64 1).toUInt64 &&& Int64.toUInt64 63)).toInt64) &&& 6148914691236517205)).toUInt64 >>> ((Int32.toInt64 2).toUInt64 &&& Int64.toUInt64 63)).toInt64) &&& 3689348814741910323)) + (((((i - (((i.toUInt64 >>> ((Int32.toInt64 1).toUInt64 &&& Int64.toUInt64 63)).toInt64) &&& 6148914691236517205)) &&& 3689348814741910323) + ((((i - (((i.toUInt64 >>> ((Int32.toInt64 1).toUInt64 &&& Int64.toUInt64 63)).toInt64) &&& 6148914691236517205)).toUInt64 >>> ((Int32.toInt64 2).toUInt64 &&& Int64.toUInt64 63)).toInt64) &&& 3689348814741910323)).toUInt64 >>> ((Int32.toInt64 4).toUInt64 &&& Int64.toUInt64 63)).toInt64)) &&& 1085102592571150095).toUInt64 >>> ((Int32.toInt64 8).toUInt64 &&& Int64.toUInt64 63)).toInt64)).toUInt64 >>> ((Int32.toInt64 16).toUInt64 &&& Int64.toUInt64 63)).toInt64)))]) rfl (by decide) rfl dJ13_bitCount_95d88_47 ?_
  refine aw_lload_n X (pc := 48) 0 rfl rfl dJ13_bitCount_95d88_48 ?_
  refine aw_lload_n X (pc := 49) 0 rfl rfl dJ13_bitCount_95d88_49 ?_
  refine aw_bipush X (pc := 50) (v := 32) dJ13_bitCount_95d88_50 (by decide) ?_
  refine aw_lushr X (pc := 52) (z := ((((((((i - (((i.toUInt64 >>> ((Int32.toInt64 1).toUInt64 &&& Int64.toUInt64 63)).toInt64) &&& 6148914691236517205)) &&& 3689348814741910323) + ((((i - (((i.toUInt64 >>> ((Int32.toInt64 1).toUInt64 &&& Int64.toUInt64 63)).toInt64) &&& 6148914691236517205)).toUInt64 >>> ((Int32.toInt64 2).toUInt64 &&& Int64.toUInt64 63)).toInt64) &&& 3689348814741910323)) + (((((i - (((i.toUInt64 >>> ((Int32.toInt64 1).toUInt64 &&& Int64.toUInt64 63)).toInt64) &&& 6148914691236517205)) &&& 3689348814741910323) + ((((i - (((i.toUInt64 >>> ((Int32.toInt64 1).toUInt64 &&& Int64.toUInt64 63)).toInt64) &&& 6148914691236517205)).toUInt64 >>> ((Int32.toInt64 2).toUInt64 &&& Int64.toUInt64 63)).toInt64) &&& 3689348814741910323)).toUInt64 >>> ((Int32.toInt64 4).toUInt64 &&& Int64.toUInt64 63)).toInt64)) &&& 1085102592571150095) + (((((((i - (((i.toUInt64 >>> ((Int32.toInt64 1).toUInt64 &&& Int64.toUInt64 63)).toInt64) &&& 6148914691236517205)) &&& 3689348814741910323) + ((((i - (((i.toUInt64 >>> ((Int32.toInt64 1).toUInt64 &&& Int64.toUInt64 63)).toInt64) &&& 6148914691236517205)).toUInt64 >>> ((Int32.toInt64 2).toUInt64 &&& Int64.toUInt64 63)).toInt64) &&& 3689348814741910323)) + (((((i - (((i.toUInt64 >>> ((Int32.toInt64 1).toUInt64 &&& Int64.toUInt64 63)).toInt64) &&& 6148914691236517205)) &&& 3689348814741910323) + ((((i - (((i.toUInt64 >>> ((Int32.toInt64 1).toUInt64 &&& Int64.toUInt64 63)).toInt64) &&& 6148914691236517205)).toUInt64 >>> ((Int32.toInt64 2).toUInt64 &&& Int64.toUInt64 63)).toInt64) &&& 3689348814741910323)).toUInt64 >>> ((Int32.toInt64 4).toUInt64 &&& Int64.toUInt64 63)).toInt64)) &&& 1085102592571150095).toUInt64 >>> ((Int32.toInt64 8).toUInt64 &&& Int64.toUInt64 63)).toInt64)) + ((((((((i - (((i.toUInt64 >>> ((Int32.toInt64 1).toUInt64 &&& Int64.toUInt64 63)).toInt64) &&& 6148914691236517205)) &&& 3689348814741910323) + ((((i - (((i.toUInt64 >>> ((Int32.toInt64 1).toUInt64 &&& Int64.toUInt64 63)).toInt64) &&& 6148914691236517205)).toUInt64 >>> ((Int32.toInt64 2).toUInt64 &&& Int64.toUInt64 63)).toInt64) &&& 3689348814741910323)) + (((((i - (((i.toUInt64 >>> ((Int32.toInt64 1).toUInt64 &&& Int64.toUInt64 63)).toInt64) &&& 6148914691236517205)) &&& 3689348814741910323) + ((((i - (((i.toUInt64 >>> ((Int32.toInt64 1).toUInt64 &&& Int64.toUInt64 63)).toInt64) &&& 6148914691236517205)).toUInt64 >>> ((Int32.toInt64 2).toUInt64 &&& Int64.toUInt64 63)).toInt64) &&& 3689348814741910323)).toUInt64 >>> ((Int32.toInt64 4).toUInt64 &&& Int64.toUInt64 63)).toInt64)) &&& 1085102592571150095) + (((((((i - (((i.toUInt64 >>> ((Int32.toInt64 1).toUInt64 &&& Int64.toUInt64 63)).toInt64) &&& 6148914691236517205)) &&& 3689348814741910323) + ((((i - (((i.toUInt64 >>> ((Int32.toInt64 1).toUInt64 &&& Int64.toUInt64 63)).toInt64) &&& 6148914691236517205)).toUInt64 >>> ((Int32.toInt64 2).toUInt64 &&& Int64.toUInt64 63)).toInt64) &&& 3689348814741910323)) + (((((i - (((i.toUInt64 >>> ((Int32.toInt64 1).toUInt64 &&& Int64.toUInt64 63)).toInt64) &&& 6148914691236517205)) &&& 3689348814741910323) + ((((i - (((i.toUInt64 >>> ((Int32.toInt64 1).toUInt64 &&& Int64.toUInt64 63)).toInt64) &&& 6148914691236517205)).toUInt64 >>> ((Int32.toInt64 2).toUInt64 &&& Int64.toUInt64 63)).toInt64) &&& 3689348814741910323)).toUInt64 >>> ((Int32.toInt64 4).toUInt64 &&& Int64.toUInt64 63)).toInt64)) &&& 1085102592571150095).toUInt64 >>> ((Int32.toInt64 8).toUInt64 &&& Int64.toUInt64 63)).toInt64)).toUInt64 >>> ((Int32.toInt64 16).toUInt64 &&& Int64.toUInt64 63)).toInt64)).toUInt64 >>> ((Int32.toInt64 32).toUInt64 &&& Int64.toUInt64 63)).toInt64) rfl dJ13_bitCount_95d88_52 ?_
  refine aw_ladd X (pc := 53) (z := (((((((i - (((i.toUInt64 >>> ((Int32.toInt64 1).toUInt64 &&& Int64.toUInt64 63)).toInt64) &&& 6148914691236517205)) &&& 3689348814741910323) + ((((i - (((i.toUInt64 >>> ((Int32.toInt64 1).toUInt64 &&& Int64.toUInt64 63)).toInt64) &&& 6148914691236517205)).toUInt64 >>> ((Int32.toInt64 2).toUInt64 &&& Int64.toUInt64 63)).toInt64) &&& 3689348814741910323)) + (((((i - (((i.toUInt64 >>> ((Int32.toInt64 1).toUInt64 &&& Int64.toUInt64 63)).toInt64) &&& 6148914691236517205)) &&& 3689348814741910323) + ((((i - (((i.toUInt64 >>> ((Int32.toInt64 1).toUInt64 &&& Int64.toUInt64 63)).toInt64) &&& 6148914691236517205)).toUInt64 >>> ((Int32.toInt64 2).toUInt64 &&& Int64.toUInt64 63)).toInt64) &&& 3689348814741910323)).toUInt64 >>> ((Int32.toInt64 4).toUInt64 &&& Int64.toUInt64 63)).toInt64)) &&& 1085102592571150095) + (((((((i - (((i.toUInt64 >>> ((Int32.toInt64 1).toUInt64 &&& Int64.toUInt64 63)).toInt64) &&& 6148914691236517205)) &&& 3689348814741910323) + ((((i - (((i.toUInt64 >>> ((Int32.toInt64 1).toUInt64 &&& Int64.toUInt64 63)).toInt64) &&& 6148914691236517205)).toUInt64 >>> ((Int32.toInt64 2).toUInt64 &&& Int64.toUInt64 63)).toInt64) &&& 3689348814741910323)) + (((((i - (((i.toUInt64 >>> ((Int32.toInt64 1).toUInt64 &&& Int64.toUInt64 63)).toInt64) &&& 6148914691236517205)) &&& 3689348814741910323) + ((((i - (((i.toUInt64 >>> ((Int32.toInt64 1).toUInt64 &&& Int64.toUInt64 63)).toInt64) &&& 6148914691236517205)).toUInt64 >>> ((Int32.toInt64 2).toUInt64 &&& Int64.toUInt64 63)).toInt64) &&& 3689348814741910323)).toUInt64 >>> ((Int32.toInt64 4).toUInt64 &&& Int64.toUInt64 63)).toInt64)) &&& 1085102592571150095).toUInt64 >>> ((Int32.toInt64 8).toUInt64 &&& Int64.toUInt64 63)).toInt64)) + ((((((((i - (((i.toUInt64 >>> ((Int32.toInt64 1).toUInt64 &&& Int64.toUInt64 63)).toInt64) &&& 6148914691236517205)) &&& 3689348814741910323) + ((((i - (((i.toUInt64 >>> ((Int32.toInt64 1).toUInt64 &&& Int64.toUInt64 63)).toInt64) &&& 6148914691236517205)).toUInt64 >>> ((Int32.toInt64 2).toUInt64 &&& Int64.toUInt64 63)).toInt64) &&& 3689348814741910323)) + (((((i - (((i.toUInt64 >>> ((Int32.toInt64 1).toUInt64 &&& Int64.toUInt64 63)).toInt64) &&& 6148914691236517205)) &&& 3689348814741910323) + ((((i - (((i.toUInt64 >>> ((Int32.toInt64 1).toUInt64 &&& Int64.toUInt64 63)).toInt64) &&& 6148914691236517205)).toUInt64 >>> ((Int32.toInt64 2).toUInt64 &&& Int64.toUInt64 63)).toInt64) &&& 3689348814741910323)).toUInt64 >>> ((Int32.toInt64 4).toUInt64 &&& Int64.toUInt64 63)).toInt64)) &&& 1085102592571150095) + (((((((i - (((i.toUInt64 >>> ((Int32.toInt64 1).toUInt64 &&& Int64.toUInt64 63)).toInt64) &&& 6148914691236517205)) &&& 3689348814741910323) + ((((i - (((i.toUInt64 >>> ((Int32.toInt64 1).toUInt64 &&& Int64.toUInt64 63)).toInt64) &&& 6148914691236517205)).toUInt64 >>> ((Int32.toInt64 2).toUInt64 &&& Int64.toUInt64 63)).toInt64) &&& 3689348814741910323)) + (((((i - (((i.toUInt64 >>> ((Int32.toInt64 1).toUInt64 &&& Int64.toUInt64 63)).toInt64) &&& 6148914691236517205)) &&& 3689348814741910323) + ((((i - (((i.toUInt64 >>> ((Int32.toInt64 1).toUInt64 &&& Int64.toUInt64 63)).toInt64) &&& 6148914691236517205)).toUInt64 >>> ((Int32.toInt64 2).toUInt64 &&& Int64.toUInt64 63)).toInt64) &&& 3689348814741910323)).toUInt64 >>> ((Int32.toInt64 4).toUInt64 &&& Int64.toUInt64 63)).toInt64)) &&& 1085102592571150095).toUInt64 >>> ((Int32.toInt64 8).toUInt64 &&& Int64.toUInt64 63)).toInt64)).toUInt64 >>> ((Int32.toInt64 16).toUInt64 &&& Int64.toUInt64 63)).toInt64)) + (((((((((i - (((i.toUInt64 >>> ((Int32.toInt64 1).toUInt64 &&& Int64.toUInt64 63)).toInt64) &&& 6148914691236517205)) &&& 3689348814741910323) + ((((i - (((i.toUInt64 >>> ((Int32.toInt64 1).toUInt64 &&& Int64.toUInt64 63)).toInt64) &&& 6148914691236517205)).toUInt64 >>> ((Int32.toInt64 2).toUInt64 &&& Int64.toUInt64 63)).toInt64) &&& 3689348814741910323)) + (((((i - (((i.toUInt64 >>> ((Int32.toInt64 1).toUInt64 &&& Int64.toUInt64 63)).toInt64) &&& 6148914691236517205)) &&& 3689348814741910323) + ((((i - (((i.toUInt64 >>> ((Int32.toInt64 1).toUInt64 &&& Int64.toUInt64 63)).toInt64) &&& 6148914691236517205)).toUInt64 >>> ((Int32.toInt64 2).toUInt64 &&& Int64.toUInt64 63)).toInt64) &&& 3689348814741910323)).toUInt64 >>> ((Int32.toInt64 4).toUInt64 &&& Int64.toUInt64 63)).toInt64)) &&& 1085102592571150095) + (((((((i - (((i.toUInt64 >>> ((Int32.toInt64 1).toUInt64 &&& Int64.toUInt64 63)).toInt64) &&& 6148914691236517205)) &&& 3689348814741910323) + ((((i - (((i.toUInt64 >>> ((Int32.toInt64 1).toUInt64 &&& Int64.toUInt64 63)).toInt64) &&& 6148914691236517205)).toUInt64 >>> ((Int32.toInt64 2).toUInt64 &&& Int64.toUInt64 63)).toInt64) &&& 3689348814741910323)) + (((((i - (((i.toUInt64 >>> ((Int32.toInt64 1).toUInt64 &&& Int64.toUInt64 63)).toInt64) &&& 6148914691236517205)) &&& 3689348814741910323) + ((((i - (((i.toUInt64 >>> ((Int32.toInt64 1).toUInt64 &&& Int64.toUInt64 63)).toInt64) &&& 6148914691236517205)).toUInt64 >>> ((Int32.toInt64 2).toUInt64 &&& Int64.toUInt64 63)).toInt64) &&& 3689348814741910323)).toUInt64 >>> ((Int32.toInt64 4).toUInt64 &&& Int64.toUInt64 63)).toInt64)) &&& 1085102592571150095).toUInt64 >>> ((Int32.toInt64 8).toUInt64 &&& Int64.toUInt64 63)).toInt64)) + ((((((((i - (((i.toUInt64 >>> ((Int32.toInt64 1).toUInt64 &&& Int64.toUInt64 63)).toInt64) &&& 6148914691236517205)) &&& 3689348814741910323) + ((((i - (((i.toUInt64 >>> ((Int32.toInt64 1).toUInt64 &&& Int64.toUInt64 63)).toInt64) &&& 6148914691236517205)).toUInt64 >>> ((Int32.toInt64 2).toUInt64 &&& Int64.toUInt64 63)).toInt64) &&& 3689348814741910323)) + (((((i - (((i.toUInt64 >>> ((Int32.toInt64 1).toUInt64 &&& Int64.toUInt64 63)).toInt64) &&& 6148914691236517205)) &&& 3689348814741910323) + ((((i - (((i.toUInt64 >>> ((Int32.toInt64 1).toUInt64 &&& Int64.toUInt64 63)).toInt64) &&& 6148914691236517205)).toUInt64 >>> ((Int32.toInt64 2).toUInt64 &&& Int64.toUInt64 63)).toInt64) &&& 3689348814741910323)).toUInt64 >>> ((Int32.toInt64 4).toUInt64 &&& Int64.toUInt64 63)).toInt64)) &&& 1085102592571150095) + (((((((i - (((i.toUInt64 >>> ((Int32.toInt64 1).toUInt64 &&& Int64.toUInt64 63)).toInt64) &&& 6148914691236517205)) &&& 3689348814741910323) + ((((i - (((i.toUInt64 >>> ((Int32.toInt64 1).toUInt64 &&& Int64.toUInt64 63)).toInt64) &&& 6148914691236517205)).toUInt64 >>> ((Int32.toInt64 2).toUInt64 &&& Int64.toUInt64 63)).toInt64) &&& 3689348814741910323)) + (((((i - (((i.toUInt64 >>> ((Int32.toInt64 1).toUInt64 &&& Int64.toUInt64 63)).toInt64) &&& 6148914691236517205)) &&& 3689348814741910323) + ((((i - (((i.toUInt64 >>> ((Int32.toInt64 1).toUInt64 &&& Int64.toUInt64 63)).toInt64) &&& 6148914691236517205)).toUInt64 >>> ((Int32.toInt64 2).toUInt64 &&& Int64.toUInt64 63)).toInt64) &&& 3689348814741910323)).toUInt64 >>> ((Int32.toInt64 4).toUInt64 &&& Int64.toUInt64 63)).toInt64)) &&& 1085102592571150095).toUInt64 >>> ((Int32.toInt64 8).toUInt64 &&& Int64.toUInt64 63)).toInt64)).toUInt64 >>> ((Int32.toInt64 16).toUInt64 &&& Int64.toUInt64 63)).toInt64)).toUInt64 >>> ((Int32.toInt64 32).toUInt64 &&& Int64.toUInt64 63)).toInt64)) rfl dJ13_bitCount_95d88_53 ?_
  refine aw_lstore_n X (pc := 54) (lv' := [(0, .long ((((((((i - (((i.toUInt64 >>> ((Int32.toInt64 1).toUInt64 &&& Int64.toUInt64 63)).toInt64) &&& 6148914691236517205)) &&& 3689348814741910323) + ((((i - (((i.toUInt64 >>> ((Int32.toInt64 1).toUInt64 &&& Int64.toUInt64 63)).toInt64) &&& 6148914691236517205)).toUInt64 >>> ((Int32.toInt64 2).toUInt64 &&& Int64.toUInt64 63)).toInt64) &&& 3689348814741910323)) + (((((i - (((i.toUInt64 >>> ((Int32.toInt64 1).toUInt64 &&& Int64.toUInt64 63)).toInt64) &&& 6148914691236517205)) &&& 3689348814741910323) + ((((i - (((i.toUInt64 >>> ((Int32.toInt64 1).toUInt64 &&& Int64.toUInt64 63)).toInt64) &&& 6148914691236517205)).toUInt64 >>> ((Int32.toInt64 2).toUInt64 &&& Int64.toUInt64 63)).toInt64) &&& 3689348814741910323)).toUInt64 >>> ((Int32.toInt64 4).toUInt64 &&& Int64.toUInt64 63)).toInt64)) &&& 1085102592571150095) + (((((((i - (((i.toUInt64 >>> ((Int32.toInt64 1).toUInt64 &&& Int64.toUInt64 63)).toInt64) &&& 6148914691236517205)) &&& 3689348814741910323) + ((((i - (((i.toUInt64 >>> ((Int32.toInt64 1).toUInt64 &&& Int64.toUInt64 63)).toInt64) &&& 6148914691236517205)).toUInt64 >>> ((Int32.toInt64 2).toUInt64 &&& Int64.toUInt64 63)).toInt64) &&& 3689348814741910323)) + (((((i - (((i.toUInt64 >>> ((Int32.toInt64 1).toUInt64 &&& Int64.toUInt64 63)).toInt64) &&& 6148914691236517205)) &&& 3689348814741910323) + ((((i - (((i.toUInt64 >>> ((Int32.toInt64 1).toUInt64 &&& Int64.toUInt64 63)).toInt64) &&& 6148914691236517205)).toUInt64 >>> ((Int32.toInt64 2).toUInt64 &&& Int64.toUInt64 63)).toInt64) &&& 3689348814741910323)).toUInt64 >>> ((Int32.toInt64 4).toUInt64 &&& Int64.toUInt64 63)).toInt64)) &&& 1085102592571150095).toUInt64 >>> ((Int32.toInt64 8).toUInt64 &&& Int64.toUInt64 63)).toInt64)) + ((((((((i - (((i.toUInt64 >>> ((Int32.toInt64 1).toUInt64 &&& Int64.toUInt64 63)).toInt64) &&& 6148914691236517205)) &&& 3689348814741910323) + ((((i - (((i.toUInt64 >>> ((Int32.toInt64 1).toUInt64 &&& Int64.toUInt64 63)).toInt64) &&& 6148914691236517205)).toUInt64 >>> ((Int32.toInt64 2).toUInt64 &&& Int64.toUInt64 63)).toInt64) &&& 3689348814741910323)) + (((((i - (((i.toUInt64 >>> ((Int32.toInt64 1).toUInt64 &&& Int64.toUInt64 63)).toInt64) &&& 6148914691236517205)) &&& 3689348814741910323) + ((((i - (((i.toUInt64 >>> ((Int32.toInt64 1).toUInt64 &&& Int64.toUInt64 63)).toInt64) &&& 6148914691236517205)).toUInt64 >>> ((Int32.toInt64 2).toUInt64 &&& Int64.toUInt64 63)).toInt64) &&& 3689348814741910323)).toUInt64 >>> ((Int32.toInt64 4).toUInt64 &&& Int64.toUInt64 63)).toInt64)) &&& 1085102592571150095) + (((((((i - (((i.toUInt64 >>> ((Int32.toInt64 1).toUInt64 &&& Int64.toUInt64 63)).toInt64) &&& 6148914691236517205)) &&& 3689348814741910323) + ((((i - (((i.toUInt64 >>> ((Int32.toInt64 1).toUInt64 &&& Int64.toUInt64 63)).toInt64) &&& 6148914691236517205)).toUInt64 >>> ((Int32.toInt64 2).toUInt64 &&& Int64.toUInt64 63)).toInt64) &&& 3689348814741910323)) + (((((i - (((i.toUInt64 >>> ((Int32.toInt64 1).toUInt64 &&& Int64.toUInt64 63)).toInt64) &&& 6148914691236517205)) &&& 3689348814741910323) + ((((i - (((i.toUInt64 >>> ((Int32.toInt64 1).toUInt64 &&& Int64.toUInt64 63)).toInt64) &&& 6148914691236517205)).toUInt64 >>> ((Int32.toInt64 2).toUInt64 &&& Int64.toUInt64 63)).toInt64) &&& 3689348814741910323)).toUInt64 >>> ((Int32.toInt64 4).toUInt64 &&& Int64.toUInt64 63)).toInt64)) &&& 1085102592571150095).toUInt64 >>> ((Int32.toInt64 8).toUInt64 &&& Int64.toUInt64 63)).toInt64)).toUInt64 >>> ((Int32.toInt64 16).toUInt64 &&& Int64.toUInt64 63)).toInt64)) + (((((((((i - (((i.toUInt64 >>> ((Int32.toInt64 1).toUInt64 &&& Int64.toUInt64 63)).toInt64) &&& 6148914691236517205)) &&& 3689348814741910323) + ((((i - (((i.toUInt64 >>> ((Int32.toInt64 1).toUInt64 &&& Int64.toUInt64 63)).toInt64) &&& 6148914691236517205)).toUInt64 >>> ((Int32.toInt64 2).toUInt64 &&& Int64.toUInt64 63)).toInt64) &&& 3689348814741910323)) + (((((i - (((i.toUInt64 >>> ((Int32.toInt64 1).toUInt64 &&& Int64.toUInt64 63)).toInt64) &&& 6148914691236517205)) &&& 3689348814741910323) + ((((i - (((i.toUInt64 >>> ((Int32.toInt64 1).toUInt64 &&& Int64.toUInt64 63)).toInt64) &&& 6148914691236517205)).toUInt64 >>> ((Int32.toInt64 2).toUInt64 &&& Int64.toUInt64 63)).toInt64) &&& 3689348814741910323)).toUInt64 >>> ((Int32.toInt64 4).toUInt64 &&& Int64.toUInt64 63)).toInt64)) &&& 1085102592571150095) + (((((((i - (((i.toUInt64 >>> ((Int32.toInt64 1).toUInt64 &&& Int64.toUInt64 63)).toInt64) &&& 6148914691236517205)) &&& 3689348814741910323) + ((((i - (((i.toUInt64 >>> ((Int32.toInt64 1).toUInt64 &&& Int64.toUInt64 63)).toInt64) &&& 6148914691236517205)).toUInt64 >>> ((Int32.toInt64 2).toUInt64 &&& Int64.toUInt64 63)).toInt64) &&& 3689348814741910323)) + (((((i - (((i.toUInt64 >>> ((Int32.toInt64 1).toUInt64 &&& Int64.toUInt64 63)).toInt64) &&& 6148914691236517205)) &&& 3689348814741910323) + ((((i - (((i.toUInt64 >>> ((Int32.toInt64 1).toUInt64 &&& Int64.toUInt64 63)).toInt64) &&& 6148914691236517205)).toUInt64 >>> ((Int32.toInt64 2).toUInt64 &&& Int64.toUInt64 63)).toInt64) &&& 3689348814741910323)).toUInt64 >>> ((Int32.toInt64 4).toUInt64 &&& Int64.toUInt64 63)).toInt64)) &&& 1085102592571150095).toUInt64 >>> ((Int32.toInt64 8).toUInt64 &&& Int64.toUInt64 63)).toInt64)) + ((((((((i - (((i.toUInt64 >>> ((Int32.toInt64 1).toUInt64 &&& Int64.toUInt64 63)).toInt64) &&& 6148914691236517205)) &&& 3689348814741910323) + ((((i - (((i.toUInt64 >>> ((Int32.toInt64 1).toUInt64 &&& Int64.toUInt64 63)).toInt64) &&& 6148914691236517205)).toUInt64 >>> ((Int32.toInt64 2).toUInt64 &&& Int64.toUInt64 63)).toInt64) &&& 3689348814741910323)) + (((((i - (((i.toUInt64 >>> ((Int32.toInt64 1).toUInt64 &&& Int64.toUInt64 63)).toInt64) &&& 6148914691236517205)) &&& 3689348814741910323) + ((((i - (((i.toUInt64 >>> ((Int32.toInt64 1).toUInt64 &&& Int64.toUInt64 63)).toInt64) &&& 6148914691236517205)).toUInt64 >>> ((Int32.toInt64 2).toUInt64 &&& Int64.toUInt64 63)).toInt64) &&& 3689348814741910323)).toUInt64 >>> ((Int32.toInt64 4).toUInt64 &&& Int64.toUInt64 63)).toInt64)) &&& 1085102592571150095) + (((((((i - (((i.toUInt64 >>> ((Int32.toInt64 1).toUInt64 &&& Int64.toUInt64 63)).toInt64) &&& 6148914691236517205)) &&& 3689348814741910323) + ((((i - (((i.toUInt64 >>> ((Int32.toInt64 1).toUInt64 &&& Int64.toUInt64 63)).toInt64) &&& 6148914691236517205)).toUInt64 >>> ((Int32.toInt64 2).toUInt64 &&& Int64.toUInt64 63)).toInt64) &&& 3689348814741910323)) + (((((i - (((i.toUInt64 >>> ((Int32.toInt64 1).toUInt64 &&& Int64.toUInt64 63)).toInt64) &&& 6148914691236517205)) &&& 3689348814741910323) + ((((i - (((i.toUInt64 >>> ((Int32.toInt64 1).toUInt64 &&& Int64.toUInt64 63)).toInt64) &&& 6148914691236517205)).toUInt64 >>> ((Int32.toInt64 2).toUInt64 &&& Int64.toUInt64 63)).toInt64) &&& 3689348814741910323)).toUInt64 >>> ((Int32.toInt64 4).toUInt64 &&& Int64.toUInt64 63)).toInt64)) &&& 1085102592571150095).toUInt64 >>> ((Int32.toInt64 8).toUInt64 &&& Int64.toUInt64 63)).toInt64)).toUInt64 >>> ((Int32.toInt64 16).toUInt64 &&& Int64.toUInt64 63)).toInt64)).toUInt64 >>> ((Int32.toInt64 32).toUInt64 &&& Int64.toUInt64 63)).toInt64)))]) rfl (by decide) rfl dJ13_bitCount_95d88_54 ?_
  refine aw_lload_n X (pc := 55) 0 rfl rfl dJ13_bitCount_95d88_55 ?_
  refine aw_l2i X (pc := 56) (z := ((((((((i - (((i.toUInt64 >>> ((Int32.toInt64 1).toUInt64 &&& Int64.toUInt64 63)).toInt64) &&& 6148914691236517205)) &&& 3689348814741910323) + ((((i - (((i.toUInt64 >>> ((Int32.toInt64 1).toUInt64 &&& Int64.toUInt64 63)).toInt64) &&& 6148914691236517205)).toUInt64 >>> ((Int32.toInt64 2).toUInt64 &&& Int64.toUInt64 63)).toInt64) &&& 3689348814741910323)) + (((((i - (((i.toUInt64 >>> ((Int32.toInt64 1).toUInt64 &&& Int64.toUInt64 63)).toInt64) &&& 6148914691236517205)) &&& 3689348814741910323) + ((((i - (((i.toUInt64 >>> ((Int32.toInt64 1).toUInt64 &&& Int64.toUInt64 63)).toInt64) &&& 6148914691236517205)).toUInt64 >>> ((Int32.toInt64 2).toUInt64 &&& Int64.toUInt64 63)).toInt64) &&& 3689348814741910323)).toUInt64 >>> ((Int32.toInt64 4).toUInt64 &&& Int64.toUInt64 63)).toInt64)) &&& 1085102592571150095) + (((((((i - (((i.toUInt64 >>> ((Int32.toInt64 1).toUInt64 &&& Int64.toUInt64 63)).toInt64) &&& 6148914691236517205)) &&& 3689348814741910323) + ((((i - (((i.toUInt64 >>> ((Int32.toInt64 1).toUInt64 &&& Int64.toUInt64 63)).toInt64) &&& 6148914691236517205)).toUInt64 >>> ((Int32.toInt64 2).toUInt64 &&& Int64.toUInt64 63)).toInt64) &&& 3689348814741910323)) + (((((i - (((i.toUInt64 >>> ((Int32.toInt64 1).toUInt64 &&& Int64.toUInt64 63)).toInt64) &&& 6148914691236517205)) &&& 3689348814741910323) + ((((i - (((i.toUInt64 >>> ((Int32.toInt64 1).toUInt64 &&& Int64.toUInt64 63)).toInt64) &&& 6148914691236517205)).toUInt64 >>> ((Int32.toInt64 2).toUInt64 &&& Int64.toUInt64 63)).toInt64) &&& 3689348814741910323)).toUInt64 >>> ((Int32.toInt64 4).toUInt64 &&& Int64.toUInt64 63)).toInt64)) &&& 1085102592571150095).toUInt64 >>> ((Int32.toInt64 8).toUInt64 &&& Int64.toUInt64 63)).toInt64)) + ((((((((i - (((i.toUInt64 >>> ((Int32.toInt64 1).toUInt64 &&& Int64.toUInt64 63)).toInt64) &&& 6148914691236517205)) &&& 3689348814741910323) + ((((i - (((i.toUInt64 >>> ((Int32.toInt64 1).toUInt64 &&& Int64.toUInt64 63)).toInt64) &&& 6148914691236517205)).toUInt64 >>> ((Int32.toInt64 2).toUInt64 &&& Int64.toUInt64 63)).toInt64) &&& 3689348814741910323)) + (((((i - (((i.toUInt64 >>> ((Int32.toInt64 1).toUInt64 &&& Int64.toUInt64 63)).toInt64) &&& 6148914691236517205)) &&& 3689348814741910323) + ((((i - (((i.toUInt64 >>> ((Int32.toInt64 1).toUInt64 &&& Int64.toUInt64 63)).toInt64) &&& 6148914691236517205)).toUInt64 >>> ((Int32.toInt64 2).toUInt64 &&& Int64.toUInt64 63)).toInt64) &&& 3689348814741910323)).toUInt64 >>> ((Int32.toInt64 4).toUInt64 &&& Int64.toUInt64 63)).toInt64)) &&& 1085102592571150095) + (((((((i - (((i.toUInt64 >>> ((Int32.toInt64 1).toUInt64 &&& Int64.toUInt64 63)).toInt64) &&& 6148914691236517205)) &&& 3689348814741910323) + ((((i - (((i.toUInt64 >>> ((Int32.toInt64 1).toUInt64 &&& Int64.toUInt64 63)).toInt64) &&& 6148914691236517205)).toUInt64 >>> ((Int32.toInt64 2).toUInt64 &&& Int64.toUInt64 63)).toInt64) &&& 3689348814741910323)) + (((((i - (((i.toUInt64 >>> ((Int32.toInt64 1).toUInt64 &&& Int64.toUInt64 63)).toInt64) &&& 6148914691236517205)) &&& 3689348814741910323) + ((((i - (((i.toUInt64 >>> ((Int32.toInt64 1).toUInt64 &&& Int64.toUInt64 63)).toInt64) &&& 6148914691236517205)).toUInt64 >>> ((Int32.toInt64 2).toUInt64 &&& Int64.toUInt64 63)).toInt64) &&& 3689348814741910323)).toUInt64 >>> ((Int32.toInt64 4).toUInt64 &&& Int64.toUInt64 63)).toInt64)) &&& 1085102592571150095).toUInt64 >>> ((Int32.toInt64 8).toUInt64 &&& Int64.toUInt64 63)).toInt64)).toUInt64 >>> ((Int32.toInt64 16).toUInt64 &&& Int64.toUInt64 63)).toInt64)) + (((((((((i - (((i.toUInt64 >>> ((Int32.toInt64 1).toUInt64 &&& Int64.toUInt64 63)).toInt64) &&& 6148914691236517205)) &&& 3689348814741910323) + ((((i - (((i.toUInt64 >>> ((Int32.toInt64 1).toUInt64 &&& Int64.toUInt64 63)).toInt64) &&& 6148914691236517205)).toUInt64 >>> ((Int32.toInt64 2).toUInt64 &&& Int64.toUInt64 63)).toInt64) &&& 3689348814741910323)) + (((((i - (((i.toUInt64 >>> ((Int32.toInt64 1).toUInt64 &&& Int64.toUInt64 63)).toInt64) &&& 6148914691236517205)) &&& 3689348814741910323) + ((((i - (((i.toUInt64 >>> ((Int32.toInt64 1).toUInt64 &&& Int64.toUInt64 63)).toInt64) &&& 6148914691236517205)).toUInt64 >>> ((Int32.toInt64 2).toUInt64 &&& Int64.toUInt64 63)).toInt64) &&& 3689348814741910323)).toUInt64 >>> ((Int32.toInt64 4).toUInt64 &&& Int64.toUInt64 63)).toInt64)) &&& 1085102592571150095) + (((((((i - (((i.toUInt64 >>> ((Int32.toInt64 1).toUInt64 &&& Int64.toUInt64 63)).toInt64) &&& 6148914691236517205)) &&& 3689348814741910323) + ((((i - (((i.toUInt64 >>> ((Int32.toInt64 1).toUInt64 &&& Int64.toUInt64 63)).toInt64) &&& 6148914691236517205)).toUInt64 >>> ((Int32.toInt64 2).toUInt64 &&& Int64.toUInt64 63)).toInt64) &&& 3689348814741910323)) + (((((i - (((i.toUInt64 >>> ((Int32.toInt64 1).toUInt64 &&& Int64.toUInt64 63)).toInt64) &&& 6148914691236517205)) &&& 3689348814741910323) + ((((i - (((i.toUInt64 >>> ((Int32.toInt64 1).toUInt64 &&& Int64.toUInt64 63)).toInt64) &&& 6148914691236517205)).toUInt64 >>> ((Int32.toInt64 2).toUInt64 &&& Int64.toUInt64 63)).toInt64) &&& 3689348814741910323)).toUInt64 >>> ((Int32.toInt64 4).toUInt64 &&& Int64.toUInt64 63)).toInt64)) &&& 1085102592571150095).toUInt64 >>> ((Int32.toInt64 8).toUInt64 &&& Int64.toUInt64 63)).toInt64)) + ((((((((i - (((i.toUInt64 >>> ((Int32.toInt64 1).toUInt64 &&& Int64.toUInt64 63)).toInt64) &&& 6148914691236517205)) &&& 3689348814741910323) + ((((i - (((i.toUInt64 >>> ((Int32.toInt64 1).toUInt64 &&& Int64.toUInt64 63)).toInt64) &&& 6148914691236517205)).toUInt64 >>> ((Int32.toInt64 2).toUInt64 &&& Int64.toUInt64 63)).toInt64) &&& 3689348814741910323)) + (((((i - (((i.toUInt64 >>> ((Int32.toInt64 1).toUInt64 &&& Int64.toUInt64 63)).toInt64) &&& 6148914691236517205)) &&& 3689348814741910323) + ((((i - (((i.toUInt64 >>> ((Int32.toInt64 1).toUInt64 &&& Int64.toUInt64 63)).toInt64) &&& 6148914691236517205)).toUInt64 >>> ((Int32.toInt64 2).toUInt64 &&& Int64.toUInt64 63)).toInt64) &&& 3689348814741910323)).toUInt64 >>> ((Int32.toInt64 4).toUInt64 &&& Int64.toUInt64 63)).toInt64)) &&& 1085102592571150095) + (((((((i - (((i.toUInt64 >>> ((Int32.toInt64 1).toUInt64 &&& Int64.toUInt64 63)).toInt64) &&& 6148914691236517205)) &&& 3689348814741910323) + ((((i - (((i.toUInt64 >>> ((Int32.toInt64 1).toUInt64 &&& Int64.toUInt64 63)).toInt64) &&& 6148914691236517205)).toUInt64 >>> ((Int32.toInt64 2).toUInt64 &&& Int64.toUInt64 63)).toInt64) &&& 3689348814741910323)) + (((((i - (((i.toUInt64 >>> ((Int32.toInt64 1).toUInt64 &&& Int64.toUInt64 63)).toInt64) &&& 6148914691236517205)) &&& 3689348814741910323) + ((((i - (((i.toUInt64 >>> ((Int32.toInt64 1).toUInt64 &&& Int64.toUInt64 63)).toInt64) &&& 6148914691236517205)).toUInt64 >>> ((Int32.toInt64 2).toUInt64 &&& Int64.toUInt64 63)).toInt64) &&& 3689348814741910323)).toUInt64 >>> ((Int32.toInt64 4).toUInt64 &&& Int64.toUInt64 63)).toInt64)) &&& 1085102592571150095).toUInt64 >>> ((Int32.toInt64 8).toUInt64 &&& Int64.toUInt64 63)).toInt64)).toUInt64 >>> ((Int32.toInt64 16).toUInt64 &&& Int64.toUInt64 63)).toInt64)).toUInt64 >>> ((Int32.toInt64 32).toUInt64 &&& Int64.toUInt64 63)).toInt64)).toInt32) rfl dJ13_bitCount_95d88_56 ?_
  refine aw_bipush X (pc := 57) (v := 127) dJ13_bitCount_95d88_57 (by decide) ?_
  refine aw_iand X (pc := 59) (z := (((((((((i - (((i.toUInt64 >>> ((Int32.toInt64 1).toUInt64 &&& Int64.toUInt64 63)).toInt64) &&& 6148914691236517205)) &&& 3689348814741910323) + ((((i - (((i.toUInt64 >>> ((Int32.toInt64 1).toUInt64 &&& Int64.toUInt64 63)).toInt64) &&& 6148914691236517205)).toUInt64 >>> ((Int32.toInt64 2).toUInt64 &&& Int64.toUInt64 63)).toInt64) &&& 3689348814741910323)) + (((((i - (((i.toUInt64 >>> ((Int32.toInt64 1).toUInt64 &&& Int64.toUInt64 63)).toInt64) &&& 6148914691236517205)) &&& 3689348814741910323) + ((((i - (((i.toUInt64 >>> ((Int32.toInt64 1).toUInt64 &&& Int64.toUInt64 63)).toInt64) &&& 6148914691236517205)).toUInt64 >>> ((Int32.toInt64 2).toUInt64 &&& Int64.toUInt64 63)).toInt64) &&& 3689348814741910323)).toUInt64 >>> ((Int32.toInt64 4).toUInt64 &&& Int64.toUInt64 63)).toInt64)) &&& 1085102592571150095) + (((((((i - (((i.toUInt64 >>> ((Int32.toInt64 1).toUInt64 &&& Int64.toUInt64 63)).toInt64) &&& 6148914691236517205)) &&& 3689348814741910323) + ((((i - (((i.toUInt64 >>> ((Int32.toInt64 1).toUInt64 &&& Int64.toUInt64 63)).toInt64) &&& 6148914691236517205)).toUInt64 >>> ((Int32.toInt64 2).toUInt64 &&& Int64.toUInt64 63)).toInt64) &&& 3689348814741910323)) + (((((i - (((i.toUInt64 >>> ((Int32.toInt64 1).toUInt64 &&& Int64.toUInt64 63)).toInt64) &&& 6148914691236517205)) &&& 3689348814741910323) + ((((i - (((i.toUInt64 >>> ((Int32.toInt64 1).toUInt64 &&& Int64.toUInt64 63)).toInt64) &&& 6148914691236517205)).toUInt64 >>> ((Int32.toInt64 2).toUInt64 &&& Int64.toUInt64 63)).toInt64) &&& 3689348814741910323)).toUInt64 >>> ((Int32.toInt64 4).toUInt64 &&& Int64.toUInt64 63)).toInt64)) &&& 1085102592571150095).toUInt64 >>> ((Int32.toInt64 8).toUInt64 &&& Int64.toUInt64 63)).toInt64)) + ((((((((i - (((i.toUInt64 >>> ((Int32.toInt64 1).toUInt64 &&& Int64.toUInt64 63)).toInt64) &&& 6148914691236517205)) &&& 3689348814741910323) + ((((i - (((i.toUInt64 >>> ((Int32.toInt64 1).toUInt64 &&& Int64.toUInt64 63)).toInt64) &&& 6148914691236517205)).toUInt64 >>> ((Int32.toInt64 2).toUInt64 &&& Int64.toUInt64 63)).toInt64) &&& 3689348814741910323)) + (((((i - (((i.toUInt64 >>> ((Int32.toInt64 1).toUInt64 &&& Int64.toUInt64 63)).toInt64) &&& 6148914691236517205)) &&& 3689348814741910323) + ((((i - (((i.toUInt64 >>> ((Int32.toInt64 1).toUInt64 &&& Int64.toUInt64 63)).toInt64) &&& 6148914691236517205)).toUInt64 >>> ((Int32.toInt64 2).toUInt64 &&& Int64.toUInt64 63)).toInt64) &&& 3689348814741910323)).toUInt64 >>> ((Int32.toInt64 4).toUInt64 &&& Int64.toUInt64 63)).toInt64)) &&& 1085102592571150095) + (((((((i - (((i.toUInt64 >>> ((Int32.toInt64 1).toUInt64 &&& Int64.toUInt64 63)).toInt64) &&& 6148914691236517205)) &&& 3689348814741910323) + ((((i - (((i.toUInt64 >>> ((Int32.toInt64 1).toUInt64 &&& Int64.toUInt64 63)).toInt64) &&& 6148914691236517205)).toUInt64 >>> ((Int32.toInt64 2).toUInt64 &&& Int64.toUInt64 63)).toInt64) &&& 3689348814741910323)) + (((((i - (((i.toUInt64 >>> ((Int32.toInt64 1).toUInt64 &&& Int64.toUInt64 63)).toInt64) &&& 6148914691236517205)) &&& 3689348814741910323) + ((((i - (((i.toUInt64 >>> ((Int32.toInt64 1).toUInt64 &&& Int64.toUInt64 63)).toInt64) &&& 6148914691236517205)).toUInt64 >>> ((Int32.toInt64 2).toUInt64 &&& Int64.toUInt64 63)).toInt64) &&& 3689348814741910323)).toUInt64 >>> ((Int32.toInt64 4).toUInt64 &&& Int64.toUInt64 63)).toInt64)) &&& 1085102592571150095).toUInt64 >>> ((Int32.toInt64 8).toUInt64 &&& Int64.toUInt64 63)).toInt64)).toUInt64 >>> ((Int32.toInt64 16).toUInt64 &&& Int64.toUInt64 63)).toInt64)) + (((((((((i - (((i.toUInt64 >>> ((Int32.toInt64 1).toUInt64 &&& Int64.toUInt64 63)).toInt64) &&& 6148914691236517205)) &&& 3689348814741910323) + ((((i - (((i.toUInt64 >>> ((Int32.toInt64 1).toUInt64 &&& Int64.toUInt64 63)).toInt64) &&& 6148914691236517205)).toUInt64 >>> ((Int32.toInt64 2).toUInt64 &&& Int64.toUInt64 63)).toInt64) &&& 3689348814741910323)) + (((((i - (((i.toUInt64 >>> ((Int32.toInt64 1).toUInt64 &&& Int64.toUInt64 63)).toInt64) &&& 6148914691236517205)) &&& 3689348814741910323) + ((((i - (((i.toUInt64 >>> ((Int32.toInt64 1).toUInt64 &&& Int64.toUInt64 63)).toInt64) &&& 6148914691236517205)).toUInt64 >>> ((Int32.toInt64 2).toUInt64 &&& Int64.toUInt64 63)).toInt64) &&& 3689348814741910323)).toUInt64 >>> ((Int32.toInt64 4).toUInt64 &&& Int64.toUInt64 63)).toInt64)) &&& 1085102592571150095) + (((((((i - (((i.toUInt64 >>> ((Int32.toInt64 1).toUInt64 &&& Int64.toUInt64 63)).toInt64) &&& 6148914691236517205)) &&& 3689348814741910323) + ((((i - (((i.toUInt64 >>> ((Int32.toInt64 1).toUInt64 &&& Int64.toUInt64 63)).toInt64) &&& 6148914691236517205)).toUInt64 >>> ((Int32.toInt64 2).toUInt64 &&& Int64.toUInt64 63)).toInt64) &&& 3689348814741910323)) + (((((i - (((i.toUInt64 >>> ((Int32.toInt64 1).toUInt64 &&& Int64.toUInt64 63)).toInt64) &&& 6148914691236517205)) &&& 3689348814741910323) + ((((i - (((i.toUInt64 >>> ((Int32.toInt64 1).toUInt64 &&& Int64.toUInt64 63)).toInt64) &&& 6148914691236517205)).toUInt64 >>> ((Int32.toInt64 2).toUInt64 &&& Int64.toUInt64 63)).toInt64) &&& 3689348814741910323)).toUInt64 >>> ((Int32.toInt64 4).toUInt64 &&& Int64.toUInt64 63)).toInt64)) &&& 1085102592571150095).toUInt64 >>> ((Int32.toInt64 8).toUInt64 &&& Int64.toUInt64 63)).toInt64)) + ((((((((i - (((i.toUInt64 >>> ((Int32.toInt64 1).toUInt64 &&& Int64.toUInt64 63)).toInt64) &&& 6148914691236517205)) &&& 3689348814741910323) + ((((i - (((i.toUInt64 >>> ((Int32.toInt64 1).toUInt64 &&& Int64.toUInt64 63)).toInt64) &&& 6148914691236517205)).toUInt64 >>> ((Int32.toInt64 2).toUInt64 &&& Int64.toUInt64 63)).toInt64) &&& 3689348814741910323)) + (((((i - (((i.toUInt64 >>> ((Int32.toInt64 1).toUInt64 &&& Int64.toUInt64 63)).toInt64) &&& 6148914691236517205)) &&& 3689348814741910323) + ((((i - (((i.toUInt64 >>> ((Int32.toInt64 1).toUInt64 &&& Int64.toUInt64 63)).toInt64) &&& 6148914691236517205)).toUInt64 >>> ((Int32.toInt64 2).toUInt64 &&& Int64.toUInt64 63)).toInt64) &&& 3689348814741910323)).toUInt64 >>> ((Int32.toInt64 4).toUInt64 &&& Int64.toUInt64 63)).toInt64)) &&& 1085102592571150095) + (((((((i - (((i.toUInt64 >>> ((Int32.toInt64 1).toUInt64 &&& Int64.toUInt64 63)).toInt64) &&& 6148914691236517205)) &&& 3689348814741910323) + ((((i - (((i.toUInt64 >>> ((Int32.toInt64 1).toUInt64 &&& Int64.toUInt64 63)).toInt64) &&& 6148914691236517205)).toUInt64 >>> ((Int32.toInt64 2).toUInt64 &&& Int64.toUInt64 63)).toInt64) &&& 3689348814741910323)) + (((((i - (((i.toUInt64 >>> ((Int32.toInt64 1).toUInt64 &&& Int64.toUInt64 63)).toInt64) &&& 6148914691236517205)) &&& 3689348814741910323) + ((((i - (((i.toUInt64 >>> ((Int32.toInt64 1).toUInt64 &&& Int64.toUInt64 63)).toInt64) &&& 6148914691236517205)).toUInt64 >>> ((Int32.toInt64 2).toUInt64 &&& Int64.toUInt64 63)).toInt64) &&& 3689348814741910323)).toUInt64 >>> ((Int32.toInt64 4).toUInt64 &&& Int64.toUInt64 63)).toInt64)) &&& 1085102592571150095).toUInt64 >>> ((Int32.toInt64 8).toUInt64 &&& Int64.toUInt64 63)).toInt64)).toUInt64 >>> ((Int32.toInt64 16).toUInt64 &&& Int64.toUInt64 63)).toInt64)).toUInt64 >>> ((Int32.toInt64 32).toUInt64 &&& Int64.toUInt64 63)).toInt64)).toInt32) &&& 127) rfl  dJ13_bitCount_95d88_59 ?_
  exact aw_iret X (v := (((((((((i - (((i.toUInt64 >>> ((Int32.toInt64 1).toUInt64 &&& Int64.toUInt64 63)).toInt64) &&& 6148914691236517205)) &&& 3689348814741910323) + ((((i - (((i.toUInt64 >>> ((Int32.toInt64 1).toUInt64 &&& Int64.toUInt64 63)).toInt64) &&& 6148914691236517205)).toUInt64 >>> ((Int32.toInt64 2).toUInt64 &&& Int64.toUInt64 63)).toInt64) &&& 3689348814741910323)) + (((((i - (((i.toUInt64 >>> ((Int32.toInt64 1).toUInt64 &&& Int64.toUInt64 63)).toInt64) &&& 6148914691236517205)) &&& 3689348814741910323) + ((((i - (((i.toUInt64 >>> ((Int32.toInt64 1).toUInt64 &&& Int64.toUInt64 63)).toInt64) &&& 6148914691236517205)).toUInt64 >>> ((Int32.toInt64 2).toUInt64 &&& Int64.toUInt64 63)).toInt64) &&& 3689348814741910323)).toUInt64 >>> ((Int32.toInt64 4).toUInt64 &&& Int64.toUInt64 63)).toInt64)) &&& 1085102592571150095) + (((((((i - (((i.toUInt64 >>> ((Int32.toInt64 1).toUInt64 &&& Int64.toUInt64 63)).toInt64) &&& 6148914691236517205)) &&& 3689348814741910323) + ((((i - (((i.toUInt64 >>> ((Int32.toInt64 1).toUInt64 &&& Int64.toUInt64 63)).toInt64) &&& 6148914691236517205)).toUInt64 >>> ((Int32.toInt64 2).toUInt64 &&& Int64.toUInt64 63)).toInt64) &&& 3689348814741910323)) + (((((i - (((i.toUInt64 >>> ((Int32.toInt64 1).toUInt64 &&& Int64.toUInt64 63)).toInt64) &&& 6148914691236517205)) &&& 3689348814741910323) + ((((i - (((i.toUInt64 >>> ((Int32.toInt64 1).toUInt64 &&& Int64.toUInt64 63)).toInt64) &&& 6148914691236517205)).toUInt64 >>> ((Int32.toInt64 2).toUInt64 &&& Int64.toUInt64 63)).toInt64) &&& 3689348814741910323)).toUInt64 >>> ((Int32.toInt64 4).toUInt64 &&& Int64.toUInt64 63)).toInt64)) &&& 1085102592571150095).toUInt64 >>> ((Int32.toInt64 8).toUInt64 &&& Int64.toUInt64 63)).toInt64)) + ((((((((i - (((i.toUInt64 >>> ((Int32.toInt64 1).toUInt64 &&& Int64.toUInt64 63)).toInt64) &&& 6148914691236517205)) &&& 3689348814741910323) + ((((i - (((i.toUInt64 >>> ((Int32.toInt64 1).toUInt64 &&& Int64.toUInt64 63)).toInt64) &&& 6148914691236517205)).toUInt64 >>> ((Int32.toInt64 2).toUInt64 &&& Int64.toUInt64 63)).toInt64) &&& 3689348814741910323)) + (((((i - (((i.toUInt64 >>> ((Int32.toInt64 1).toUInt64 &&& Int64.toUInt64 63)).toInt64) &&& 6148914691236517205)) &&& 3689348814741910323) + ((((i - (((i.toUInt64 >>> ((Int32.toInt64 1).toUInt64 &&& Int64.toUInt64 63)).toInt64) &&& 6148914691236517205)).toUInt64 >>> ((Int32.toInt64 2).toUInt64 &&& Int64.toUInt64 63)).toInt64) &&& 3689348814741910323)).toUInt64 >>> ((Int32.toInt64 4).toUInt64 &&& Int64.toUInt64 63)).toInt64)) &&& 1085102592571150095) + (((((((i - (((i.toUInt64 >>> ((Int32.toInt64 1).toUInt64 &&& Int64.toUInt64 63)).toInt64) &&& 6148914691236517205)) &&& 3689348814741910323) + ((((i - (((i.toUInt64 >>> ((Int32.toInt64 1).toUInt64 &&& Int64.toUInt64 63)).toInt64) &&& 6148914691236517205)).toUInt64 >>> ((Int32.toInt64 2).toUInt64 &&& Int64.toUInt64 63)).toInt64) &&& 3689348814741910323)) + (((((i - (((i.toUInt64 >>> ((Int32.toInt64 1).toUInt64 &&& Int64.toUInt64 63)).toInt64) &&& 6148914691236517205)) &&& 3689348814741910323) + ((((i - (((i.toUInt64 >>> ((Int32.toInt64 1).toUInt64 &&& Int64.toUInt64 63)).toInt64) &&& 6148914691236517205)).toUInt64 >>> ((Int32.toInt64 2).toUInt64 &&& Int64.toUInt64 63)).toInt64) &&& 3689348814741910323)).toUInt64 >>> ((Int32.toInt64 4).toUInt64 &&& Int64.toUInt64 63)).toInt64)) &&& 1085102592571150095).toUInt64 >>> ((Int32.toInt64 8).toUInt64 &&& Int64.toUInt64 63)).toInt64)).toUInt64 >>> ((Int32.toInt64 16).toUInt64 &&& Int64.toUInt64 63)).toInt64)) + (((((((((i - (((i.toUInt64 >>> ((Int32.toInt64 1).toUInt64 &&& Int64.toUInt64 63)).toInt64) &&& 6148914691236517205)) &&& 3689348814741910323) + ((((i - (((i.toUInt64 >>> ((Int32.toInt64 1).toUInt64 &&& Int64.toUInt64 63)).toInt64) &&& 6148914691236517205)).toUInt64 >>> ((Int32.toInt64 2).toUInt64 &&& Int64.toUInt64 63)).toInt64) &&& 3689348814741910323)) + (((((i - (((i.toUInt64 >>> ((Int32.toInt64 1).toUInt64 &&& Int64.toUInt64 63)).toInt64) &&& 6148914691236517205)) &&& 3689348814741910323) + ((((i - (((i.toUInt64 >>> ((Int32.toInt64 1).toUInt64 &&& Int64.toUInt64 63)).toInt64) &&& 6148914691236517205)).toUInt64 >>> ((Int32.toInt64 2).toUInt64 &&& Int64.toUInt64 63)).toInt64) &&& 3689348814741910323)).toUInt64 >>> ((Int32.toInt64 4).toUInt64 &&& Int64.toUInt64 63)).toInt64)) &&& 1085102592571150095) + (((((((i - (((i.toUInt64 >>> ((Int32.toInt64 1).toUInt64 &&& Int64.toUInt64 63)).toInt64) &&& 6148914691236517205)) &&& 3689348814741910323) + ((((i - (((i.toUInt64 >>> ((Int32.toInt64 1).toUInt64 &&& Int64.toUInt64 63)).toInt64) &&& 6148914691236517205)).toUInt64 >>> ((Int32.toInt64 2).toUInt64 &&& Int64.toUInt64 63)).toInt64) &&& 3689348814741910323)) + (((((i - (((i.toUInt64 >>> ((Int32.toInt64 1).toUInt64 &&& Int64.toUInt64 63)).toInt64) &&& 6148914691236517205)) &&& 3689348814741910323) + ((((i - (((i.toUInt64 >>> ((Int32.toInt64 1).toUInt64 &&& Int64.toUInt64 63)).toInt64) &&& 6148914691236517205)).toUInt64 >>> ((Int32.toInt64 2).toUInt64 &&& Int64.toUInt64 63)).toInt64) &&& 3689348814741910323)).toUInt64 >>> ((Int32.toInt64 4).toUInt64 &&& Int64.toUInt64 63)).toInt64)) &&& 1085102592571150095).toUInt64 >>> ((Int32.toInt64 8).toUInt64 &&& Int64.toUInt64 63)).toInt64)) + ((((((((i - (((i.toUInt64 >>> ((Int32.toInt64 1).toUInt64 &&& Int64.toUInt64 63)).toInt64) &&& 6148914691236517205)) &&& 3689348814741910323) + ((((i - (((i.toUInt64 >>> ((Int32.toInt64 1).toUInt64 &&& Int64.toUInt64 63)).toInt64) &&& 6148914691236517205)).toUInt64 >>> ((Int32.toInt64 2).toUInt64 &&& Int64.toUInt64 63)).toInt64) &&& 3689348814741910323)) + (((((i - (((i.toUInt64 >>> ((Int32.toInt64 1).toUInt64 &&& Int64.toUInt64 63)).toInt64) &&& 6148914691236517205)) &&& 3689348814741910323) + ((((i - (((i.toUInt64 >>> ((Int32.toInt64 1).toUInt64 &&& Int64.toUInt64 63)).toInt64) &&& 6148914691236517205)).toUInt64 >>> ((Int32.toInt64 2).toUInt64 &&& Int64.toUInt64 63)).toInt64) &&& 3689348814741910323)).toUInt64 >>> ((Int32.toInt64 4).toUInt64 &&& Int64.toUInt64 63)).toInt64)) &&& 1085102592571150095) + (((((((i - (((i.toUInt64 >>> ((Int32.toInt64 1).toUInt64 &&& Int64.toUInt64 63)).toInt64) &&& 6148914691236517205)) &&& 3689348814741910323) + ((((i - (((i.toUInt64 >>> ((Int32.toInt64 1).toUInt64 &&& Int64.toUInt64 63)).toInt64) &&& 6148914691236517205)).toUInt64 >>> ((Int32.toInt64 2).toUInt64 &&& Int64.toUInt64 63)).toInt64) &&& 3689348814741910323)) + (((((i - (((i.toUInt64 >>> ((Int32.toInt64 1).toUInt64 &&& Int64.toUInt64 63)).toInt64) &&& 6148914691236517205)) &&& 3689348814741910323) + ((((i - (((i.toUInt64 >>> ((Int32.toInt64 1).toUInt64 &&& Int64.toUInt64 63)).toInt64) &&& 6148914691236517205)).toUInt64 >>> ((Int32.toInt64 2).toUInt64 &&& Int64.toUInt64 63)).toInt64) &&& 3689348814741910323)).toUInt64 >>> ((Int32.toInt64 4).toUInt64 &&& Int64.toUInt64 63)).toInt64)) &&& 1085102592571150095).toUInt64 >>> ((Int32.toInt64 8).toUInt64 &&& Int64.toUInt64 63)).toInt64)).toUInt64 >>> ((Int32.toInt64 16).toUInt64 &&& Int64.toUInt64 63)).toInt64)).toUInt64 >>> ((Int32.toInt64 32).toUInt64 &&& Int64.toUInt64 63)).toInt64)).toInt32) &&& 127) hQ rfl rfl dJ13_bitCount_95d88_60

def r_X8_firstOf (set : Int64) : Int32 := if lg_cmp set 0 = 0 then (-1) else (r_J13_bitCount_95d88 ((set &&& (-set)) - 1))
abbrev rm_X8_firstOf : Room := { frames := 1, cells := 0, slots := 0, locals := 21 }
set_option maxHeartbeats 4000000 in
set_option maxRecDepth 100000 in
theorem c_X8_firstOf (l : Launch) (D : va_G) (set : Int64)  : MW l D yX8_firstOf (Cond.code yX8_firstOf cX8_firstOf 2 (some .int) :: TT) rm_X8_firstOf [.long set] [] [] (some (.int (r_X8_firstOf set))) [] := by
  refine MW.of (cc := cX8_firstOf) (nL := 2) (ret := (some .int)) (lv := [(0, .long set)]) (by decide) rfl rfl (Nat.le_of_ble_eq_true rfl) ?_
  intro p e s m args below meth c A Q hQ X
  refine aw_lload_n X (pc := 0) 0 rfl rfl dX8_firstOf_0 ?_
  refine aw_lconst X (pc := 1) (v := 0) dX8_firstOf_1 (by decide) ?_
  refine aw_lcmp X (pc := 2) dX8_firstOf_2 ?_
  refine aw_if_ne X (pc := 3) (tgt := 10) (by decide) dX8_firstOf_3 (fun c1 => ?_) (fun c1 => ?_)
  · refine aw_lload_n X (pc := 10) 0 rfl rfl dX8_firstOf_10 ?_
    refine aw_lload_n X (pc := 11) 0 rfl rfl dX8_firstOf_11 ?_
    refine aw_lneg X (pc := 12) (z := -set) rfl dX8_firstOf_12 ?_
    refine aw_land X (pc := 13) (z := set &&& (-set)) rfl dX8_firstOf_13 ?_
    refine aw_lconst X (pc := 14) (v := 1) dX8_firstOf_14 (by decide) ?_
    refine aw_lsub X (pc := 15) (z := (set &&& (-set)) - 1) rfl dX8_firstOf_15 ?_
    refine aw_callS X (pc := 16) (rest := []) (st' := [.int (r_J13_bitCount_95d88 ((set &&& (-set)) - 1))]) (ws' := []) (c_J13_bitCount_95d88 l D ((set &&& (-set)) - 1)) rfl [] [] rfl rfl rfl rfl cf_X8_114 cd_J13_bitCount_95d88 dd_J13_bitCount_95d88 (by decide) (by decide) (by decide) rfl (Nat.le_of_ble_eq_true rfl) dX8_firstOf_16 rfl ?_
    exact aw_iret X (v := r_J13_bitCount_95d88 ((set &&& (-set)) - 1)) hQ (by simp only [r_X8_firstOf, if_neg c1]; try rfl) rfl dX8_firstOf_19
  · refine aw_iconst X (pc := 6) (v := (-1)) dX8_firstOf_6 (by decide) ?_
    refine aw_goto X (pc := 7) (tgt := 19) (by decide) dX8_firstOf_7 ?_
    exact aw_iret X (v := (-1)) hQ (by simp only [r_X8_firstOf, if_pos c1]; try rfl) rfl dX8_firstOf_19

def b_X9_sumOf_4 (name : Int64) (k : Nat) (σ : Int32) : Int32 := if σ >>> (7 &&& 31) = r_X9_bitOf name (nI k) then ((σ <<< (1 &&& 31)) &&& 255) else (((σ <<< (1 &&& 31)) &&& 255) ^^^ 49)
abbrev rm_X9_sumOf : Room := { frames := 1, cells := 0, slots := 0, locals := 22 }
set_option maxHeartbeats 4000000 in
set_option maxRecDepth 100000 in
theorem c_X9_sumOf (l : Launch) (D : va_G) (name : Int64)  : MW l D yX9_sumOf (Cond.code yX9_sumOf cX9_sumOf 5 (some .int) :: TT) rm_X9_sumOf [.long name] [] [] (some (.int (lpF (b_X9_sumOf_4 name) 56 0 0))) [] := by
  refine MW.of (cc := cX9_sumOf) (nL := 5) (ret := (some .int)) (lv := [(0, .long name)]) (by decide) rfl rfl (Nat.le_of_ble_eq_true rfl) ?_
  intro p e s m args below meth c A Q hQ X
  refine aw_iconst X (pc := 0) (v := 0) dX9_sumOf_0 (by decide) ?_
  refine aw_istore_n X (pc := 1) (lv' := [(2, .int 0), (0, .long name)]) rfl (by decide) rfl dX9_sumOf_1 ?_
  refine aw_iconst X (pc := 2) (v := 0) dX9_sumOf_2 (by decide) ?_
  refine aw_istore_n X (pc := 3) (lv' := [(3, .int 0), (2, .int 0), (0, .long name)]) rfl (by decide) rfl dX9_sumOf_3 ?_
  have L1 : ∀ (n1 k : Nat) (sm : Int32), k + n1 = 56 → lpF (b_X9_sumOf_4 name) n1 k sm = lpF (b_X9_sumOf_4 name) 56 0 0 → AW p l e rm_X9_sumOf s m args below meth c D A 5 0 0 Q 4 [(3, .int (nI k)), (2, .int sm), (0, .long name)] [] [] := by
    intro n1; induction n1 with
    | zero =>
      intro k sm hk1  hf1
      have hf1 : sm = lpF (b_X9_sumOf_4 name) 56 0 0 := hf1
      refine aw_iload_n X (pc := 4) 0 rfl rfl dX9_sumOf_4 ?_
      refine aw_bipush X (pc := 5) (v := 56) dX9_sumOf_5 (by decide) ?_
      refine aw_icmp_ge X (pc := 7) (tgt := 53) (by decide) dX9_sumOf_7 (fun c8 => ?_) (fun c8 => absurd (nn_le (a := 56) (b := k) rfl rfl (by omega) (by omega)) c8)
      refine aw_iload_n X (pc := 53) 1 rfl rfl dX9_sumOf_53 ?_
      exact aw_iret X (v := sm) hQ (by simp only [← hf1]; try rfl) rfl dX9_sumOf_54
    | succ n1 ih1 =>
      intro k sm hk1  hf1
      have hf1 : lpF (b_X9_sumOf_4 name) n1 (k + 1) (b_X9_sumOf_4 name k sm) = lpF (b_X9_sumOf_4 name) 56 0 0 := hf1
      refine aw_iload_n X (pc := 4) 0 rfl rfl dX9_sumOf_4 ?_
      refine aw_bipush X (pc := 5) (v := 56) dX9_sumOf_5 (by decide) ?_
      refine aw_icmp_ge X (pc := 7) (tgt := 53) (by decide) dX9_sumOf_7 (fun c2 => absurd c2 (nn_nle (a := 56) (b := k) rfl rfl (by omega) (by omega))) (fun c2 => ?_)
      refine aw_iload_n X (pc := 10) 1 rfl rfl dX9_sumOf_10 ?_
      refine aw_bipush X (pc := 11) (v := 7) dX9_sumOf_11 (by decide) ?_
      refine aw_ishr X (pc := 13) (z := sm >>> (7 &&& 31)) rfl  dX9_sumOf_13 ?_
      refine aw_lload_n X (pc := 14) 2 rfl rfl dX9_sumOf_14 ?_
      refine aw_iload_n X (pc := 15) 0 rfl rfl dX9_sumOf_15 ?_
      refine aw_callS X (pc := 16) (rest := [.int (sm >>> (7 &&& 31))]) (st' := [.int (r_X9_bitOf name (nI k)), .int (sm >>> (7 &&& 31))]) (ws' := []) (c_X9_bitOf l D name (nI k)) rfl [] [] rfl rfl rfl rfl cf_X9_40 cd_X9_bitOf dd_X9_bitOf (by decide) (by decide) (by decide) rfl (Nat.le_of_ble_eq_true rfl) dX9_sumOf_16 rfl ?_
      refine aw_icmp_eq X (pc := 19) (tgt := 26) (by decide) dX9_sumOf_19 (fun c3 => ?_) (fun c3 => ?_)
      · refine aw_iconst X (pc := 26) (v := 0) dX9_sumOf_26 (by decide) ?_
        refine aw_istore X (pc := 27) (lv' := [(4, .int 0), (3, .int (nI k)), (2, .int sm), (0, .long name)]) (by decide) rfl dX9_sumOf_27 ?_
        refine aw_iload_n X (pc := 29) 2 rfl rfl dX9_sumOf_29 ?_
        refine aw_iconst X (pc := 30) (v := 1) dX9_sumOf_30 (by decide) ?_
        refine aw_ishl X (pc := 31) (z := sm <<< (1 &&& 31)) rfl  dX9_sumOf_31 ?_
        refine aw_sipush X (pc := 32) (v := 255) dX9_sumOf_32 (by decide) ?_
        refine aw_iand X (pc := 35) (z := (sm <<< (1 &&& 31)) &&& 255) rfl  dX9_sumOf_35 ?_
        refine aw_istore_n X (pc := 36) (lv' := [(2, .int ((sm <<< (1 &&& 31)) &&& 255)), (4, .int 0), (3, .int (nI k)), (0, .long name)]) rfl (by decide) rfl dX9_sumOf_36 ?_
        refine aw_iload X (pc := 37) 1 rfl dX9_sumOf_37 ?_
        refine aw_if_eq X (pc := 39) (tgt := 47) (by decide) dX9_sumOf_39 (fun c4 => ?_) (fun c4 => absurd (by decide) c4)
        refine aw_iinc X (pc := 47) (kx := 2) (v := nI (k + 1)) (lv' := [(3, .int (nI (k + 1))), (2, .int ((sm <<< (1 &&& 31)) &&& 255)), (4, .int 0), (0, .long name)]) rfl (nn_add (a := k) (b := 1) rfl rfl rfl) (by decide) rfl dX9_sumOf_47 ?_
        refine aw_goto X (pc := 50) (tgt := 4) (by decide) dX9_sumOf_50 ?_
        have e5 : b_X9_sumOf_4 name k sm = (sm <<< (1 &&& 31)) &&& 255 := by simp only [b_X9_sumOf_4, if_pos c3]
        exact aw_sub (lv' := [(3, .int (nI (k + 1))), (2, .int ((sm <<< (1 &&& 31)) &&& 255)), (0, .long name)]) [0, 1, 3] rfl (ih1 (k + 1) ((sm <<< (1 &&& 31)) &&& 255) (by omega)  (by rw [← e5]; exact hf1))
      · refine aw_iconst X (pc := 22) (v := 1) dX9_sumOf_22 (by decide) ?_
        refine aw_goto X (pc := 23) (tgt := 27) (by decide) dX9_sumOf_23 ?_
        refine aw_istore X (pc := 27) (lv' := [(4, .int 1), (3, .int (nI k)), (2, .int sm), (0, .long name)]) (by decide) rfl dX9_sumOf_27 ?_
        refine aw_iload_n X (pc := 29) 2 rfl rfl dX9_sumOf_29 ?_
        refine aw_iconst X (pc := 30) (v := 1) dX9_sumOf_30 (by decide) ?_
        refine aw_ishl X (pc := 31) (z := sm <<< (1 &&& 31)) rfl  dX9_sumOf_31 ?_
        refine aw_sipush X (pc := 32) (v := 255) dX9_sumOf_32 (by decide) ?_
        refine aw_iand X (pc := 35) (z := (sm <<< (1 &&& 31)) &&& 255) rfl  dX9_sumOf_35 ?_
        refine aw_istore_n X (pc := 36) (lv' := [(2, .int ((sm <<< (1 &&& 31)) &&& 255)), (4, .int 1), (3, .int (nI k)), (0, .long name)]) rfl (by decide) rfl dX9_sumOf_36 ?_
        refine aw_iload X (pc := 37) 1 rfl dX9_sumOf_37 ?_
        refine aw_if_eq X (pc := 39) (tgt := 47) (by decide) dX9_sumOf_39 (fun c6 => absurd c6 (by decide)) (fun c6 => ?_)
        refine aw_iload_n X (pc := 42) 0 rfl rfl dX9_sumOf_42 ?_
        refine aw_bipush X (pc := 43) (v := 49) dX9_sumOf_43 (by decide) ?_
        refine aw_ixor X (pc := 45) (z := ((sm <<< (1 &&& 31)) &&& 255) ^^^ 49) rfl  dX9_sumOf_45 ?_
        refine aw_istore_n X (pc := 46) (lv' := [(2, .int (((sm <<< (1 &&& 31)) &&& 255) ^^^ 49)), (4, .int 1), (3, .int (nI k)), (0, .long name)]) rfl (by decide) rfl dX9_sumOf_46 ?_
        refine aw_iinc X (pc := 47) (kx := 2) (v := nI (k + 1)) (lv' := [(3, .int (nI (k + 1))), (2, .int (((sm <<< (1 &&& 31)) &&& 255) ^^^ 49)), (4, .int 1), (0, .long name)]) rfl (nn_add (a := k) (b := 1) rfl rfl rfl) (by decide) rfl dX9_sumOf_47 ?_
        refine aw_goto X (pc := 50) (tgt := 4) (by decide) dX9_sumOf_50 ?_
        have e7 : b_X9_sumOf_4 name k sm = ((sm <<< (1 &&& 31)) &&& 255) ^^^ 49 := by simp only [b_X9_sumOf_4, if_neg c3]
        exact aw_sub (lv' := [(3, .int (nI (k + 1))), (2, .int (((sm <<< (1 &&& 31)) &&& 255) ^^^ 49)), (0, .long name)]) [0, 1, 3] rfl (ih1 (k + 1) (((sm <<< (1 &&& 31)) &&& 255) ^^^ 49) (by omega)  (by rw [← e7]; exact hf1))
  exact aw_sub (lv' := [(3, .int 0), (2, .int 0), (0, .long name)]) [0, 1, 2] rfl (L1 56 0 0 (by omega)  rfl)

def b_X8_sumOf_4 (name : Int64) (k : Nat) (σ : Int32) : Int32 := if σ &&& 128 = 0 then (if 0 = r_X8_isOneAt name (nI k) then ((σ <<< (1 &&& 31)) &&& 255) else (((σ <<< (1 &&& 31)) &&& 255) ^^^ 49)) else (if 1 = r_X8_isOneAt name (nI k) then ((σ <<< (1 &&& 31)) &&& 255) else (((σ <<< (1 &&& 31)) &&& 255) ^^^ 49))
abbrev rm_X8_sumOf : Room := { frames := 1, cells := 0, slots := 0, locals := 22 }
set_option maxHeartbeats 4000000 in
set_option maxRecDepth 100000 in
theorem c_X8_sumOf (l : Launch) (D : va_G) (name : Int64)  : MW l D yX8_sumOf (Cond.code yX8_sumOf cX8_sumOf 5 (some .int) :: TT) rm_X8_sumOf [.long name] [] [] (some (.int (lpF (b_X8_sumOf_4 name) 56 0 0))) [] := by
  refine MW.of (cc := cX8_sumOf) (nL := 5) (ret := (some .int)) (lv := [(0, .long name)]) (by decide) rfl rfl (Nat.le_of_ble_eq_true rfl) ?_
  intro p e s m args below meth c A Q hQ X
  refine aw_iconst X (pc := 0) (v := 0) dX8_sumOf_0 (by decide) ?_
  refine aw_istore_n X (pc := 1) (lv' := [(2, .int 0), (0, .long name)]) rfl (by decide) rfl dX8_sumOf_1 ?_
  refine aw_iconst X (pc := 2) (v := 0) dX8_sumOf_2 (by decide) ?_
  refine aw_istore_n X (pc := 3) (lv' := [(3, .int 0), (2, .int 0), (0, .long name)]) rfl (by decide) rfl dX8_sumOf_3 ?_
  have L1 : ∀ (n1 k : Nat) (sm : Int32), k + n1 = 56 → lpF (b_X8_sumOf_4 name) n1 k sm = lpF (b_X8_sumOf_4 name) 56 0 0 → AW p l e rm_X8_sumOf s m args below meth c D A 5 0 0 Q 4 [(3, .int (nI k)), (2, .int sm), (0, .long name)] [] [] := by
    intro n1; induction n1 with
    | zero =>
      intro k sm hk1  hf1
      have hf1 : sm = lpF (b_X8_sumOf_4 name) 56 0 0 := hf1
      refine aw_iload_n X (pc := 4) 0 rfl rfl dX8_sumOf_4 ?_
      refine aw_bipush X (pc := 5) (v := 56) dX8_sumOf_5 (by decide) ?_
      refine aw_icmp_ge X (pc := 7) (tgt := 54) (by decide) dX8_sumOf_7 (fun c10 => ?_) (fun c10 => absurd (nn_le (a := 56) (b := k) rfl rfl (by omega) (by omega)) c10)
      refine aw_iload_n X (pc := 54) 1 rfl rfl dX8_sumOf_54 ?_
      exact aw_iret X (v := sm) hQ (by simp only [← hf1]; try rfl) rfl dX8_sumOf_55
    | succ n1 ih1 =>
      intro k sm hk1  hf1
      have hf1 : lpF (b_X8_sumOf_4 name) n1 (k + 1) (b_X8_sumOf_4 name k sm) = lpF (b_X8_sumOf_4 name) 56 0 0 := hf1
      refine aw_iload_n X (pc := 4) 0 rfl rfl dX8_sumOf_4 ?_
      refine aw_bipush X (pc := 5) (v := 56) dX8_sumOf_5 (by decide) ?_
      refine aw_icmp_ge X (pc := 7) (tgt := 54) (by decide) dX8_sumOf_7 (fun c2 => absurd c2 (nn_nle (a := 56) (b := k) rfl rfl (by omega) (by omega))) (fun c2 => ?_)
      refine aw_iload_n X (pc := 10) 1 rfl rfl dX8_sumOf_10 ?_
      refine aw_sipush X (pc := 11) (v := 128) dX8_sumOf_11 (by decide) ?_
      refine aw_iand X (pc := 14) (z := sm &&& 128) rfl  dX8_sumOf_14 ?_
      refine aw_if_eq X (pc := 15) (tgt := 22) (by decide) dX8_sumOf_15 (fun c3 => ?_) (fun c3 => ?_)
      · refine aw_iconst X (pc := 22) (v := 0) dX8_sumOf_22 (by decide) ?_
        refine aw_istore X (pc := 23) (lv' := [(4, .int 0), (3, .int (nI k)), (2, .int sm), (0, .long name)]) (by decide) rfl dX8_sumOf_23 ?_
        refine aw_iload_n X (pc := 25) 2 rfl rfl dX8_sumOf_25 ?_
        refine aw_iconst X (pc := 26) (v := 1) dX8_sumOf_26 (by decide) ?_
        refine aw_ishl X (pc := 27) (z := sm <<< (1 &&& 31)) rfl  dX8_sumOf_27 ?_
        refine aw_sipush X (pc := 28) (v := 255) dX8_sumOf_28 (by decide) ?_
        refine aw_iand X (pc := 31) (z := (sm <<< (1 &&& 31)) &&& 255) rfl  dX8_sumOf_31 ?_
        refine aw_istore_n X (pc := 32) (lv' := [(2, .int ((sm <<< (1 &&& 31)) &&& 255)), (4, .int 0), (3, .int (nI k)), (0, .long name)]) rfl (by decide) rfl dX8_sumOf_32 ?_
        refine aw_iload X (pc := 33) 1 rfl dX8_sumOf_33 ?_
        refine aw_lload_n X (pc := 35) 3 rfl rfl dX8_sumOf_35 ?_
        refine aw_iload_n X (pc := 36) 2 rfl rfl dX8_sumOf_36 ?_
        refine aw_callS X (pc := 37) (rest := [.int 0]) (st' := [.int (r_X8_isOneAt name (nI k)), .int 0]) (ws' := []) (c_X8_isOneAt l D name (nI k)) rfl [] [] rfl rfl rfl rfl cf_X8_157 cd_X8_isOneAt dd_X8_isOneAt (by decide) (by decide) (by decide) rfl (Nat.le_of_ble_eq_true rfl) dX8_sumOf_37 rfl ?_
        refine aw_icmp_eq X (pc := 40) (tgt := 48) (by decide) dX8_sumOf_40 (fun c4 => ?_) (fun c4 => ?_)
        · refine aw_iinc X (pc := 48) (kx := 2) (v := nI (k + 1)) (lv' := [(3, .int (nI (k + 1))), (2, .int ((sm <<< (1 &&& 31)) &&& 255)), (4, .int 0), (0, .long name)]) rfl (nn_add (a := k) (b := 1) rfl rfl rfl) (by decide) rfl dX8_sumOf_48 ?_
          refine aw_goto X (pc := 51) (tgt := 4) (by decide) dX8_sumOf_51 ?_
          have e5 : b_X8_sumOf_4 name k sm = (sm <<< (1 &&& 31)) &&& 255 := by simp only [b_X8_sumOf_4, if_pos c3, if_pos c4]
          exact aw_sub (lv' := [(3, .int (nI (k + 1))), (2, .int ((sm <<< (1 &&& 31)) &&& 255)), (0, .long name)]) [0, 1, 3] rfl (ih1 (k + 1) ((sm <<< (1 &&& 31)) &&& 255) (by omega)  (by rw [← e5]; exact hf1))
        · refine aw_iload_n X (pc := 43) 0 rfl rfl dX8_sumOf_43 ?_
          refine aw_bipush X (pc := 44) (v := 49) dX8_sumOf_44 (by decide) ?_
          refine aw_ixor X (pc := 46) (z := ((sm <<< (1 &&& 31)) &&& 255) ^^^ 49) rfl  dX8_sumOf_46 ?_
          refine aw_istore_n X (pc := 47) (lv' := [(2, .int (((sm <<< (1 &&& 31)) &&& 255) ^^^ 49)), (4, .int 0), (3, .int (nI k)), (0, .long name)]) rfl (by decide) rfl dX8_sumOf_47 ?_
          refine aw_iinc X (pc := 48) (kx := 2) (v := nI (k + 1)) (lv' := [(3, .int (nI (k + 1))), (2, .int (((sm <<< (1 &&& 31)) &&& 255) ^^^ 49)), (4, .int 0), (0, .long name)]) rfl (nn_add (a := k) (b := 1) rfl rfl rfl) (by decide) rfl dX8_sumOf_48 ?_
          refine aw_goto X (pc := 51) (tgt := 4) (by decide) dX8_sumOf_51 ?_
          have e6 : b_X8_sumOf_4 name k sm = ((sm <<< (1 &&& 31)) &&& 255) ^^^ 49 := by simp only [b_X8_sumOf_4, if_pos c3, if_neg c4]
          exact aw_sub (lv' := [(3, .int (nI (k + 1))), (2, .int (((sm <<< (1 &&& 31)) &&& 255) ^^^ 49)), (0, .long name)]) [0, 1, 3] rfl (ih1 (k + 1) (((sm <<< (1 &&& 31)) &&& 255) ^^^ 49) (by omega)  (by rw [← e6]; exact hf1))
      · refine aw_iconst X (pc := 18) (v := 1) dX8_sumOf_18 (by decide) ?_
        refine aw_goto X (pc := 19) (tgt := 23) (by decide) dX8_sumOf_19 ?_
        refine aw_istore X (pc := 23) (lv' := [(4, .int 1), (3, .int (nI k)), (2, .int sm), (0, .long name)]) (by decide) rfl dX8_sumOf_23 ?_
        refine aw_iload_n X (pc := 25) 2 rfl rfl dX8_sumOf_25 ?_
        refine aw_iconst X (pc := 26) (v := 1) dX8_sumOf_26 (by decide) ?_
        refine aw_ishl X (pc := 27) (z := sm <<< (1 &&& 31)) rfl  dX8_sumOf_27 ?_
        refine aw_sipush X (pc := 28) (v := 255) dX8_sumOf_28 (by decide) ?_
        refine aw_iand X (pc := 31) (z := (sm <<< (1 &&& 31)) &&& 255) rfl  dX8_sumOf_31 ?_
        refine aw_istore_n X (pc := 32) (lv' := [(2, .int ((sm <<< (1 &&& 31)) &&& 255)), (4, .int 1), (3, .int (nI k)), (0, .long name)]) rfl (by decide) rfl dX8_sumOf_32 ?_
        refine aw_iload X (pc := 33) 1 rfl dX8_sumOf_33 ?_
        refine aw_lload_n X (pc := 35) 3 rfl rfl dX8_sumOf_35 ?_
        refine aw_iload_n X (pc := 36) 2 rfl rfl dX8_sumOf_36 ?_
        refine aw_callS X (pc := 37) (rest := [.int 1]) (st' := [.int (r_X8_isOneAt name (nI k)), .int 1]) (ws' := []) (c_X8_isOneAt l D name (nI k)) rfl [] [] rfl rfl rfl rfl cf_X8_157 cd_X8_isOneAt dd_X8_isOneAt (by decide) (by decide) (by decide) rfl (Nat.le_of_ble_eq_true rfl) dX8_sumOf_37 rfl ?_
        refine aw_icmp_eq X (pc := 40) (tgt := 48) (by decide) dX8_sumOf_40 (fun c7 => ?_) (fun c7 => ?_)
        · refine aw_iinc X (pc := 48) (kx := 2) (v := nI (k + 1)) (lv' := [(3, .int (nI (k + 1))), (2, .int ((sm <<< (1 &&& 31)) &&& 255)), (4, .int 1), (0, .long name)]) rfl (nn_add (a := k) (b := 1) rfl rfl rfl) (by decide) rfl dX8_sumOf_48 ?_
          refine aw_goto X (pc := 51) (tgt := 4) (by decide) dX8_sumOf_51 ?_
          have e8 : b_X8_sumOf_4 name k sm = (sm <<< (1 &&& 31)) &&& 255 := by simp only [b_X8_sumOf_4, if_neg c3, if_pos c7]
          exact aw_sub (lv' := [(3, .int (nI (k + 1))), (2, .int ((sm <<< (1 &&& 31)) &&& 255)), (0, .long name)]) [0, 1, 3] rfl (ih1 (k + 1) ((sm <<< (1 &&& 31)) &&& 255) (by omega)  (by rw [← e8]; exact hf1))
        · refine aw_iload_n X (pc := 43) 0 rfl rfl dX8_sumOf_43 ?_
          refine aw_bipush X (pc := 44) (v := 49) dX8_sumOf_44 (by decide) ?_
          refine aw_ixor X (pc := 46) (z := ((sm <<< (1 &&& 31)) &&& 255) ^^^ 49) rfl  dX8_sumOf_46 ?_
          refine aw_istore_n X (pc := 47) (lv' := [(2, .int (((sm <<< (1 &&& 31)) &&& 255) ^^^ 49)), (4, .int 1), (3, .int (nI k)), (0, .long name)]) rfl (by decide) rfl dX8_sumOf_47 ?_
          refine aw_iinc X (pc := 48) (kx := 2) (v := nI (k + 1)) (lv' := [(3, .int (nI (k + 1))), (2, .int (((sm <<< (1 &&& 31)) &&& 255) ^^^ 49)), (4, .int 1), (0, .long name)]) rfl (nn_add (a := k) (b := 1) rfl rfl rfl) (by decide) rfl dX8_sumOf_48 ?_
          refine aw_goto X (pc := 51) (tgt := 4) (by decide) dX8_sumOf_51 ?_
          have e9 : b_X8_sumOf_4 name k sm = ((sm <<< (1 &&& 31)) &&& 255) ^^^ 49 := by simp only [b_X8_sumOf_4, if_neg c3, if_neg c7]
          exact aw_sub (lv' := [(3, .int (nI (k + 1))), (2, .int (((sm <<< (1 &&& 31)) &&& 255) ^^^ 49)), (0, .long name)]) [0, 1, 3] rfl (ih1 (k + 1) (((sm <<< (1 &&& 31)) &&& 255) ^^^ 49) (by omega)  (by rw [← e9]; exact hf1))
  exact aw_sub (lv' := [(3, .int 0), (2, .int 0), (0, .long name)]) [0, 1, 2] rfl (L1 56 0 0 (by omega)  rfl)
end
section
abbrev rm_X9_isTag : Room := { frames := 1, cells := 0, slots := 0, locals := 21 }
set_option maxHeartbeats 4000000 in
set_option maxRecDepth 100000 in
theorem c_X9_isTag (l : Launch) (D : va_G) (q : Nat → Nat) (kc : Nat → ClassId) (a : Nat → Int32) (w : Nat → Int64) (hs : Nat → Int32) (inn : Nat → Int32) (sp : Nat → Int32) (lone : Int32) (lt : Nat → Int64) (lz : Nat → Int32) (dr : Nat → Int32) (t : Int32)  : MW l D yX9_isTag (Cond.code yX9_isTag cX9_isTag 2 (some .boolean) :: TT) rm_X9_isTag [.ref (q 0), .int t] [(kc 1, .int), (kc 2, .long), (kc 3, .boolean), (kc 4, .boolean), (kc 5, .boolean), (kc 6, .long), (kc 7, .int), (kc 8, .int)] (mW q kc a w hs inn sp lone lt lz dr) (some (.int (r_X9_isIn t (a 0)))) (mW q kc a w hs inn sp lone lt lz dr) := by
  refine MW.of (cc := cX9_isTag) (nL := 2) (ret := (some .boolean)) (lv := [(0, .ref (q 0)), (1, .int t)]) (by decide) rfl rfl (Nat.le_of_ble_eq_true rfl) ?_
  intro p e s m args below meth c A Q hQ X
  refine aw_iload_n X (pc := 0) 1 rfl rfl dX9_isTag_0 ?_
  refine aw_aload_n X (pc := 1) 0 rfl rfl dX9_isTag_1 ?_
  refine aw_get X (pc := 2) iX9 0 0 rfl rfl (by decide) fl_X9_7 rfl dX9_isTag_2 ?_
  refine aw_iconst X (pc := 5) (v := 0) dX9_isTag_5 (by decide) ?_
  refine aw_iald X (pc := 6) 1 0 0 rfl rfl rfl (by decide) (by omega) dX9_isTag_6 ?_
  refine aw_callS X (pc := 7) (rest := []) (st' := [.int (r_X9_isIn t (a 0))]) (ws' := (mW q kc a w hs inn sp lone lt lz dr)) (c_X9_isIn l D t (a 0)) rfl [] [] rfl rfl rfl rfl cf_X9_36 cd_X9_isIn dd_X9_isIn (by decide) (by decide) (by decide) rfl (Nat.le_of_ble_eq_true rfl) dX9_isTag_7 rfl ?_
  exact aw_zret X (v := r_X9_isIn t (a 0)) (nrw_01 (z_X9_isIn ..)) hQ rfl rfl dX9_isTag_10

abbrev rm_X9_of : Room := { frames := 0, cells := 0, slots := 0, locals := 0 }
set_option maxHeartbeats 4000000 in
set_option maxRecDepth 100000 in
theorem c_X9_of (l : Launch) (D : va_G) (q : Nat → Nat) (kc : Nat → ClassId) (a : Nat → Int32) (w : Nat → Int64) (hs : Nat → Int32) (inn : Nat → Int32) (sp : Nat → Int32) (lone : Int32) (lt : Nat → Int64) (lz : Nat → Int32) (dr : Nat → Int32) (t : Int32) (wh : Int32) (k : Nat) (j : Nat) (ht : t = nI k) (hj : wh = nI j) (hb : 300 + 6 * k + j < 2700) : MW l D yX9_of (Cond.code yX9_of cX9_of 3 (some .int) :: TT) rm_X9_of [.ref (q 0), .int t, .int wh] [(kc 1, .int), (kc 2, .long), (kc 3, .boolean), (kc 4, .boolean), (kc 5, .boolean), (kc 6, .long), (kc 7, .int), (kc 8, .int)] (mW q kc a w hs inn sp lone lt lz dr) (some (.int (a (300 + 6 * k + j)))) (mW q kc a w hs inn sp lone lt lz dr) := by
  refine MW.of (cc := cX9_of) (nL := 3) (ret := (some .int)) (lv := [(0, .ref (q 0)), (1, .int t), (2, .int wh)]) (by decide) rfl rfl (Nat.le_of_ble_eq_true rfl) ?_
  intro p e s m args below meth c A Q hQ X
  refine aw_aload_n X (pc := 0) 0 rfl rfl dX9_of_0 ?_
  refine aw_get X (pc := 1) iX9 0 0 rfl rfl (by decide) fl_X9_7 rfl dX9_of_1 ?_
  refine aw_sipush X (pc := 4) (v := 300) dX9_of_4 (by decide) ?_
  refine aw_bipush X (pc := 7) (v := 6) dX9_of_7 (by decide) ?_
  refine aw_iload_n X (pc := 9) 1 rfl rfl dX9_of_9 ?_
  refine aw_imul X (pc := 10) (z := nI (6 * k)) (nn_mul (a := 6) (b := k) rfl ht (by first | rfl | omega))  dX9_of_10 ?_
  refine aw_iadd X (pc := 11) (z := nI (300 + 6 * k)) (nn_add (a := 300) (b := 6 * k) rfl rfl (by first | rfl | omega))  dX9_of_11 ?_
  refine aw_iload_n X (pc := 12) 2 rfl rfl dX9_of_12 ?_
  refine aw_iadd X (pc := 13) (z := nI (300 + 6 * k + j)) (nn_add (a := 300 + 6 * k) (b := j) rfl hj (by first | rfl | omega))  dX9_of_13 ?_
  refine aw_iald X (pc := 14) 1 0 (300 + 6 * k + j) rfl rfl rfl (by decide) (by omega) dX9_of_14 ?_
  exact aw_iret X (v := a (300 + 6 * k + j)) hQ rfl rfl dX9_of_15

abbrev rm_X9_sets : Room := { frames := 0, cells := 0, slots := 0, locals := 0 }
set_option maxHeartbeats 4000000 in
set_option maxRecDepth 100000 in
theorem c_X9_sets (l : Launch) (D : va_G) (q : Nat → Nat) (kc : Nat → ClassId) (a : Nat → Int32) (w : Nat → Int64) (hs : Nat → Int32) (inn : Nat → Int32) (sp : Nat → Int32) (lone : Int32) (lt : Nat → Int64) (lz : Nat → Int32) (dr : Nat → Int32) (t : Int32) (wh : Int32) (k : Nat) (j : Nat) (x : Int32) (ht : t = nI k) (hj : wh = nI j) (hb : 300 + 6 * k + j < 2700) : MW l D yX9_sets (Cond.code yX9_sets cX9_sets 4 none :: TT) rm_X9_sets [.ref (q 0), .int t, .int wh, .int x] [(kc 1, .int), (kc 2, .long), (kc 3, .boolean), (kc 4, .boolean), (kc 5, .boolean), (kc 6, .long), (kc 7, .int), (kc 8, .int)] (mW q kc a w hs inn sp lone lt lz dr) none (mW q kc (upd a (300 + 6 * k + j) x) w hs inn sp lone lt lz dr) := by
  refine MW.of (cc := cX9_sets) (nL := 4) (ret := none) (lv := [(0, .ref (q 0)), (1, .int t), (2, .int wh), (3, .int x)]) (by decide) rfl rfl (Nat.le_of_ble_eq_true rfl) ?_
  intro p e s m args below meth c A Q hQ X
  refine aw_aload_n X (pc := 0) 0 rfl rfl dX9_sets_0 ?_
  refine aw_get X (pc := 1) iX9 0 0 rfl rfl (by decide) fl_X9_7 rfl dX9_sets_1 ?_
  refine aw_sipush X (pc := 4) (v := 300) dX9_sets_4 (by decide) ?_
  refine aw_bipush X (pc := 7) (v := 6) dX9_sets_7 (by decide) ?_
  refine aw_iload_n X (pc := 9) 1 rfl rfl dX9_sets_9 ?_
  refine aw_imul X (pc := 10) (z := nI (6 * k)) (nn_mul (a := 6) (b := k) rfl ht (by first | rfl | omega))  dX9_sets_10 ?_
  refine aw_iadd X (pc := 11) (z := nI (300 + 6 * k)) (nn_add (a := 300) (b := 6 * k) rfl rfl (by first | rfl | omega))  dX9_sets_11 ?_
  refine aw_iload_n X (pc := 12) 2 rfl rfl dX9_sets_12 ?_
  refine aw_iadd X (pc := 13) (z := nI (300 + 6 * k + j)) (nn_add (a := 300 + 6 * k) (b := j) rfl hj (by first | rfl | omega))  dX9_sets_13 ?_
  refine aw_iload_n X (pc := 14) 3 rfl rfl dX9_sets_14 ?_
  refine aw_iast X (pc := 15) 1 0 (ws' := (mW q kc (upd a (300 + 6 * k + j) x) w hs inn sp lone lt lz dr)) (300 + 6 * k + j) rfl  rfl rfl (by decide) (by omega) rfl dX9_sets_15 ?_
  exact aw_vret X hQ rfl rfl dX9_sets_16

def r_X9_listens (a : Nat → Int32) (w : Nat → Int64) (k : Nat) : Int32 := if a (300 + 6 * k + 1) = 1 then (if a (300 + 6 * k + 2) = 1 then (if lg_cmp (((w (84 + k)) ^^^ (w 1)) &&& (w 0)) 0 = 0 then 1 else 0) else 0) else 0
theorem z_X9_listens (a : Nat → Int32) (w : Nat → Int64) (k : Nat) : r_X9_listens a w k = 0 ∨ r_X9_listens a w k = 1 := by unfold r_X9_listens; (repeat (split <;> try first | exact Or.inl rfl | exact Or.inr rfl)) <;> first | exact Or.inl rfl | exact Or.inr rfl
abbrev rm_X9_listens : Room := { frames := 1, cells := 0, slots := 0, locals := 22 }
set_option maxHeartbeats 4000000 in
set_option maxRecDepth 100000 in
theorem c_X9_listens (l : Launch) (D : va_G) (q : Nat → Nat) (kc : Nat → ClassId) (a : Nat → Int32) (w : Nat → Int64) (hs : Nat → Int32) (inn : Nat → Int32) (sp : Nat → Int32) (lone : Int32) (lt : Nat → Int64) (lz : Nat → Int32) (dr : Nat → Int32) (t : Int32) (k : Nat) (ht : t = nI k) (hk : k < 40) : MW l D yX9_listens (Cond.code yX9_listens cX9_listens 2 (some .boolean) :: TT) rm_X9_listens [.ref (q 0), .int t] [(kc 1, .int), (kc 2, .long), (kc 3, .boolean), (kc 4, .boolean), (kc 5, .boolean), (kc 6, .long), (kc 7, .int), (kc 8, .int)] (mW q kc a w hs inn sp lone lt lz dr) (some (.int (r_X9_listens a w k))) (mW q kc a w hs inn sp lone lt lz dr) := by
  refine MW.of (cc := cX9_listens) (nL := 2) (ret := (some .boolean)) (lv := [(0, .ref (q 0)), (1, .int t)]) (by decide) rfl rfl (Nat.le_of_ble_eq_true rfl) ?_
  intro p e s m args below meth c A Q hQ X
  refine aw_aload_n X (pc := 0) 0 rfl rfl dX9_listens_0 ?_
  refine aw_iload_n X (pc := 1) 1 rfl rfl dX9_listens_1 ?_
  refine aw_iconst X (pc := 2) (v := 1) dX9_listens_2 (by decide) ?_
  refine aw_callV X (pc := 3) (q1 := 0) (rest := []) (st' := [.int (a (300 + 6 * k + 1))]) (ws' := (mW q kc a w hs inn sp lone lt lz dr)) (c_X9_of l D q kc a w hs inn sp lone lt lz dr t 1 k 1 ht rfl (by omega)) rfl rfl [0, 1, 2, 3, 4, 5, 6, 7, 8] [0, 1, 2, 3, 4, 5, 6, 7] rfl rfl rfl rfl ⟨_, _, rfl⟩ rfl cf_X9_44 cd_X9_of dd_X9_of (by decide) (by decide) (by decide) rfl (Nat.le_of_ble_eq_true rfl) dX9_listens_3 rfl ?_
  refine aw_iconst X (pc := 6) (v := 1) dX9_listens_6 (by decide) ?_
  refine aw_icmp_ne X (pc := 7) (tgt := 52) (by decide) dX9_listens_7 (fun c1 => ?_) (fun c1 => ?_)
  · refine aw_iconst X (pc := 52) (v := 0) dX9_listens_52 (by decide) ?_
    exact aw_zret X (v := 0) rfl hQ (by simp only [r_X9_listens, if_neg c1]; try rfl) rfl dX9_listens_53
  · refine aw_aload_n X (pc := 10) 0 rfl rfl dX9_listens_10 ?_
    refine aw_iload_n X (pc := 11) 1 rfl rfl dX9_listens_11 ?_
    refine aw_iconst X (pc := 12) (v := 2) dX9_listens_12 (by decide) ?_
    refine aw_callV X (pc := 13) (q1 := 0) (rest := []) (st' := [.int (a (300 + 6 * k + 2))]) (ws' := (mW q kc a w hs inn sp lone lt lz dr)) (c_X9_of l D q kc a w hs inn sp lone lt lz dr t 2 k 2 ht rfl (by omega)) rfl rfl [0, 1, 2, 3, 4, 5, 6, 7, 8] [0, 1, 2, 3, 4, 5, 6, 7] rfl rfl rfl rfl ⟨_, _, rfl⟩ rfl cf_X9_44 cd_X9_of dd_X9_of (by decide) (by decide) (by decide) rfl (Nat.le_of_ble_eq_true rfl) dX9_listens_13 rfl ?_
    refine aw_iconst X (pc := 16) (v := 1) dX9_listens_16 (by decide) ?_
    refine aw_icmp_ne X (pc := 17) (tgt := 52) (by decide) dX9_listens_17 (fun c2 => ?_) (fun c2 => ?_)
    · refine aw_iconst X (pc := 52) (v := 0) dX9_listens_52 (by decide) ?_
      exact aw_zret X (v := 0) rfl hQ (by simp only [r_X9_listens, if_pos c1, if_neg c2]; try rfl) rfl dX9_listens_53
    · refine aw_aload_n X (pc := 20) 0 rfl rfl dX9_listens_20 ?_
      refine aw_get X (pc := 21) iX9 0 1 rfl rfl (by decide) fl_X9_13 rfl dX9_listens_21 ?_
      refine aw_bipush X (pc := 24) (v := 84) dX9_listens_24 (by decide) ?_
      refine aw_iload_n X (pc := 26) 1 rfl rfl dX9_listens_26 ?_
      refine aw_iadd X (pc := 27) (z := nI (84 + k)) (nn_add (a := 84) (b := k) rfl ht (by first | rfl | omega))  dX9_listens_27 ?_
      refine aw_lald X (pc := 28) 2 1 (84 + k) rfl rfl rfl (by decide) (by omega) dX9_listens_28 ?_
      refine aw_aload_n X (pc := 29) 0 rfl rfl dX9_listens_29 ?_
      refine aw_get X (pc := 30) iX9 0 1 rfl rfl (by decide) fl_X9_13 rfl dX9_listens_30 ?_
      refine aw_iconst X (pc := 33) (v := 1) dX9_listens_33 (by decide) ?_
      refine aw_lald X (pc := 34) 2 1 1 rfl rfl rfl (by decide) (by omega) dX9_listens_34 ?_
      refine aw_lxor X (pc := 35) (z := (w (84 + k)) ^^^ (w 1)) rfl dX9_listens_35 ?_
      refine aw_aload_n X (pc := 36) 0 rfl rfl dX9_listens_36 ?_
      refine aw_get X (pc := 37) iX9 0 1 rfl rfl (by decide) fl_X9_13 rfl dX9_listens_37 ?_
      refine aw_iconst X (pc := 40) (v := 0) dX9_listens_40 (by decide) ?_
      refine aw_lald X (pc := 41) 2 1 0 rfl rfl rfl (by decide) (by omega) dX9_listens_41 ?_
      refine aw_land X (pc := 42) (z := ((w (84 + k)) ^^^ (w 1)) &&& (w 0)) rfl dX9_listens_42 ?_
      refine aw_lconst X (pc := 43) (v := 0) dX9_listens_43 (by decide) ?_
      refine aw_lcmp X (pc := 44) dX9_listens_44 ?_
      refine aw_if_ne X (pc := 45) (tgt := 52) (by decide) dX9_listens_45 (fun c3 => ?_) (fun c3 => ?_)
      · refine aw_iconst X (pc := 52) (v := 0) dX9_listens_52 (by decide) ?_
        exact aw_zret X (v := 0) rfl hQ (by simp only [r_X9_listens, if_pos c1, if_pos c2, if_neg c3]; try rfl) rfl dX9_listens_53
      · refine aw_iconst X (pc := 48) (v := 1) dX9_listens_48 (by decide) ?_
        refine aw_goto X (pc := 49) (tgt := 53) (by decide) dX9_listens_49 ?_
        exact aw_zret X (v := 1) rfl hQ (by simp only [r_X9_listens, if_pos c1, if_pos c2, if_pos c3]; try rfl) rfl dX9_listens_53

def r_X9_wire (kind : Int32) : Int32 := if r_X9_isIn kind 2 = 0 then 0 else 1
def u_X9_wire_a (a : Nat → Int32) (kind : Int32) : Nat → Int32 := if r_X9_isIn kind 2 = 0 then a else (upd a 1 kind)
theorem z_X9_wire (kind : Int32) : r_X9_wire kind = 0 ∨ r_X9_wire kind = 1 := by unfold r_X9_wire; (repeat (split <;> try first | exact Or.inl rfl | exact Or.inr rfl)) <;> first | exact Or.inl rfl | exact Or.inr rfl
abbrev rm_X9_wire : Room := { frames := 1, cells := 0, slots := 0, locals := 21 }
set_option maxHeartbeats 4000000 in
set_option maxRecDepth 100000 in
theorem c_X9_wire (l : Launch) (D : va_G) (q : Nat → Nat) (kc : Nat → ClassId) (a : Nat → Int32) (w : Nat → Int64) (hs : Nat → Int32) (inn : Nat → Int32) (sp : Nat → Int32) (lone : Int32) (lt : Nat → Int64) (lz : Nat → Int32) (dr : Nat → Int32) (kind : Int32)  : MW l D yX9_wire (Cond.code yX9_wire cX9_wire 2 (some .boolean) :: TT) rm_X9_wire [.ref (q 0), .int kind] [(kc 1, .int), (kc 2, .long), (kc 3, .boolean), (kc 4, .boolean), (kc 5, .boolean), (kc 6, .long), (kc 7, .int), (kc 8, .int)] (mW q kc a w hs inn sp lone lt lz dr) (some (.int (r_X9_wire kind))) (mW q kc (u_X9_wire_a a kind) w hs inn sp lone lt lz dr) := by
  refine MW.of (cc := cX9_wire) (nL := 2) (ret := (some .boolean)) (lv := [(0, .ref (q 0)), (1, .int kind)]) (by decide) rfl rfl (Nat.le_of_ble_eq_true rfl) ?_
  intro p e s m args below meth c A Q hQ X
  refine aw_iload_n X (pc := 0) 1 rfl rfl dX9_wire_0 ?_
  refine aw_iconst X (pc := 1) (v := 2) dX9_wire_1 (by decide) ?_
  refine aw_callS X (pc := 2) (rest := []) (st' := [.int (r_X9_isIn kind 2)]) (ws' := (mW q kc a w hs inn sp lone lt lz dr)) (c_X9_isIn l D kind 2) rfl [] [] rfl rfl rfl rfl cf_X9_36 cd_X9_isIn dd_X9_isIn (by decide) (by decide) (by decide) rfl (Nat.le_of_ble_eq_true rfl) dX9_wire_2 rfl ?_
  refine aw_if_ne X (pc := 5) (tgt := 10) (by decide) dX9_wire_5 (fun c1 => ?_) (fun c1 => ?_)
  · refine aw_aload_n X (pc := 10) 0 rfl rfl dX9_wire_10 ?_
    refine aw_get X (pc := 11) iX9 0 0 rfl rfl (by decide) fl_X9_7 rfl dX9_wire_11 ?_
    refine aw_iconst X (pc := 14) (v := 1) dX9_wire_14 (by decide) ?_
    refine aw_iload_n X (pc := 15) 1 rfl rfl dX9_wire_15 ?_
    refine aw_iast X (pc := 16) 1 0 (ws' := (mW q kc (upd a 1 kind) w hs inn sp lone lt lz dr)) 1 rfl  rfl rfl (by decide) (by omega) rfl dX9_wire_16 ?_
    refine aw_iconst X (pc := 17) (v := 1) dX9_wire_17 (by decide) ?_
    exact aw_zret X (v := 1) rfl hQ (by simp only [r_X9_wire, if_neg c1]; try rfl) (by simp only [u_X9_wire_a, if_neg c1]) dX9_wire_18
  · refine aw_iconst X (pc := 8) (v := 0) dX9_wire_8 (by decide) ?_
    exact aw_zret X (v := 0) rfl hQ (by simp only [r_X9_wire, if_pos c1]; try rfl) (by simp only [u_X9_wire_a, if_pos c1]) dX9_wire_9

theorem isIn_nat {v most : Int32} {n : Nat} (hm : most = nI n) (hn : n < 2 ^ 31) (h : ¬ r_X9_isIn v most = 0) : v = nI v.toNatClampNeg ∧ v.toNatClampNeg < n := by
  unfold r_X9_isIn at h
  by_cases h1 : v < 0
  · rw [if_pos h1] at h; exact absurd rfl h
  · rw [if_neg h1] at h
    by_cases h2 : most ≤ v
    · rw [if_pos h2] at h; exact absurd rfl h
    · obtain ⟨j, hj, rfl⟩ := nI_of h1
      rw [nI_clamp hj]
      refine ⟨rfl, ?_⟩
      rw [hm, nI_leI hn hj] at h2
      omega

def r_X9_tag (a : Nat → Int32) (w : Nat → Int64) (n : Nat) (kind : Int32) (name : Int64) : Int32 := if a 0 = 40 then (-1) else (if r_X9_isIn kind 6 = 0 then (-1) else (if anyB (fun k => decide (lg_cmp (w (84 + k)) ((name <<< (Int32.toInt64 8 &&& 63)) ||| ((lpF (b_X9_sumOf_4 (name <<< (Int32.toInt64 8 &&& 63))) 56 0 0).toInt64)) = 0)) n = true then (-1) else (a 0)))
def u_X9_tag_a (a : Nat → Int32) (w : Nat → Int64) (n : Nat) (kind : Int32) (name : Int64) (seed : Int32) : Nat → Int32 := if a 0 = 40 then a else (if r_X9_isIn kind 6 = 0 then a else (if anyB (fun k => decide (lg_cmp (w (84 + k)) ((name <<< (Int32.toInt64 8 &&& 63)) ||| ((lpF (b_X9_sumOf_4 (name <<< (Int32.toInt64 8 &&& 63))) 56 0 0).toInt64)) = 0)) n = true then a else (if kind = 4 then (upd (upd (upd (upd (upd (upd (upd a 0 (nI (n + 1))) (300 + 6 * n + 0) kind) (300 + 6 * n + 1) 1) (300 + 6 * n + 2) 0) (300 + 6 * n + 3) (-1)) (300 + 6 * n + 4) seed) (300 + 6 * n + 5) 0) else (upd (upd (upd (upd (upd (upd (upd a 0 (nI (n + 1))) (300 + 6 * n + 0) kind) (300 + 6 * n + 1) 1) (300 + 6 * n + 2) 1) (300 + 6 * n + 3) (-1)) (300 + 6 * n + 4) seed) (300 + 6 * n + 5) 0))))
def u_X9_tag_w (a : Nat → Int32) (w : Nat → Int64) (n : Nat) (kind : Int32) (name : Int64) : Nat → Int64 := if a 0 = 40 then w else (if r_X9_isIn kind 6 = 0 then w else (if anyB (fun k => decide (lg_cmp (w (84 + k)) ((name <<< (Int32.toInt64 8 &&& 63)) ||| ((lpF (b_X9_sumOf_4 (name <<< (Int32.toInt64 8 &&& 63))) 56 0 0).toInt64)) = 0)) n = true then w else (vp_updL w (84 + n) ((name <<< (Int32.toInt64 8 &&& 63)) ||| ((lpF (b_X9_sumOf_4 (name <<< (Int32.toInt64 8 &&& 63))) 56 0 0).toInt64)))))
abbrev rm_X9_tag : Room := { frames := 2, cells := 0, slots := 0, locals := 46 }
set_option maxHeartbeats 4000000 in
set_option maxRecDepth 100000 in
theorem c_X9_tag (l : Launch) (D : va_G) (q : Nat → Nat) (kc : Nat → ClassId) (a : Nat → Int32) (w : Nat → Int64) (hs : Nat → Int32) (inn : Nat → Int32) (sp : Nat → Int32) (lone : Int32) (lt : Nat → Int64) (lz : Nat → Int32) (dr : Nat → Int32) (n : Nat) (kind : Int32) (name : Int64) (seed : Int32) (ha0 : a 0 = nI n) (hn : n ≤ 40) : MW l D yX9_tag (Cond.code yX9_tag cX9_tag 8 (some .int) :: TT) rm_X9_tag [.ref (q 0), .int kind, .long name, .int seed] [(kc 1, .int), (kc 2, .long), (kc 3, .boolean), (kc 4, .boolean), (kc 5, .boolean), (kc 6, .long), (kc 7, .int), (kc 8, .int)] (mW q kc a w hs inn sp lone lt lz dr) (some (.int (r_X9_tag a w n kind name))) (mW q kc (u_X9_tag_a a w n kind name seed) (u_X9_tag_w a w n kind name) hs inn sp lone lt lz dr) := by
  refine MW.of (cc := cX9_tag) (nL := 8) (ret := (some .int)) (lv := [(0, .ref (q 0)), (1, .int kind), (2, .long name), (4, .int seed)]) (by decide) rfl rfl (Nat.le_of_ble_eq_true rfl) ?_
  intro p e s m args below meth c A Q hQ X
  refine aw_aload_n X (pc := 0) 0 rfl rfl dX9_tag_0 ?_
  refine aw_get X (pc := 1) iX9 0 0 rfl rfl (by decide) fl_X9_7 rfl dX9_tag_1 ?_
  refine aw_iconst X (pc := 4) (v := 0) dX9_tag_4 (by decide) ?_
  refine aw_iald X (pc := 5) 1 0 0 rfl rfl rfl (by decide) (by omega) dX9_tag_5 ?_
  refine aw_bipush X (pc := 6) (v := 40) dX9_tag_6 (by decide) ?_
  refine aw_icmp_eq X (pc := 8) (tgt := 20) (by decide) dX9_tag_8 (fun c1 => ?_) (fun c1 => ?_)
  · refine aw_iconst X (pc := 20) (v := (-1)) dX9_tag_20 (by decide) ?_
    exact aw_iret X (v := (-1)) hQ (by simp only [r_X9_tag, if_pos c1]; try rfl) (by simp only [u_X9_tag_a, u_X9_tag_w, if_pos c1]) dX9_tag_21
  · have hn40 : n ≠ 40 := fun z => c1 (by rw [ha0, z]; rfl)
    refine aw_iload_n X (pc := 11) 1 rfl rfl dX9_tag_11 ?_
    refine aw_bipush X (pc := 12) (v := 6) dX9_tag_12 (by decide) ?_
    refine aw_callS X (pc := 14) (rest := []) (st' := [.int (r_X9_isIn kind 6)]) (ws' := (mW q kc a w hs inn sp lone lt lz dr)) (c_X9_isIn l D kind 6) rfl [] [] rfl rfl rfl rfl cf_X9_36 cd_X9_isIn dd_X9_isIn (by decide) (by decide) (by decide) rfl (Nat.le_of_ble_eq_true rfl) dX9_tag_14 rfl ?_
    refine aw_if_ne X (pc := 17) (tgt := 22) (by decide) dX9_tag_17 (fun c2 => ?_) (fun c2 => ?_)
    · refine aw_lload_n X (pc := 22) 2 rfl rfl dX9_tag_22 ?_
      refine aw_bipush X (pc := 23) (v := 8) dX9_tag_23 (by decide) ?_
      refine aw_lshl X (pc := 25) (z := name <<< (Int32.toInt64 8 &&& 63)) rfl dX9_tag_25 ?_
      refine aw_lstore X (pc := 26) (lv' := [(5, .long (name <<< (Int32.toInt64 8 &&& 63))), (0, .ref (q 0)), (1, .int kind), (2, .long name), (4, .int seed)]) (by decide) rfl dX9_tag_26 ?_
      refine aw_lload X (pc := 28) 0 rfl dX9_tag_28 ?_
      refine aw_lload X (pc := 30) 0 rfl dX9_tag_30 ?_
      refine aw_callS X (pc := 32) (rest := [.long (name <<< (Int32.toInt64 8 &&& 63))]) (st' := [.int (lpF (b_X9_sumOf_4 (name <<< (Int32.toInt64 8 &&& 63))) 56 0 0), .long (name <<< (Int32.toInt64 8 &&& 63))]) (ws' := (mW q kc a w hs inn sp lone lt lz dr)) (c_X9_sumOf l D (name <<< (Int32.toInt64 8 &&& 63))) rfl [] [] rfl rfl rfl rfl cf_X9_48 cd_X9_sumOf dd_X9_sumOf (by decide) (by decide) (by decide) rfl (Nat.le_of_ble_eq_true rfl) dX9_tag_32 rfl ?_
      refine aw_i2l X (pc := 35) (z := (lpF (b_X9_sumOf_4 (name <<< (Int32.toInt64 8 &&& 63))) 56 0 0).toInt64) rfl dX9_tag_35 ?_
      refine aw_lor X (pc := 36) (z := (name <<< (Int32.toInt64 8 &&& 63)) ||| ((lpF (b_X9_sumOf_4 (name <<< (Int32.toInt64 8 &&& 63))) 56 0 0).toInt64)) rfl dX9_tag_36 ?_
      refine aw_lstore X (pc := 37) (lv' := [(5, .long ((name <<< (Int32.toInt64 8 &&& 63)) ||| ((lpF (b_X9_sumOf_4 (name <<< (Int32.toInt64 8 &&& 63))) 56 0 0).toInt64))), (0, .ref (q 0)), (1, .int kind), (2, .long name), (4, .int seed)]) (by decide) rfl dX9_tag_37 ?_
      refine aw_iconst X (pc := 39) (v := 0) dX9_tag_39 (by decide) ?_
      refine aw_istore X (pc := 40) (lv' := [(7, .int 0), (5, .long ((name <<< (Int32.toInt64 8 &&& 63)) ||| ((lpF (b_X9_sumOf_4 (name <<< (Int32.toInt64 8 &&& 63))) 56 0 0).toInt64))), (0, .ref (q 0)), (1, .int kind), (2, .long name), (4, .int seed)]) (by decide) rfl dX9_tag_40 ?_
      have L3 : ∀ (n3 k : Nat), k + n3 = n → (∀ j, j < k → ¬ (fun k : Nat => lg_cmp (w (84 + k)) ((name <<< (Int32.toInt64 8 &&& 63)) ||| ((lpF (b_X9_sumOf_4 (name <<< (Int32.toInt64 8 &&& 63))) 56 0 0).toInt64)) = 0) j) → AW p l e rm_X9_tag s m args below meth c D A 8 0 0 Q 42 [(7, .int (nI k)), (5, .long ((name <<< (Int32.toInt64 8 &&& 63)) ||| ((lpF (b_X9_sumOf_4 (name <<< (Int32.toInt64 8 &&& 63))) 56 0 0).toInt64))), (0, .ref (q 0)), (1, .int kind), (2, .long name), (4, .int seed)] [] (mW q kc a w hs inn sp lone lt lz dr) := by
        intro n3; induction n3 with
        | zero =>
          intro k hk3 hn3
          have hk3 : k = n := by omega
          have g4 : ¬ anyB (fun k => decide (lg_cmp (w (84 + k)) ((name <<< (Int32.toInt64 8 &&& 63)) ||| ((lpF (b_X9_sumOf_4 (name <<< (Int32.toInt64 8 &&& 63))) 56 0 0).toInt64)) = 0)) n = true := anyB_no (fun j hj => hn3 j (by omega))
          refine aw_iload X (pc := 42) 0 rfl dX9_tag_42 ?_
          refine aw_aload_n X (pc := 44) 2 rfl rfl dX9_tag_44 ?_
          refine aw_get X (pc := 45) iX9 0 0 rfl rfl (by decide) fl_X9_7 rfl dX9_tag_45 ?_
          refine aw_iconst X (pc := 48) (v := 0) dX9_tag_48 (by decide) ?_
          refine aw_iald X (pc := 49) 1 0 0 rfl rfl rfl (by decide) (by omega) dX9_tag_49 ?_
          refine aw_icmp_ge X (pc := 50) (tgt := 77) (by decide) dX9_tag_50 (fun c5 => ?_) (fun c5 => absurd (nn_le (a := n) (b := k) ha0 rfl (by omega) (by omega)) c5)
          refine aw_aload_n X (pc := 77) 2 rfl rfl dX9_tag_77 ?_
          refine aw_get X (pc := 78) iX9 0 0 rfl rfl (by decide) fl_X9_7 rfl dX9_tag_78 ?_
          refine aw_iconst X (pc := 81) (v := 0) dX9_tag_81 (by decide) ?_
          refine aw_iald X (pc := 82) 1 0 0 rfl rfl rfl (by decide) (by omega) dX9_tag_82 ?_
          refine aw_istore X (pc := 83) (lv' := [(7, .int (a 0)), (5, .long ((name <<< (Int32.toInt64 8 &&& 63)) ||| ((lpF (b_X9_sumOf_4 (name <<< (Int32.toInt64 8 &&& 63))) 56 0 0).toInt64))), (0, .ref (q 0)), (1, .int kind), (2, .long name), (4, .int seed)]) (by decide) rfl dX9_tag_83 ?_
          refine aw_aload_n X (pc := 85) 2 rfl rfl dX9_tag_85 ?_
          refine aw_get X (pc := 86) iX9 0 0 rfl rfl (by decide) fl_X9_7 rfl dX9_tag_86 ?_
          refine aw_iconst X (pc := 89) (v := 0) dX9_tag_89 (by decide) ?_
          refine aw_dup2_11 X (pc := 90) dX9_tag_90 rfl rfl ?_
          refine aw_iald X (pc := 91) 1 0 0 rfl rfl rfl (by decide) (by omega) dX9_tag_91 ?_
          refine aw_iconst X (pc := 92) (v := 1) dX9_tag_92 (by decide) ?_
          refine aw_iadd X (pc := 93) (z := nI (n + 1)) (nn_add (a := n) (b := 1) ha0 rfl (by first | rfl | omega))  dX9_tag_93 ?_
          refine aw_iast X (pc := 94) 1 0 (ws' := (mW q kc (upd a 0 (nI (n + 1))) w hs inn sp lone lt lz dr)) 0 rfl  rfl rfl (by decide) (by omega) rfl dX9_tag_94 ?_
          have ha6 : (upd a 0 (nI (n + 1))) 0 = nI (n + 1) := pk_us.trans rfl
          refine aw_aload_n X (pc := 95) 2 rfl rfl dX9_tag_95 ?_
          refine aw_get X (pc := 96) iX9 0 1 rfl rfl (by decide) fl_X9_13 rfl dX9_tag_96 ?_
          refine aw_bipush X (pc := 99) (v := 84) dX9_tag_99 (by decide) ?_
          refine aw_iload X (pc := 101) 0 rfl dX9_tag_101 ?_
          refine aw_iadd X (pc := 103) (z := nI (84 + n)) (nn_add (a := 84) (b := n) rfl ha0 (by first | rfl | omega))  dX9_tag_103 ?_
          refine aw_lload X (pc := 104) 1 rfl dX9_tag_104 ?_
          refine aw_last X (pc := 106) 2 1 (ws' := (mW q kc (upd a 0 (nI (n + 1))) (vp_updL w (84 + n) ((name <<< (Int32.toInt64 8 &&& 63)) ||| ((lpF (b_X9_sumOf_4 (name <<< (Int32.toInt64 8 &&& 63))) 56 0 0).toInt64))) hs inn sp lone lt lz dr)) (84 + n) rfl  rfl rfl (by decide) (by omega) rfl dX9_tag_106 ?_
          refine aw_aload_n X (pc := 107) 2 rfl rfl dX9_tag_107 ?_
          refine aw_iload X (pc := 108) 0 rfl dX9_tag_108 ?_
          refine aw_iconst X (pc := 110) (v := 0) dX9_tag_110 (by decide) ?_
          refine aw_iload_n X (pc := 111) 3 rfl rfl dX9_tag_111 ?_
          refine aw_callV X (pc := 112) (q1 := 0) (rest := []) (st' := []) (ws' := (mW q kc (upd (upd a 0 (nI (n + 1))) (300 + 6 * n + 0) kind) (vp_updL w (84 + n) ((name <<< (Int32.toInt64 8 &&& 63)) ||| ((lpF (b_X9_sumOf_4 (name <<< (Int32.toInt64 8 &&& 63))) 56 0 0).toInt64))) hs inn sp lone lt lz dr)) (c_X9_sets l D q kc (upd a 0 (nI (n + 1))) (vp_updL w (84 + n) ((name <<< (Int32.toInt64 8 &&& 63)) ||| ((lpF (b_X9_sumOf_4 (name <<< (Int32.toInt64 8 &&& 63))) 56 0 0).toInt64))) hs inn sp lone lt lz dr (a 0) 0 n 0 kind ha0 rfl (by omega)) rfl rfl [0, 1, 2, 3, 4, 5, 6, 7, 8] [0, 1, 2, 3, 4, 5, 6, 7] rfl rfl rfl rfl ⟨_, _, rfl⟩ rfl cf_X9_52 cd_X9_sets dd_X9_sets (by decide) (by decide) (by decide) rfl (Nat.le_of_ble_eq_true rfl) dX9_tag_112 rfl ?_
          have ha7 : (upd (upd a 0 (nI (n + 1))) (300 + 6 * n + 0) kind) 0 = nI (n + 1) := by rw [pk_un (by omega)]; exact ha6
          refine aw_aload_n X (pc := 115) 2 rfl rfl dX9_tag_115 ?_
          refine aw_iload X (pc := 116) 0 rfl dX9_tag_116 ?_
          refine aw_iconst X (pc := 118) (v := 1) dX9_tag_118 (by decide) ?_
          refine aw_iconst X (pc := 119) (v := 1) dX9_tag_119 (by decide) ?_
          refine aw_callV X (pc := 120) (q1 := 0) (rest := []) (st' := []) (ws' := (mW q kc (upd (upd (upd a 0 (nI (n + 1))) (300 + 6 * n + 0) kind) (300 + 6 * n + 1) 1) (vp_updL w (84 + n) ((name <<< (Int32.toInt64 8 &&& 63)) ||| ((lpF (b_X9_sumOf_4 (name <<< (Int32.toInt64 8 &&& 63))) 56 0 0).toInt64))) hs inn sp lone lt lz dr)) (c_X9_sets l D q kc (upd (upd a 0 (nI (n + 1))) (300 + 6 * n + 0) kind) (vp_updL w (84 + n) ((name <<< (Int32.toInt64 8 &&& 63)) ||| ((lpF (b_X9_sumOf_4 (name <<< (Int32.toInt64 8 &&& 63))) 56 0 0).toInt64))) hs inn sp lone lt lz dr (a 0) 1 n 1 1 ha0 rfl (by omega)) rfl rfl [0, 1, 2, 3, 4, 5, 6, 7, 8] [0, 1, 2, 3, 4, 5, 6, 7] rfl rfl rfl rfl ⟨_, _, rfl⟩ rfl cf_X9_52 cd_X9_sets dd_X9_sets (by decide) (by decide) (by decide) rfl (Nat.le_of_ble_eq_true rfl) dX9_tag_120 rfl ?_
          have ha8 : (upd (upd (upd a 0 (nI (n + 1))) (300 + 6 * n + 0) kind) (300 + 6 * n + 1) 1) 0 = nI (n + 1) := by rw [pk_un (by omega)]; exact ha7
          refine aw_aload_n X (pc := 123) 2 rfl rfl dX9_tag_123 ?_
          refine aw_iload X (pc := 124) 0 rfl dX9_tag_124 ?_
          refine aw_iconst X (pc := 126) (v := 2) dX9_tag_126 (by decide) ?_
          refine aw_iload_n X (pc := 127) 3 rfl rfl dX9_tag_127 ?_
          refine aw_iconst X (pc := 128) (v := 4) dX9_tag_128 (by decide) ?_
          refine aw_icmp_ne X (pc := 129) (tgt := 136) (by decide) dX9_tag_129 (fun c9 => ?_) (fun c9 => ?_)
          · refine aw_iconst X (pc := 136) (v := 1) dX9_tag_136 (by decide) ?_
            refine aw_callV X (pc := 137) (q1 := 0) (rest := []) (st' := []) (ws' := (mW q kc (upd (upd (upd (upd a 0 (nI (n + 1))) (300 + 6 * n + 0) kind) (300 + 6 * n + 1) 1) (300 + 6 * n + 2) 1) (vp_updL w (84 + n) ((name <<< (Int32.toInt64 8 &&& 63)) ||| ((lpF (b_X9_sumOf_4 (name <<< (Int32.toInt64 8 &&& 63))) 56 0 0).toInt64))) hs inn sp lone lt lz dr)) (c_X9_sets l D q kc (upd (upd (upd a 0 (nI (n + 1))) (300 + 6 * n + 0) kind) (300 + 6 * n + 1) 1) (vp_updL w (84 + n) ((name <<< (Int32.toInt64 8 &&& 63)) ||| ((lpF (b_X9_sumOf_4 (name <<< (Int32.toInt64 8 &&& 63))) 56 0 0).toInt64))) hs inn sp lone lt lz dr (a 0) 2 n 2 1 ha0 rfl (by omega)) rfl rfl [0, 1, 2, 3, 4, 5, 6, 7, 8] [0, 1, 2, 3, 4, 5, 6, 7] rfl rfl rfl rfl ⟨_, _, rfl⟩ rfl cf_X9_52 cd_X9_sets dd_X9_sets (by decide) (by decide) (by decide) rfl (Nat.le_of_ble_eq_true rfl) dX9_tag_137 rfl ?_
            have ha10 : (upd (upd (upd (upd a 0 (nI (n + 1))) (300 + 6 * n + 0) kind) (300 + 6 * n + 1) 1) (300 + 6 * n + 2) 1) 0 = nI (n + 1) := by rw [pk_un (by omega)]; exact ha8
            refine aw_aload_n X (pc := 140) 2 rfl rfl dX9_tag_140 ?_
            refine aw_iload X (pc := 141) 0 rfl dX9_tag_141 ?_
            refine aw_iconst X (pc := 143) (v := 3) dX9_tag_143 (by decide) ?_
            refine aw_iconst X (pc := 144) (v := (-1)) dX9_tag_144 (by decide) ?_
            refine aw_callV X (pc := 145) (q1 := 0) (rest := []) (st' := []) (ws' := (mW q kc (upd (upd (upd (upd (upd a 0 (nI (n + 1))) (300 + 6 * n + 0) kind) (300 + 6 * n + 1) 1) (300 + 6 * n + 2) 1) (300 + 6 * n + 3) (-1)) (vp_updL w (84 + n) ((name <<< (Int32.toInt64 8 &&& 63)) ||| ((lpF (b_X9_sumOf_4 (name <<< (Int32.toInt64 8 &&& 63))) 56 0 0).toInt64))) hs inn sp lone lt lz dr)) (c_X9_sets l D q kc (upd (upd (upd (upd a 0 (nI (n + 1))) (300 + 6 * n + 0) kind) (300 + 6 * n + 1) 1) (300 + 6 * n + 2) 1) (vp_updL w (84 + n) ((name <<< (Int32.toInt64 8 &&& 63)) ||| ((lpF (b_X9_sumOf_4 (name <<< (Int32.toInt64 8 &&& 63))) 56 0 0).toInt64))) hs inn sp lone lt lz dr (a 0) 3 n 3 (-1) ha0 rfl (by omega)) rfl rfl [0, 1, 2, 3, 4, 5, 6, 7, 8] [0, 1, 2, 3, 4, 5, 6, 7] rfl rfl rfl rfl ⟨_, _, rfl⟩ rfl cf_X9_52 cd_X9_sets dd_X9_sets (by decide) (by decide) (by decide) rfl (Nat.le_of_ble_eq_true rfl) dX9_tag_145 rfl ?_
            have ha11 : (upd (upd (upd (upd (upd a 0 (nI (n + 1))) (300 + 6 * n + 0) kind) (300 + 6 * n + 1) 1) (300 + 6 * n + 2) 1) (300 + 6 * n + 3) (-1)) 0 = nI (n + 1) := by rw [pk_un (by omega)]; exact ha10
            refine aw_aload_n X (pc := 148) 2 rfl rfl dX9_tag_148 ?_
            refine aw_iload X (pc := 149) 0 rfl dX9_tag_149 ?_
            refine aw_iconst X (pc := 151) (v := 4) dX9_tag_151 (by decide) ?_
            refine aw_iload X (pc := 152) 5 rfl dX9_tag_152 ?_
            refine aw_callV X (pc := 154) (q1 := 0) (rest := []) (st' := []) (ws' := (mW q kc (upd (upd (upd (upd (upd (upd a 0 (nI (n + 1))) (300 + 6 * n + 0) kind) (300 + 6 * n + 1) 1) (300 + 6 * n + 2) 1) (300 + 6 * n + 3) (-1)) (300 + 6 * n + 4) seed) (vp_updL w (84 + n) ((name <<< (Int32.toInt64 8 &&& 63)) ||| ((lpF (b_X9_sumOf_4 (name <<< (Int32.toInt64 8 &&& 63))) 56 0 0).toInt64))) hs inn sp lone lt lz dr)) (c_X9_sets l D q kc (upd (upd (upd (upd (upd a 0 (nI (n + 1))) (300 + 6 * n + 0) kind) (300 + 6 * n + 1) 1) (300 + 6 * n + 2) 1) (300 + 6 * n + 3) (-1)) (vp_updL w (84 + n) ((name <<< (Int32.toInt64 8 &&& 63)) ||| ((lpF (b_X9_sumOf_4 (name <<< (Int32.toInt64 8 &&& 63))) 56 0 0).toInt64))) hs inn sp lone lt lz dr (a 0) 4 n 4 seed ha0 rfl (by omega)) rfl rfl [0, 1, 2, 3, 4, 5, 6, 7, 8] [0, 1, 2, 3, 4, 5, 6, 7] rfl rfl rfl rfl ⟨_, _, rfl⟩ rfl cf_X9_52 cd_X9_sets dd_X9_sets (by decide) (by decide) (by decide) rfl (Nat.le_of_ble_eq_true rfl) dX9_tag_154 rfl ?_
            have ha12 : (upd (upd (upd (upd (upd (upd a 0 (nI (n + 1))) (300 + 6 * n + 0) kind) (300 + 6 * n + 1) 1) (300 + 6 * n + 2) 1) (300 + 6 * n + 3) (-1)) (300 + 6 * n + 4) seed) 0 = nI (n + 1) := by rw [pk_un (by omega)]; exact ha11
            refine aw_aload_n X (pc := 157) 2 rfl rfl dX9_tag_157 ?_
            refine aw_iload X (pc := 158) 0 rfl dX9_tag_158 ?_
            refine aw_iconst X (pc := 160) (v := 5) dX9_tag_160 (by decide) ?_
            refine aw_iconst X (pc := 161) (v := 0) dX9_tag_161 (by decide) ?_
            refine aw_callV X (pc := 162) (q1 := 0) (rest := []) (st' := []) (ws' := (mW q kc (upd (upd (upd (upd (upd (upd (upd a 0 (nI (n + 1))) (300 + 6 * n + 0) kind) (300 + 6 * n + 1) 1) (300 + 6 * n + 2) 1) (300 + 6 * n + 3) (-1)) (300 + 6 * n + 4) seed) (300 + 6 * n + 5) 0) (vp_updL w (84 + n) ((name <<< (Int32.toInt64 8 &&& 63)) ||| ((lpF (b_X9_sumOf_4 (name <<< (Int32.toInt64 8 &&& 63))) 56 0 0).toInt64))) hs inn sp lone lt lz dr)) (c_X9_sets l D q kc (upd (upd (upd (upd (upd (upd a 0 (nI (n + 1))) (300 + 6 * n + 0) kind) (300 + 6 * n + 1) 1) (300 + 6 * n + 2) 1) (300 + 6 * n + 3) (-1)) (300 + 6 * n + 4) seed) (vp_updL w (84 + n) ((name <<< (Int32.toInt64 8 &&& 63)) ||| ((lpF (b_X9_sumOf_4 (name <<< (Int32.toInt64 8 &&& 63))) 56 0 0).toInt64))) hs inn sp lone lt lz dr (a 0) 5 n 5 0 ha0 rfl (by omega)) rfl rfl [0, 1, 2, 3, 4, 5, 6, 7, 8] [0, 1, 2, 3, 4, 5, 6, 7] rfl rfl rfl rfl ⟨_, _, rfl⟩ rfl cf_X9_52 cd_X9_sets dd_X9_sets (by decide) (by decide) (by decide) rfl (Nat.le_of_ble_eq_true rfl) dX9_tag_162 rfl ?_
            have ha13 : (upd (upd (upd (upd (upd (upd (upd a 0 (nI (n + 1))) (300 + 6 * n + 0) kind) (300 + 6 * n + 1) 1) (300 + 6 * n + 2) 1) (300 + 6 * n + 3) (-1)) (300 + 6 * n + 4) seed) (300 + 6 * n + 5) 0) 0 = nI (n + 1) := by rw [pk_un (by omega)]; exact ha12
            refine aw_iload X (pc := 165) 0 rfl dX9_tag_165 ?_
            exact aw_iret X (v := a 0) hQ (by simp only [r_X9_tag, if_neg c1, if_neg c2, if_neg g4, if_neg c9]; try rfl) (by simp only [u_X9_tag_a, u_X9_tag_w, if_neg c1, if_neg c2, if_neg g4, if_neg c9]) dX9_tag_167
          · refine aw_iconst X (pc := 132) (v := 0) dX9_tag_132 (by decide) ?_
            refine aw_goto X (pc := 133) (tgt := 137) (by decide) dX9_tag_133 ?_
            refine aw_callV X (pc := 137) (q1 := 0) (rest := []) (st' := []) (ws' := (mW q kc (upd (upd (upd (upd a 0 (nI (n + 1))) (300 + 6 * n + 0) kind) (300 + 6 * n + 1) 1) (300 + 6 * n + 2) 0) (vp_updL w (84 + n) ((name <<< (Int32.toInt64 8 &&& 63)) ||| ((lpF (b_X9_sumOf_4 (name <<< (Int32.toInt64 8 &&& 63))) 56 0 0).toInt64))) hs inn sp lone lt lz dr)) (c_X9_sets l D q kc (upd (upd (upd a 0 (nI (n + 1))) (300 + 6 * n + 0) kind) (300 + 6 * n + 1) 1) (vp_updL w (84 + n) ((name <<< (Int32.toInt64 8 &&& 63)) ||| ((lpF (b_X9_sumOf_4 (name <<< (Int32.toInt64 8 &&& 63))) 56 0 0).toInt64))) hs inn sp lone lt lz dr (a 0) 2 n 2 0 ha0 rfl (by omega)) rfl rfl [0, 1, 2, 3, 4, 5, 6, 7, 8] [0, 1, 2, 3, 4, 5, 6, 7] rfl rfl rfl rfl ⟨_, _, rfl⟩ rfl cf_X9_52 cd_X9_sets dd_X9_sets (by decide) (by decide) (by decide) rfl (Nat.le_of_ble_eq_true rfl) dX9_tag_137 rfl ?_
            have ha14 : (upd (upd (upd (upd a 0 (nI (n + 1))) (300 + 6 * n + 0) kind) (300 + 6 * n + 1) 1) (300 + 6 * n + 2) 0) 0 = nI (n + 1) := by rw [pk_un (by omega)]; exact ha8
            refine aw_aload_n X (pc := 140) 2 rfl rfl dX9_tag_140 ?_
            refine aw_iload X (pc := 141) 0 rfl dX9_tag_141 ?_
            refine aw_iconst X (pc := 143) (v := 3) dX9_tag_143 (by decide) ?_
            refine aw_iconst X (pc := 144) (v := (-1)) dX9_tag_144 (by decide) ?_
            refine aw_callV X (pc := 145) (q1 := 0) (rest := []) (st' := []) (ws' := (mW q kc (upd (upd (upd (upd (upd a 0 (nI (n + 1))) (300 + 6 * n + 0) kind) (300 + 6 * n + 1) 1) (300 + 6 * n + 2) 0) (300 + 6 * n + 3) (-1)) (vp_updL w (84 + n) ((name <<< (Int32.toInt64 8 &&& 63)) ||| ((lpF (b_X9_sumOf_4 (name <<< (Int32.toInt64 8 &&& 63))) 56 0 0).toInt64))) hs inn sp lone lt lz dr)) (c_X9_sets l D q kc (upd (upd (upd (upd a 0 (nI (n + 1))) (300 + 6 * n + 0) kind) (300 + 6 * n + 1) 1) (300 + 6 * n + 2) 0) (vp_updL w (84 + n) ((name <<< (Int32.toInt64 8 &&& 63)) ||| ((lpF (b_X9_sumOf_4 (name <<< (Int32.toInt64 8 &&& 63))) 56 0 0).toInt64))) hs inn sp lone lt lz dr (a 0) 3 n 3 (-1) ha0 rfl (by omega)) rfl rfl [0, 1, 2, 3, 4, 5, 6, 7, 8] [0, 1, 2, 3, 4, 5, 6, 7] rfl rfl rfl rfl ⟨_, _, rfl⟩ rfl cf_X9_52 cd_X9_sets dd_X9_sets (by decide) (by decide) (by decide) rfl (Nat.le_of_ble_eq_true rfl) dX9_tag_145 rfl ?_
            have ha15 : (upd (upd (upd (upd (upd a 0 (nI (n + 1))) (300 + 6 * n + 0) kind) (300 + 6 * n + 1) 1) (300 + 6 * n + 2) 0) (300 + 6 * n + 3) (-1)) 0 = nI (n + 1) := by rw [pk_un (by omega)]; exact ha14
            refine aw_aload_n X (pc := 148) 2 rfl rfl dX9_tag_148 ?_
            refine aw_iload X (pc := 149) 0 rfl dX9_tag_149 ?_
            refine aw_iconst X (pc := 151) (v := 4) dX9_tag_151 (by decide) ?_
            refine aw_iload X (pc := 152) 5 rfl dX9_tag_152 ?_
            refine aw_callV X (pc := 154) (q1 := 0) (rest := []) (st' := []) (ws' := (mW q kc (upd (upd (upd (upd (upd (upd a 0 (nI (n + 1))) (300 + 6 * n + 0) kind) (300 + 6 * n + 1) 1) (300 + 6 * n + 2) 0) (300 + 6 * n + 3) (-1)) (300 + 6 * n + 4) seed) (vp_updL w (84 + n) ((name <<< (Int32.toInt64 8 &&& 63)) ||| ((lpF (b_X9_sumOf_4 (name <<< (Int32.toInt64 8 &&& 63))) 56 0 0).toInt64))) hs inn sp lone lt lz dr)) (c_X9_sets l D q kc (upd (upd (upd (upd (upd a 0 (nI (n + 1))) (300 + 6 * n + 0) kind) (300 + 6 * n + 1) 1) (300 + 6 * n + 2) 0) (300 + 6 * n + 3) (-1)) (vp_updL w (84 + n) ((name <<< (Int32.toInt64 8 &&& 63)) ||| ((lpF (b_X9_sumOf_4 (name <<< (Int32.toInt64 8 &&& 63))) 56 0 0).toInt64))) hs inn sp lone lt lz dr (a 0) 4 n 4 seed ha0 rfl (by omega)) rfl rfl [0, 1, 2, 3, 4, 5, 6, 7, 8] [0, 1, 2, 3, 4, 5, 6, 7] rfl rfl rfl rfl ⟨_, _, rfl⟩ rfl cf_X9_52 cd_X9_sets dd_X9_sets (by decide) (by decide) (by decide) rfl (Nat.le_of_ble_eq_true rfl) dX9_tag_154 rfl ?_
            have ha16 : (upd (upd (upd (upd (upd (upd a 0 (nI (n + 1))) (300 + 6 * n + 0) kind) (300 + 6 * n + 1) 1) (300 + 6 * n + 2) 0) (300 + 6 * n + 3) (-1)) (300 + 6 * n + 4) seed) 0 = nI (n + 1) := by rw [pk_un (by omega)]; exact ha15
            refine aw_aload_n X (pc := 157) 2 rfl rfl dX9_tag_157 ?_
            refine aw_iload X (pc := 158) 0 rfl dX9_tag_158 ?_
            refine aw_iconst X (pc := 160) (v := 5) dX9_tag_160 (by decide) ?_
            refine aw_iconst X (pc := 161) (v := 0) dX9_tag_161 (by decide) ?_
            refine aw_callV X (pc := 162) (q1 := 0) (rest := []) (st' := []) (ws' := (mW q kc (upd (upd (upd (upd (upd (upd (upd a 0 (nI (n + 1))) (300 + 6 * n + 0) kind) (300 + 6 * n + 1) 1) (300 + 6 * n + 2) 0) (300 + 6 * n + 3) (-1)) (300 + 6 * n + 4) seed) (300 + 6 * n + 5) 0) (vp_updL w (84 + n) ((name <<< (Int32.toInt64 8 &&& 63)) ||| ((lpF (b_X9_sumOf_4 (name <<< (Int32.toInt64 8 &&& 63))) 56 0 0).toInt64))) hs inn sp lone lt lz dr)) (c_X9_sets l D q kc (upd (upd (upd (upd (upd (upd a 0 (nI (n + 1))) (300 + 6 * n + 0) kind) (300 + 6 * n + 1) 1) (300 + 6 * n + 2) 0) (300 + 6 * n + 3) (-1)) (300 + 6 * n + 4) seed) (vp_updL w (84 + n) ((name <<< (Int32.toInt64 8 &&& 63)) ||| ((lpF (b_X9_sumOf_4 (name <<< (Int32.toInt64 8 &&& 63))) 56 0 0).toInt64))) hs inn sp lone lt lz dr (a 0) 5 n 5 0 ha0 rfl (by omega)) rfl rfl [0, 1, 2, 3, 4, 5, 6, 7, 8] [0, 1, 2, 3, 4, 5, 6, 7] rfl rfl rfl rfl ⟨_, _, rfl⟩ rfl cf_X9_52 cd_X9_sets dd_X9_sets (by decide) (by decide) (by decide) rfl (Nat.le_of_ble_eq_true rfl) dX9_tag_162 rfl ?_
            have ha17 : (upd (upd (upd (upd (upd (upd (upd a 0 (nI (n + 1))) (300 + 6 * n + 0) kind) (300 + 6 * n + 1) 1) (300 + 6 * n + 2) 0) (300 + 6 * n + 3) (-1)) (300 + 6 * n + 4) seed) (300 + 6 * n + 5) 0) 0 = nI (n + 1) := by rw [pk_un (by omega)]; exact ha16
            refine aw_iload X (pc := 165) 0 rfl dX9_tag_165 ?_
            exact aw_iret X (v := a 0) hQ (by simp only [r_X9_tag, if_neg c1, if_neg c2, if_neg g4, if_pos c9]; try rfl) (by simp only [u_X9_tag_a, u_X9_tag_w, if_neg c1, if_neg c2, if_neg g4, if_pos c9]) dX9_tag_167
        | succ n3 ih3 =>
          intro k hk3 hn3
          refine aw_iload X (pc := 42) 0 rfl dX9_tag_42 ?_
          refine aw_aload_n X (pc := 44) 2 rfl rfl dX9_tag_44 ?_
          refine aw_get X (pc := 45) iX9 0 0 rfl rfl (by decide) fl_X9_7 rfl dX9_tag_45 ?_
          refine aw_iconst X (pc := 48) (v := 0) dX9_tag_48 (by decide) ?_
          refine aw_iald X (pc := 49) 1 0 0 rfl rfl rfl (by decide) (by omega) dX9_tag_49 ?_
          refine aw_icmp_ge X (pc := 50) (tgt := 77) (by decide) dX9_tag_50 (fun c18 => absurd c18 (nn_nle (a := n) (b := k) ha0 rfl (by omega) (by omega))) (fun c18 => ?_)
          refine aw_aload_n X (pc := 53) 2 rfl rfl dX9_tag_53 ?_
          refine aw_get X (pc := 54) iX9 0 1 rfl rfl (by decide) fl_X9_13 rfl dX9_tag_54 ?_
          refine aw_bipush X (pc := 57) (v := 84) dX9_tag_57 (by decide) ?_
          refine aw_iload X (pc := 59) 0 rfl dX9_tag_59 ?_
          refine aw_iadd X (pc := 61) (z := nI (84 + k)) (nn_add (a := 84) (b := k) rfl rfl (by first | rfl | omega))  dX9_tag_61 ?_
          refine aw_lald X (pc := 62) 2 1 (84 + k) rfl rfl rfl (by decide) (by omega) dX9_tag_62 ?_
          refine aw_lload X (pc := 63) 1 rfl dX9_tag_63 ?_
          refine aw_lcmp X (pc := 65) dX9_tag_65 ?_
          refine aw_if_ne X (pc := 66) (tgt := 71) (by decide) dX9_tag_66 (fun c19 => ?_) (fun c19 => ?_)
          · refine aw_iinc X (pc := 71) (kx := 0) (v := nI (k + 1)) (lv' := [(7, .int (nI (k + 1))), (5, .long ((name <<< (Int32.toInt64 8 &&& 63)) ||| ((lpF (b_X9_sumOf_4 (name <<< (Int32.toInt64 8 &&& 63))) 56 0 0).toInt64))), (0, .ref (q 0)), (1, .int kind), (2, .long name), (4, .int seed)]) rfl (nn_add (a := k) (b := 1) rfl rfl rfl) (by decide) rfl dX9_tag_71 ?_
            refine aw_goto X (pc := 74) (tgt := 42) (by decide) dX9_tag_74 ?_
            exact aw_sub (lv' := [(7, .int (nI (k + 1))), (5, .long ((name <<< (Int32.toInt64 8 &&& 63)) ||| ((lpF (b_X9_sumOf_4 (name <<< (Int32.toInt64 8 &&& 63))) 56 0 0).toInt64))), (0, .ref (q 0)), (1, .int kind), (2, .long name), (4, .int seed)]) [0, 1, 2, 3, 4, 5] rfl (ih3 (k + 1) (by omega) (lt_s hn3 c19))
          · have g20 : anyB (fun k => decide (lg_cmp (w (84 + k)) ((name <<< (Int32.toInt64 8 &&& 63)) ||| ((lpF (b_X9_sumOf_4 (name <<< (Int32.toInt64 8 &&& 63))) 56 0 0).toInt64)) = 0)) n = true := anyB_yes (k := k) (by omega) c19
            refine aw_iconst X (pc := 69) (v := (-1)) dX9_tag_69 (by decide) ?_
            exact aw_iret X (v := (-1)) hQ (by simp only [r_X9_tag, if_neg c1, if_neg c2, if_pos g20]; try rfl) (by simp only [u_X9_tag_a, u_X9_tag_w, if_neg c1, if_neg c2, if_pos g20]) dX9_tag_70
      exact aw_sub (lv' := [(7, .int 0), (5, .long ((name <<< (Int32.toInt64 8 &&& 63)) ||| ((lpF (b_X9_sumOf_4 (name <<< (Int32.toInt64 8 &&& 63))) 56 0 0).toInt64))), (0, .ref (q 0)), (1, .int kind), (2, .long name), (4, .int seed)]) [0, 1, 2, 3, 4, 5] rfl (L3 n 0 (by omega) (fun j hj => absurd hj (Nat.not_lt_zero j)))
    · refine aw_iconst X (pc := 20) (v := (-1)) dX9_tag_20 (by decide) ?_
      exact aw_iret X (v := (-1)) hQ (by simp only [r_X9_tag, if_neg c1, if_pos c2]; try rfl) (by simp only [u_X9_tag_a, u_X9_tag_w, if_neg c1, if_pos c2]) dX9_tag_21

def r_X9_name (a : Nat → Int32) (w : Nat → Int64) (tag : Int32) : Int64 := if r_X9_isIn tag (a 0) = 0 then 0 else (w (84 + tag.toNatClampNeg))
abbrev rm_X9_name : Room := { frames := 2, cells := 0, slots := 0, locals := 42 }
set_option maxHeartbeats 4000000 in
set_option maxRecDepth 100000 in
theorem c_X9_name (l : Launch) (D : va_G) (q : Nat → Nat) (kc : Nat → ClassId) (a : Nat → Int32) (w : Nat → Int64) (hs : Nat → Int32) (inn : Nat → Int32) (sp : Nat → Int32) (lone : Int32) (lt : Nat → Int64) (lz : Nat → Int32) (dr : Nat → Int32) (n : Nat) (tag : Int32) (ha0 : a 0 = nI n) (hn : n ≤ 40) : MW l D yX9_name (Cond.code yX9_name cX9_name 2 (some .long) :: TT) rm_X9_name [.ref (q 0), .int tag] [(kc 1, .int), (kc 2, .long), (kc 3, .boolean), (kc 4, .boolean), (kc 5, .boolean), (kc 6, .long), (kc 7, .int), (kc 8, .int)] (mW q kc a w hs inn sp lone lt lz dr) (some (.long (r_X9_name a w tag))) (mW q kc a w hs inn sp lone lt lz dr) := by
  refine MW.of (cc := cX9_name) (nL := 2) (ret := (some .long)) (lv := [(0, .ref (q 0)), (1, .int tag)]) (by decide) rfl rfl (Nat.le_of_ble_eq_true rfl) ?_
  intro p e s m args below meth c A Q hQ X
  refine aw_aload_n X (pc := 0) 0 rfl rfl dX9_name_0 ?_
  refine aw_iload_n X (pc := 1) 1 rfl rfl dX9_name_1 ?_
  refine aw_callV X (pc := 2) (q1 := 0) (rest := []) (st' := [.int (r_X9_isIn tag (a 0))]) (ws' := (mW q kc a w hs inn sp lone lt lz dr)) (c_X9_isTag l D q kc a w hs inn sp lone lt lz dr tag) rfl rfl [0, 1, 2, 3, 4, 5, 6, 7, 8] [0, 1, 2, 3, 4, 5, 6, 7] rfl rfl rfl rfl ⟨_, _, rfl⟩ rfl cf_X9_56 cd_X9_isTag dd_X9_isTag (by decide) (by decide) (by decide) rfl (Nat.le_of_ble_eq_true rfl) dX9_name_2 rfl ?_
  refine aw_if_eq X (pc := 5) (tgt := 20) (by decide) dX9_name_5 (fun c1 => ?_) (fun c1 => ?_)
  · refine aw_lconst X (pc := 20) (v := 0) dX9_name_20 (by decide) ?_
    exact aw_lret X (v := 0) hQ (by simp only [r_X9_name, if_pos c1]; try rfl) rfl dX9_name_21
  · obtain ⟨ht2, hu3⟩ := isIn_nat (n := n) ha0 (by omega) c1
    refine aw_aload_n X (pc := 8) 0 rfl rfl dX9_name_8 ?_
    refine aw_get X (pc := 9) iX9 0 1 rfl rfl (by decide) fl_X9_13 rfl dX9_name_9 ?_
    refine aw_bipush X (pc := 12) (v := 84) dX9_name_12 (by decide) ?_
    refine aw_iload_n X (pc := 14) 1 rfl rfl dX9_name_14 ?_
    refine aw_iadd X (pc := 15) (z := nI (84 + tag.toNatClampNeg)) (nn_add (a := 84) (b := tag.toNatClampNeg) rfl ht2 (by first | rfl | omega))  dX9_name_15 ?_
    refine aw_lald X (pc := 16) 2 1 (84 + tag.toNatClampNeg) rfl rfl rfl (by decide) (by omega) dX9_name_16 ?_
    refine aw_goto X (pc := 17) (tgt := 21) (by decide) dX9_name_17 ?_
    exact aw_lret X (v := w (84 + tag.toNatClampNeg)) hQ (by simp only [r_X9_name, if_neg c1]; try rfl) rfl dX9_name_21

def r_X9_isName (name : Int64) : Int32 := if lg_cmp (name &&& 255) ((lpF (b_X9_sumOf_4 name) 56 0 0).toInt64) = 0 then 1 else 0
theorem z_X9_isName (name : Int64) : r_X9_isName name = 0 ∨ r_X9_isName name = 1 := by unfold r_X9_isName; (repeat (split <;> try first | exact Or.inl rfl | exact Or.inr rfl)) <;> first | exact Or.inl rfl | exact Or.inr rfl
abbrev rm_X9_isName : Room := { frames := 2, cells := 0, slots := 0, locals := 46 }
set_option maxHeartbeats 4000000 in
set_option maxRecDepth 100000 in
theorem c_X9_isName (l : Launch) (D : va_G) (q : Nat → Nat) (kc : Nat → ClassId) (a : Nat → Int32) (w : Nat → Int64) (hs : Nat → Int32) (inn : Nat → Int32) (sp : Nat → Int32) (lone : Int32) (lt : Nat → Int64) (lz : Nat → Int32) (dr : Nat → Int32) (name : Int64)  : MW l D yX9_isName (Cond.code yX9_isName cX9_isName 3 (some .boolean) :: TT) rm_X9_isName [.ref (q 0), .long name] [(kc 1, .int), (kc 2, .long), (kc 3, .boolean), (kc 4, .boolean), (kc 5, .boolean), (kc 6, .long), (kc 7, .int), (kc 8, .int)] (mW q kc a w hs inn sp lone lt lz dr) (some (.int (r_X9_isName name))) (mW q kc a w hs inn sp lone lt lz dr) := by
  refine MW.of (cc := cX9_isName) (nL := 3) (ret := (some .boolean)) (lv := [(0, .ref (q 0)), (1, .long name)]) (by decide) rfl rfl (Nat.le_of_ble_eq_true rfl) ?_
  intro p e s m args below meth c A Q hQ X
  refine aw_lload_n X (pc := 0) 1 rfl rfl dX9_isName_0 ?_
  refine aw_ldc2 X (pc := 1) ld_X9_60 dX9_isName_1 ?_
  refine aw_land X (pc := 4) (z := name &&& 255) rfl dX9_isName_4 ?_
  refine aw_lload_n X (pc := 5) 1 rfl rfl dX9_isName_5 ?_
  refine aw_callS X (pc := 6) (rest := [.long (name &&& 255)]) (st' := [.int (lpF (b_X9_sumOf_4 name) 56 0 0), .long (name &&& 255)]) (ws' := (mW q kc a w hs inn sp lone lt lz dr)) (c_X9_sumOf l D name) rfl [] [] rfl rfl rfl rfl cf_X9_48 cd_X9_sumOf dd_X9_sumOf (by decide) (by decide) (by decide) rfl (Nat.le_of_ble_eq_true rfl) dX9_isName_6 rfl ?_
  refine aw_i2l X (pc := 9) (z := (lpF (b_X9_sumOf_4 name) 56 0 0).toInt64) rfl dX9_isName_9 ?_
  refine aw_lcmp X (pc := 10) dX9_isName_10 ?_
  refine aw_if_ne X (pc := 11) (tgt := 18) (by decide) dX9_isName_11 (fun c1 => ?_) (fun c1 => ?_)
  · refine aw_iconst X (pc := 18) (v := 0) dX9_isName_18 (by decide) ?_
    exact aw_zret X (v := 0) rfl hQ (by simp only [r_X9_isName, if_neg c1]; try rfl) rfl dX9_isName_19
  · refine aw_iconst X (pc := 14) (v := 1) dX9_isName_14 (by decide) ?_
    refine aw_goto X (pc := 15) (tgt := 19) (by decide) dX9_isName_15 ?_
    exact aw_zret X (v := 1) rfl hQ (by simp only [r_X9_isName, if_pos c1]; try rfl) rfl dX9_isName_19

def b_X9_listening_4 (a : Nat → Int32) (w : Nat → Int64) (k : Nat) (σ : Int32) : Int32 := if r_X9_listens a w k = 0 then (σ + 0) else (σ + 1)
abbrev rm_X9_listening : Room := { frames := 2, cells := 0, slots := 0, locals := 43 }
set_option maxHeartbeats 4000000 in
set_option maxRecDepth 100000 in
theorem c_X9_listening (l : Launch) (D : va_G) (q : Nat → Nat) (kc : Nat → ClassId) (a : Nat → Int32) (w : Nat → Int64) (hs : Nat → Int32) (inn : Nat → Int32) (sp : Nat → Int32) (lone : Int32) (lt : Nat → Int64) (lz : Nat → Int32) (dr : Nat → Int32) (n : Nat) (ha0 : a 0 = nI n) (hn : n ≤ 40) : MW l D yX9_listening (Cond.code yX9_listening cX9_listening 3 (some .int) :: TT) rm_X9_listening [.ref (q 0)] [(kc 1, .int), (kc 2, .long), (kc 3, .boolean), (kc 4, .boolean), (kc 5, .boolean), (kc 6, .long), (kc 7, .int), (kc 8, .int)] (mW q kc a w hs inn sp lone lt lz dr) (some (.int (lpF (b_X9_listening_4 a w) n 0 0))) (mW q kc a w hs inn sp lone lt lz dr) := by
  refine MW.of (cc := cX9_listening) (nL := 3) (ret := (some .int)) (lv := [(0, .ref (q 0))]) (by decide) rfl rfl (Nat.le_of_ble_eq_true rfl) ?_
  intro p e s m args below meth c A Q hQ X
  refine aw_iconst X (pc := 0) (v := 0) dX9_listening_0 (by decide) ?_
  refine aw_istore_n X (pc := 1) (lv' := [(1, .int 0), (0, .ref (q 0))]) rfl (by decide) rfl dX9_listening_1 ?_
  refine aw_iconst X (pc := 2) (v := 0) dX9_listening_2 (by decide) ?_
  refine aw_istore_n X (pc := 3) (lv' := [(2, .int 0), (1, .int 0), (0, .ref (q 0))]) rfl (by decide) rfl dX9_listening_3 ?_
  have L1 : ∀ (n1 k : Nat) (ct : Int32), k + n1 = n → lpF (b_X9_listening_4 a w) n1 k ct = lpF (b_X9_listening_4 a w) n 0 0 → AW p l e rm_X9_listening s m args below meth c D A 3 0 0 Q 4 [(2, .int (nI k)), (1, .int ct), (0, .ref (q 0))] [] (mW q kc a w hs inn sp lone lt lz dr) := by
    intro n1; induction n1 with
    | zero =>
      intro k ct hk1  hf1
      have hf1 : ct = lpF (b_X9_listening_4 a w) n 0 0 := hf1
      refine aw_iload_n X (pc := 4) 0 rfl rfl dX9_listening_4 ?_
      refine aw_aload_n X (pc := 5) 2 rfl rfl dX9_listening_5 ?_
      refine aw_get X (pc := 6) iX9 0 0 rfl rfl (by decide) fl_X9_7 rfl dX9_listening_6 ?_
      refine aw_iconst X (pc := 9) (v := 0) dX9_listening_9 (by decide) ?_
      refine aw_iald X (pc := 10) 1 0 0 rfl rfl rfl (by decide) (by omega) dX9_listening_10 ?_
      refine aw_icmp_ge X (pc := 11) (tgt := 36) (by decide) dX9_listening_11 (fun c6 => ?_) (fun c6 => absurd (nn_le (a := n) (b := k) ha0 rfl (by omega) (by omega)) c6)
      refine aw_iload_n X (pc := 36) 1 rfl rfl dX9_listening_36 ?_
      exact aw_iret X (v := ct) hQ (by simp only [← hf1]; try rfl) rfl dX9_listening_37
    | succ n1 ih1 =>
      intro k ct hk1  hf1
      have hf1 : lpF (b_X9_listening_4 a w) n1 (k + 1) (b_X9_listening_4 a w k ct) = lpF (b_X9_listening_4 a w) n 0 0 := hf1
      refine aw_iload_n X (pc := 4) 0 rfl rfl dX9_listening_4 ?_
      refine aw_aload_n X (pc := 5) 2 rfl rfl dX9_listening_5 ?_
      refine aw_get X (pc := 6) iX9 0 0 rfl rfl (by decide) fl_X9_7 rfl dX9_listening_6 ?_
      refine aw_iconst X (pc := 9) (v := 0) dX9_listening_9 (by decide) ?_
      refine aw_iald X (pc := 10) 1 0 0 rfl rfl rfl (by decide) (by omega) dX9_listening_10 ?_
      refine aw_icmp_ge X (pc := 11) (tgt := 36) (by decide) dX9_listening_11 (fun c2 => absurd c2 (nn_nle (a := n) (b := k) ha0 rfl (by omega) (by omega))) (fun c2 => ?_)
      refine aw_iload_n X (pc := 14) 1 rfl rfl dX9_listening_14 ?_
      refine aw_aload_n X (pc := 15) 2 rfl rfl dX9_listening_15 ?_
      refine aw_iload_n X (pc := 16) 0 rfl rfl dX9_listening_16 ?_
      refine aw_callV X (pc := 17) (q1 := 0) (rest := [.int ct]) (st' := [.int (r_X9_listens a w k), .int ct]) (ws' := (mW q kc a w hs inn sp lone lt lz dr)) (c_X9_listens l D q kc a w hs inn sp lone lt lz dr (nI k) k rfl (by omega)) rfl rfl [0, 1, 2, 3, 4, 5, 6, 7, 8] [0, 1, 2, 3, 4, 5, 6, 7] rfl rfl rfl rfl ⟨_, _, rfl⟩ rfl cf_X9_62 cd_X9_listens dd_X9_listens (by decide) (by decide) (by decide) rfl (Nat.le_of_ble_eq_true rfl) dX9_listening_17 rfl ?_
      refine aw_if_eq X (pc := 20) (tgt := 27) (by decide) dX9_listening_20 (fun c3 => ?_) (fun c3 => ?_)
      · refine aw_iconst X (pc := 27) (v := 0) dX9_listening_27 (by decide) ?_
        refine aw_iadd X (pc := 28) (z := ct + 0) rfl  dX9_listening_28 ?_
        refine aw_istore_n X (pc := 29) (lv' := [(1, .int (ct + 0)), (2, .int (nI k)), (0, .ref (q 0))]) rfl (by decide) rfl dX9_listening_29 ?_
        refine aw_iinc X (pc := 30) (kx := 1) (v := nI (k + 1)) (lv' := [(2, .int (nI (k + 1))), (1, .int (ct + 0)), (0, .ref (q 0))]) rfl (nn_add (a := k) (b := 1) rfl rfl rfl) (by decide) rfl dX9_listening_30 ?_
        refine aw_goto X (pc := 33) (tgt := 4) (by decide) dX9_listening_33 ?_
        have e4 : b_X9_listening_4 a w k ct = ct + 0 := by simp only [b_X9_listening_4, if_pos c3]
        exact aw_sub (lv' := [(2, .int (nI (k + 1))), (1, .int (ct + 0)), (0, .ref (q 0))]) [0, 1, 2] rfl (ih1 (k + 1) (ct + 0) (by omega)  (by rw [← e4]; exact hf1))
      · refine aw_iconst X (pc := 23) (v := 1) dX9_listening_23 (by decide) ?_
        refine aw_goto X (pc := 24) (tgt := 28) (by decide) dX9_listening_24 ?_
        refine aw_iadd X (pc := 28) (z := ct + 1) rfl  dX9_listening_28 ?_
        refine aw_istore_n X (pc := 29) (lv' := [(1, .int (ct + 1)), (2, .int (nI k)), (0, .ref (q 0))]) rfl (by decide) rfl dX9_listening_29 ?_
        refine aw_iinc X (pc := 30) (kx := 1) (v := nI (k + 1)) (lv' := [(2, .int (nI (k + 1))), (1, .int (ct + 1)), (0, .ref (q 0))]) rfl (nn_add (a := k) (b := 1) rfl rfl rfl) (by decide) rfl dX9_listening_30 ?_
        refine aw_goto X (pc := 33) (tgt := 4) (by decide) dX9_listening_33 ?_
        have e5 : b_X9_listening_4 a w k ct = ct + 1 := by simp only [b_X9_listening_4, if_neg c3]
        exact aw_sub (lv' := [(2, .int (nI (k + 1))), (1, .int (ct + 1)), (0, .ref (q 0))]) [0, 1, 2] rfl (ih1 (k + 1) (ct + 1) (by omega)  (by rw [← e5]; exact hf1))
  exact aw_sub (lv' := [(2, .int 0), (1, .int 0), (0, .ref (q 0))]) [0, 1, 2] rfl (L1 n 0 0 (by omega)  rfl)

def b_X9_tell_94 (a : Nat → Int32) (tag : Int32) (k : Nat) (σ : Int32) : Int32 := if a (100 + k) = tag then (σ + 1) else (σ + 0)
def r_X9_tell (a : Nat → Int32) (w : Nat → Int64) (f : Nat) (tag : Int32) (what : Int32) : Int32 := if r_X9_isIn tag (a 0) = 0 then (-1) else (if what = 0 then (a (300 + 6 * tag.toNatClampNeg + 0)) else (if what = 1 then (a (300 + 6 * tag.toNatClampNeg + 1)) else (if what = 2 then (a (300 + 6 * tag.toNatClampNeg + 2)) else (if what = 3 then (if r_X9_listens a w tag.toNatClampNeg = 0 then 0 else 1) else (if what = 4 then (a (300 + 6 * tag.toNatClampNeg + 3)) else (if what = 5 then (a (300 + 6 * tag.toNatClampNeg + 4)) else (if what = 6 then (lpF (b_X9_tell_94 a tag) f 0 0) else (-1))))))))
abbrev rm_X9_tell : Room := { frames := 2, cells := 0, slots := 0, locals := 43 }
set_option maxHeartbeats 4000000 in
set_option maxRecDepth 100000 in
theorem c_X9_tell (l : Launch) (D : va_G) (q : Nat → Nat) (kc : Nat → ClassId) (a : Nat → Int32) (w : Nat → Int64) (hs : Nat → Int32) (inn : Nat → Int32) (sp : Nat → Int32) (lone : Int32) (lt : Nat → Int64) (lz : Nat → Int32) (dr : Nat → Int32) (n : Nat) (f : Nat) (tag : Int32) (what : Int32) (ha0 : a 0 = nI n) (hn : n ≤ 40) (ha15 : a 15 = nI f) (hf : f ≤ 200) : MW l D yX9_tell (Cond.code yX9_tell cX9_tell 5 (some .int) :: TT) rm_X9_tell [.ref (q 0), .int tag, .int what] [(kc 1, .int), (kc 2, .long), (kc 3, .boolean), (kc 4, .boolean), (kc 5, .boolean), (kc 6, .long), (kc 7, .int), (kc 8, .int)] (mW q kc a w hs inn sp lone lt lz dr) (some (.int (r_X9_tell a w f tag what))) (mW q kc a w hs inn sp lone lt lz dr) := by
  refine MW.of (cc := cX9_tell) (nL := 5) (ret := (some .int)) (lv := [(0, .ref (q 0)), (1, .int tag), (2, .int what)]) (by decide) rfl rfl (Nat.le_of_ble_eq_true rfl) ?_
  intro p e s m args below meth c A Q hQ X
  refine aw_aload_n X (pc := 0) 0 rfl rfl dX9_tell_0 ?_
  refine aw_iload_n X (pc := 1) 1 rfl rfl dX9_tell_1 ?_
  refine aw_callV X (pc := 2) (q1 := 0) (rest := []) (st' := [.int (r_X9_isIn tag (a 0))]) (ws' := (mW q kc a w hs inn sp lone lt lz dr)) (c_X9_isTag l D q kc a w hs inn sp lone lt lz dr tag) rfl rfl [0, 1, 2, 3, 4, 5, 6, 7, 8] [0, 1, 2, 3, 4, 5, 6, 7] rfl rfl rfl rfl ⟨_, _, rfl⟩ rfl cf_X9_56 cd_X9_isTag dd_X9_isTag (by decide) (by decide) (by decide) rfl (Nat.le_of_ble_eq_true rfl) dX9_tell_2 rfl ?_
  refine aw_if_ne X (pc := 5) (tgt := 10) (by decide) dX9_tell_5 (fun c1 => ?_) (fun c1 => ?_)
  · obtain ⟨ht2, hu3⟩ := isIn_nat (n := n) ha0 (by omega) c1
    refine aw_iconst X (pc := 10) (v := 0) dX9_tell_10 (by decide) ?_
    refine aw_istore_n X (pc := 11) (lv' := [(3, .int 0), (0, .ref (q 0)), (1, .int tag), (2, .int what)]) rfl (by decide) rfl dX9_tell_11 ?_
    refine aw_iload_n X (pc := 12) 3 rfl rfl dX9_tell_12 ?_
    by_cases c4 : what = 0
    · refine aw_tableIn X (pc := 13) (tgt := 56) (by rw [c4]; decide) (by rw [c4]; decide) (by rw [c4]; rfl) (by decide) dX9_tell_13 ?_
      refine aw_aload_n X (pc := 56) 1 rfl rfl dX9_tell_56 ?_
      refine aw_iload_n X (pc := 57) 2 rfl rfl dX9_tell_57 ?_
      refine aw_iload_n X (pc := 58) 3 rfl rfl dX9_tell_58 ?_
      refine aw_callV X (pc := 59) (q1 := 0) (rest := []) (st' := [.int (a (300 + 6 * tag.toNatClampNeg + 0))]) (ws' := (mW q kc a w hs inn sp lone lt lz dr)) (c_X9_of l D q kc a w hs inn sp lone lt lz dr tag what tag.toNatClampNeg 0 ht2 c4 (by omega)) rfl rfl [0, 1, 2, 3, 4, 5, 6, 7, 8] [0, 1, 2, 3, 4, 5, 6, 7] rfl rfl rfl rfl ⟨_, _, rfl⟩ rfl cf_X9_44 cd_X9_of dd_X9_of (by decide) (by decide) (by decide) rfl (Nat.le_of_ble_eq_true rfl) dX9_tell_59 rfl ?_
      exact aw_iret X (v := a (300 + 6 * tag.toNatClampNeg + 0)) hQ (by simp only [r_X9_tell, if_neg c1, if_pos c4]; try rfl) rfl dX9_tell_62
    · by_cases c5 : what = 1
      · refine aw_tableIn X (pc := 13) (tgt := 56) (by rw [c5]; decide) (by rw [c5]; decide) (by rw [c5]; rfl) (by decide) dX9_tell_13 ?_
        refine aw_aload_n X (pc := 56) 1 rfl rfl dX9_tell_56 ?_
        refine aw_iload_n X (pc := 57) 2 rfl rfl dX9_tell_57 ?_
        refine aw_iload_n X (pc := 58) 3 rfl rfl dX9_tell_58 ?_
        refine aw_callV X (pc := 59) (q1 := 0) (rest := []) (st' := [.int (a (300 + 6 * tag.toNatClampNeg + 1))]) (ws' := (mW q kc a w hs inn sp lone lt lz dr)) (c_X9_of l D q kc a w hs inn sp lone lt lz dr tag what tag.toNatClampNeg 1 ht2 c5 (by omega)) rfl rfl [0, 1, 2, 3, 4, 5, 6, 7, 8] [0, 1, 2, 3, 4, 5, 6, 7] rfl rfl rfl rfl ⟨_, _, rfl⟩ rfl cf_X9_44 cd_X9_of dd_X9_of (by decide) (by decide) (by decide) rfl (Nat.le_of_ble_eq_true rfl) dX9_tell_59 rfl ?_
        exact aw_iret X (v := a (300 + 6 * tag.toNatClampNeg + 1)) hQ (by simp only [r_X9_tell, if_neg c1, if_neg c4, if_pos c5]; try rfl) rfl dX9_tell_62
      · by_cases c6 : what = 2
        · refine aw_tableIn X (pc := 13) (tgt := 56) (by rw [c6]; decide) (by rw [c6]; decide) (by rw [c6]; rfl) (by decide) dX9_tell_13 ?_
          refine aw_aload_n X (pc := 56) 1 rfl rfl dX9_tell_56 ?_
          refine aw_iload_n X (pc := 57) 2 rfl rfl dX9_tell_57 ?_
          refine aw_iload_n X (pc := 58) 3 rfl rfl dX9_tell_58 ?_
          refine aw_callV X (pc := 59) (q1 := 0) (rest := []) (st' := [.int (a (300 + 6 * tag.toNatClampNeg + 2))]) (ws' := (mW q kc a w hs inn sp lone lt lz dr)) (c_X9_of l D q kc a w hs inn sp lone lt lz dr tag what tag.toNatClampNeg 2 ht2 c6 (by omega)) rfl rfl [0, 1, 2, 3, 4, 5, 6, 7, 8] [0, 1, 2, 3, 4, 5, 6, 7] rfl rfl rfl rfl ⟨_, _, rfl⟩ rfl cf_X9_44 cd_X9_of dd_X9_of (by decide) (by decide) (by decide) rfl (Nat.le_of_ble_eq_true rfl) dX9_tell_59 rfl ?_
          exact aw_iret X (v := a (300 + 6 * tag.toNatClampNeg + 2)) hQ (by simp only [r_X9_tell, if_neg c1, if_neg c4, if_neg c5, if_pos c6]; try rfl) rfl dX9_tell_62
        · by_cases c7 : what = 3
          · refine aw_tableIn X (pc := 13) (tgt := 63) (by rw [c7]; decide) (by rw [c7]; decide) (by rw [c7]; rfl) (by decide) dX9_tell_13 ?_
            refine aw_aload_n X (pc := 63) 1 rfl rfl dX9_tell_63 ?_
            refine aw_iload_n X (pc := 64) 2 rfl rfl dX9_tell_64 ?_
            refine aw_callV X (pc := 65) (q1 := 0) (rest := []) (st' := [.int (r_X9_listens a w tag.toNatClampNeg)]) (ws' := (mW q kc a w hs inn sp lone lt lz dr)) (c_X9_listens l D q kc a w hs inn sp lone lt lz dr tag tag.toNatClampNeg ht2 (by omega)) rfl rfl [0, 1, 2, 3, 4, 5, 6, 7, 8] [0, 1, 2, 3, 4, 5, 6, 7] rfl rfl rfl rfl ⟨_, _, rfl⟩ rfl cf_X9_62 cd_X9_listens dd_X9_listens (by decide) (by decide) (by decide) rfl (Nat.le_of_ble_eq_true rfl) dX9_tell_65 rfl ?_
            refine aw_if_eq X (pc := 68) (tgt := 75) (by decide) dX9_tell_68 (fun c8 => ?_) (fun c8 => ?_)
            · refine aw_iconst X (pc := 75) (v := 0) dX9_tell_75 (by decide) ?_
              exact aw_iret X (v := 0) hQ (by simp only [r_X9_tell, if_neg c1, if_neg c4, if_neg c5, if_neg c6, if_pos c7, if_pos c8]; try rfl) rfl dX9_tell_76
            · refine aw_iconst X (pc := 71) (v := 1) dX9_tell_71 (by decide) ?_
              refine aw_goto X (pc := 72) (tgt := 76) (by decide) dX9_tell_72 ?_
              exact aw_iret X (v := 1) hQ (by simp only [r_X9_tell, if_neg c1, if_neg c4, if_neg c5, if_neg c6, if_pos c7, if_neg c8]; try rfl) rfl dX9_tell_76
          · by_cases c9 : what = 4
            · refine aw_tableIn X (pc := 13) (tgt := 77) (by rw [c9]; decide) (by rw [c9]; decide) (by rw [c9]; rfl) (by decide) dX9_tell_13 ?_
              refine aw_aload_n X (pc := 77) 1 rfl rfl dX9_tell_77 ?_
              refine aw_iload_n X (pc := 78) 2 rfl rfl dX9_tell_78 ?_
              refine aw_iconst X (pc := 79) (v := 3) dX9_tell_79 (by decide) ?_
              refine aw_callV X (pc := 80) (q1 := 0) (rest := []) (st' := [.int (a (300 + 6 * tag.toNatClampNeg + 3))]) (ws' := (mW q kc a w hs inn sp lone lt lz dr)) (c_X9_of l D q kc a w hs inn sp lone lt lz dr tag 3 tag.toNatClampNeg 3 ht2 rfl (by omega)) rfl rfl [0, 1, 2, 3, 4, 5, 6, 7, 8] [0, 1, 2, 3, 4, 5, 6, 7] rfl rfl rfl rfl ⟨_, _, rfl⟩ rfl cf_X9_44 cd_X9_of dd_X9_of (by decide) (by decide) (by decide) rfl (Nat.le_of_ble_eq_true rfl) dX9_tell_80 rfl ?_
              exact aw_iret X (v := a (300 + 6 * tag.toNatClampNeg + 3)) hQ (by simp only [r_X9_tell, if_neg c1, if_neg c4, if_neg c5, if_neg c6, if_neg c7, if_pos c9]; try rfl) rfl dX9_tell_83
            · by_cases c10 : what = 5
              · refine aw_tableIn X (pc := 13) (tgt := 84) (by rw [c10]; decide) (by rw [c10]; decide) (by rw [c10]; rfl) (by decide) dX9_tell_13 ?_
                refine aw_aload_n X (pc := 84) 1 rfl rfl dX9_tell_84 ?_
                refine aw_iload_n X (pc := 85) 2 rfl rfl dX9_tell_85 ?_
                refine aw_iconst X (pc := 86) (v := 4) dX9_tell_86 (by decide) ?_
                refine aw_callV X (pc := 87) (q1 := 0) (rest := []) (st' := [.int (a (300 + 6 * tag.toNatClampNeg + 4))]) (ws' := (mW q kc a w hs inn sp lone lt lz dr)) (c_X9_of l D q kc a w hs inn sp lone lt lz dr tag 4 tag.toNatClampNeg 4 ht2 rfl (by omega)) rfl rfl [0, 1, 2, 3, 4, 5, 6, 7, 8] [0, 1, 2, 3, 4, 5, 6, 7] rfl rfl rfl rfl ⟨_, _, rfl⟩ rfl cf_X9_44 cd_X9_of dd_X9_of (by decide) (by decide) (by decide) rfl (Nat.le_of_ble_eq_true rfl) dX9_tell_87 rfl ?_
                exact aw_iret X (v := a (300 + 6 * tag.toNatClampNeg + 4)) hQ (by simp only [r_X9_tell, if_neg c1, if_neg c4, if_neg c5, if_neg c6, if_neg c7, if_neg c9, if_pos c10]; try rfl) rfl dX9_tell_90
              · by_cases c11 : what = 6
                · refine aw_tableIn X (pc := 13) (tgt := 91) (by rw [c11]; decide) (by rw [c11]; decide) (by rw [c11]; rfl) (by decide) dX9_tell_13 ?_
                  refine aw_iconst X (pc := 91) (v := 0) dX9_tell_91 (by decide) ?_
                  refine aw_istore X (pc := 92) (lv' := [(4, .int 0), (3, .int 0), (0, .ref (q 0)), (1, .int tag), (2, .int what)]) (by decide) rfl dX9_tell_92 ?_
                  have L12 : ∀ (n12 k : Nat) (ct : Int32), k + n12 = f → lpF (b_X9_tell_94 a tag) n12 k ct = lpF (b_X9_tell_94 a tag) f 0 0 → AW p l e rm_X9_tell s m args below meth c D A 5 0 0 Q 94 [(4, .int (nI k)), (3, .int ct), (0, .ref (q 0)), (1, .int tag), (2, .int what)] [] (mW q kc a w hs inn sp lone lt lz dr) := by
                    intro n12; induction n12 with
                    | zero =>
                      intro k ct hk12  hf12
                      have hf12 : ct = lpF (b_X9_tell_94 a tag) f 0 0 := hf12
                      refine aw_iload X (pc := 94) 0 rfl dX9_tell_94 ?_
                      refine aw_aload_n X (pc := 96) 2 rfl rfl dX9_tell_96 ?_
                      refine aw_get X (pc := 97) iX9 0 0 rfl rfl (by decide) fl_X9_7 rfl dX9_tell_97 ?_
                      refine aw_bipush X (pc := 100) (v := 15) dX9_tell_100 (by decide) ?_
                      refine aw_iald X (pc := 102) 1 0 15 rfl rfl rfl (by decide) (by omega) dX9_tell_102 ?_
                      refine aw_icmp_ge X (pc := 103) (tgt := 134) (by decide) dX9_tell_103 (fun c17 => ?_) (fun c17 => absurd (nn_le (a := f) (b := k) ha15 rfl (by omega) (by omega)) c17)
                      refine aw_iload_n X (pc := 134) 1 rfl rfl dX9_tell_134 ?_
                      exact aw_iret X (v := ct) hQ (by simp only [r_X9_tell, if_neg c1, if_neg c4, if_neg c5, if_neg c6, if_neg c7, if_neg c9, if_neg c10, if_pos c11, ← hf12]; try rfl) rfl dX9_tell_135
                    | succ n12 ih12 =>
                      intro k ct hk12  hf12
                      have hf12 : lpF (b_X9_tell_94 a tag) n12 (k + 1) (b_X9_tell_94 a tag k ct) = lpF (b_X9_tell_94 a tag) f 0 0 := hf12
                      refine aw_iload X (pc := 94) 0 rfl dX9_tell_94 ?_
                      refine aw_aload_n X (pc := 96) 2 rfl rfl dX9_tell_96 ?_
                      refine aw_get X (pc := 97) iX9 0 0 rfl rfl (by decide) fl_X9_7 rfl dX9_tell_97 ?_
                      refine aw_bipush X (pc := 100) (v := 15) dX9_tell_100 (by decide) ?_
                      refine aw_iald X (pc := 102) 1 0 15 rfl rfl rfl (by decide) (by omega) dX9_tell_102 ?_
                      refine aw_icmp_ge X (pc := 103) (tgt := 134) (by decide) dX9_tell_103 (fun c13 => absurd c13 (nn_nle (a := f) (b := k) ha15 rfl (by omega) (by omega))) (fun c13 => ?_)
                      refine aw_iload_n X (pc := 106) 1 rfl rfl dX9_tell_106 ?_
                      refine aw_aload_n X (pc := 107) 2 rfl rfl dX9_tell_107 ?_
                      refine aw_get X (pc := 108) iX9 0 0 rfl rfl (by decide) fl_X9_7 rfl dX9_tell_108 ?_
                      refine aw_bipush X (pc := 111) (v := 100) dX9_tell_111 (by decide) ?_
                      refine aw_iload X (pc := 113) 0 rfl dX9_tell_113 ?_
                      refine aw_iadd X (pc := 115) (z := nI (100 + k)) (nn_add (a := 100) (b := k) rfl rfl (by first | rfl | omega))  dX9_tell_115 ?_
                      refine aw_iald X (pc := 116) 1 0 (100 + k) rfl rfl rfl (by decide) (by omega) dX9_tell_116 ?_
                      refine aw_iload_n X (pc := 117) 3 rfl rfl dX9_tell_117 ?_
                      refine aw_icmp_ne X (pc := 118) (tgt := 125) (by decide) dX9_tell_118 (fun c14 => ?_) (fun c14 => ?_)
                      · refine aw_iconst X (pc := 125) (v := 0) dX9_tell_125 (by decide) ?_
                        refine aw_iadd X (pc := 126) (z := ct + 0) rfl  dX9_tell_126 ?_
                        refine aw_istore_n X (pc := 127) (lv' := [(3, .int (ct + 0)), (4, .int (nI k)), (0, .ref (q 0)), (1, .int tag), (2, .int what)]) rfl (by decide) rfl dX9_tell_127 ?_
                        refine aw_iinc X (pc := 128) (kx := 1) (v := nI (k + 1)) (lv' := [(4, .int (nI (k + 1))), (3, .int (ct + 0)), (0, .ref (q 0)), (1, .int tag), (2, .int what)]) rfl (nn_add (a := k) (b := 1) rfl rfl rfl) (by decide) rfl dX9_tell_128 ?_
                        refine aw_goto X (pc := 131) (tgt := 94) (by decide) dX9_tell_131 ?_
                        have e15 : b_X9_tell_94 a tag k ct = ct + 0 := by simp only [b_X9_tell_94, if_neg c14]
                        exact aw_sub (lv' := [(4, .int (nI (k + 1))), (3, .int (ct + 0)), (0, .ref (q 0)), (1, .int tag), (2, .int what)]) [0, 1, 2, 3, 4] rfl (ih12 (k + 1) (ct + 0) (by omega)  (by rw [← e15]; exact hf12))
                      · refine aw_iconst X (pc := 121) (v := 1) dX9_tell_121 (by decide) ?_
                        refine aw_goto X (pc := 122) (tgt := 126) (by decide) dX9_tell_122 ?_
                        refine aw_iadd X (pc := 126) (z := ct + 1) rfl  dX9_tell_126 ?_
                        refine aw_istore_n X (pc := 127) (lv' := [(3, .int (ct + 1)), (4, .int (nI k)), (0, .ref (q 0)), (1, .int tag), (2, .int what)]) rfl (by decide) rfl dX9_tell_127 ?_
                        refine aw_iinc X (pc := 128) (kx := 1) (v := nI (k + 1)) (lv' := [(4, .int (nI (k + 1))), (3, .int (ct + 1)), (0, .ref (q 0)), (1, .int tag), (2, .int what)]) rfl (nn_add (a := k) (b := 1) rfl rfl rfl) (by decide) rfl dX9_tell_128 ?_
                        refine aw_goto X (pc := 131) (tgt := 94) (by decide) dX9_tell_131 ?_
                        have e16 : b_X9_tell_94 a tag k ct = ct + 1 := by simp only [b_X9_tell_94, if_pos c14]
                        exact aw_sub (lv' := [(4, .int (nI (k + 1))), (3, .int (ct + 1)), (0, .ref (q 0)), (1, .int tag), (2, .int what)]) [0, 1, 2, 3, 4] rfl (ih12 (k + 1) (ct + 1) (by omega)  (by rw [← e16]; exact hf12))
                  exact aw_sub (lv' := [(4, .int 0), (3, .int 0), (0, .ref (q 0)), (1, .int tag), (2, .int what)]) [0, 1, 2, 3, 4] rfl (L12 f 0 0 (by omega)  rfl)
                · refine aw_tableOut X (pc := 13) (tgt := 136) (tb_out6 c4 c5 c6 c7 c9 c10 c11) (by decide) dX9_tell_13 ?_
                  refine aw_iconst X (pc := 136) (v := (-1)) dX9_tell_136 (by decide) ?_
                  exact aw_iret X (v := (-1)) hQ (by simp only [r_X9_tell, if_neg c1, if_neg c4, if_neg c5, if_neg c6, if_neg c7, if_neg c9, if_neg c10, if_neg c11]; try rfl) rfl dX9_tell_137
  · refine aw_iconst X (pc := 8) (v := (-1)) dX9_tell_8 (by decide) ?_
    exact aw_iret X (v := (-1)) hQ (by simp only [r_X9_tell, if_pos c1]; try rfl) rfl dX9_tell_9

def r_X9_act (a : Nat → Int32) (tag : Int32) (what : Int32) : Int32 := if r_X9_isIn tag (a 0) = 0 then 0 else (if r_X9_isIn what 4 = 0 then 0 else (if what = 3 then (if a (300 + 6 * tag.toNatClampNeg + 0) = 4 then (if 2 ≤ what then (if what = 1 then (if a (300 + 6 * tag.toNatClampNeg + 2) = 1 then 0 else 1) else (if what = 2 then (if a (300 + 6 * tag.toNatClampNeg + 2) = 1 then 0 else 1) else (if a (300 + 6 * tag.toNatClampNeg + 2) = 0 then 0 else 1))) else (if what = 1 then (if a (300 + 6 * tag.toNatClampNeg + 1) = 1 then 0 else 1) else (if what = 2 then (if a (300 + 6 * tag.toNatClampNeg + 1) = 1 then 0 else 1) else (if a (300 + 6 * tag.toNatClampNeg + 1) = 0 then 0 else 1)))) else 0) else (if 2 ≤ what then (if what = 1 then (if a (300 + 6 * tag.toNatClampNeg + 2) = 1 then 0 else 1) else (if what = 2 then (if a (300 + 6 * tag.toNatClampNeg + 2) = 1 then 0 else 1) else (if a (300 + 6 * tag.toNatClampNeg + 2) = 0 then 0 else 1))) else (if what = 1 then (if a (300 + 6 * tag.toNatClampNeg + 1) = 1 then 0 else 1) else (if what = 2 then (if a (300 + 6 * tag.toNatClampNeg + 1) = 1 then 0 else 1) else (if a (300 + 6 * tag.toNatClampNeg + 1) = 0 then 0 else 1))))))
def u_X9_act_a (a : Nat → Int32) (tag : Int32) (what : Int32) : Nat → Int32 := if r_X9_isIn tag (a 0) = 0 then a else (if r_X9_isIn what 4 = 0 then a else (if what = 3 then (if a (300 + 6 * tag.toNatClampNeg + 0) = 4 then (if 2 ≤ what then (if what = 1 then (if a (300 + 6 * tag.toNatClampNeg + 2) = 1 then a else (upd a (300 + 6 * tag.toNatClampNeg + 2) 1)) else (if what = 2 then (if a (300 + 6 * tag.toNatClampNeg + 2) = 1 then a else (upd a (300 + 6 * tag.toNatClampNeg + 2) 1)) else (if a (300 + 6 * tag.toNatClampNeg + 2) = 0 then a else (upd a (300 + 6 * tag.toNatClampNeg + 2) 0)))) else (if what = 1 then (if a (300 + 6 * tag.toNatClampNeg + 1) = 1 then a else (upd a (300 + 6 * tag.toNatClampNeg + 1) 1)) else (if what = 2 then (if a (300 + 6 * tag.toNatClampNeg + 1) = 1 then a else (upd a (300 + 6 * tag.toNatClampNeg + 1) 1)) else (if a (300 + 6 * tag.toNatClampNeg + 1) = 0 then a else (upd a (300 + 6 * tag.toNatClampNeg + 1) 0))))) else a) else (if 2 ≤ what then (if what = 1 then (if a (300 + 6 * tag.toNatClampNeg + 2) = 1 then a else (upd a (300 + 6 * tag.toNatClampNeg + 2) 1)) else (if what = 2 then (if a (300 + 6 * tag.toNatClampNeg + 2) = 1 then a else (upd a (300 + 6 * tag.toNatClampNeg + 2) 1)) else (if a (300 + 6 * tag.toNatClampNeg + 2) = 0 then a else (upd a (300 + 6 * tag.toNatClampNeg + 2) 0)))) else (if what = 1 then (if a (300 + 6 * tag.toNatClampNeg + 1) = 1 then a else (upd a (300 + 6 * tag.toNatClampNeg + 1) 1)) else (if what = 2 then (if a (300 + 6 * tag.toNatClampNeg + 1) = 1 then a else (upd a (300 + 6 * tag.toNatClampNeg + 1) 1)) else (if a (300 + 6 * tag.toNatClampNeg + 1) = 0 then a else (upd a (300 + 6 * tag.toNatClampNeg + 1) 0)))))))
theorem z_X9_act (a : Nat → Int32) (tag : Int32) (what : Int32) : r_X9_act a tag what = 0 ∨ r_X9_act a tag what = 1 := by unfold r_X9_act; (repeat (split <;> try first | exact Or.inl rfl | exact Or.inr rfl)) <;> first | exact Or.inl rfl | exact Or.inr rfl
abbrev rm_X9_act : Room := { frames := 2, cells := 0, slots := 0, locals := 42 }
set_option maxHeartbeats 4000000 in
set_option maxRecDepth 100000 in
theorem c_X9_act (l : Launch) (D : va_G) (q : Nat → Nat) (kc : Nat → ClassId) (a : Nat → Int32) (w : Nat → Int64) (hs : Nat → Int32) (inn : Nat → Int32) (sp : Nat → Int32) (lone : Int32) (lt : Nat → Int64) (lz : Nat → Int32) (dr : Nat → Int32) (n : Nat) (tag : Int32) (what : Int32) (ha0 : a 0 = nI n) (hn : n ≤ 40) : MW l D yX9_act (Cond.code yX9_act cX9_act 5 (some .boolean) :: TT) rm_X9_act [.ref (q 0), .int tag, .int what] [(kc 1, .int), (kc 2, .long), (kc 3, .boolean), (kc 4, .boolean), (kc 5, .boolean), (kc 6, .long), (kc 7, .int), (kc 8, .int)] (mW q kc a w hs inn sp lone lt lz dr) (some (.int (r_X9_act a tag what))) (mW q kc (u_X9_act_a a tag what) w hs inn sp lone lt lz dr) := by
  refine MW.of (cc := cX9_act) (nL := 5) (ret := (some .boolean)) (lv := [(0, .ref (q 0)), (1, .int tag), (2, .int what)]) (by decide) rfl rfl (Nat.le_of_ble_eq_true rfl) ?_
  intro p e s m args below meth c A Q hQ X
  refine aw_aload_n X (pc := 0) 0 rfl rfl dX9_act_0 ?_
  refine aw_iload_n X (pc := 1) 1 rfl rfl dX9_act_1 ?_
  refine aw_callV X (pc := 2) (q1 := 0) (rest := []) (st' := [.int (r_X9_isIn tag (a 0))]) (ws' := (mW q kc a w hs inn sp lone lt lz dr)) (c_X9_isTag l D q kc a w hs inn sp lone lt lz dr tag) rfl rfl [0, 1, 2, 3, 4, 5, 6, 7, 8] [0, 1, 2, 3, 4, 5, 6, 7] rfl rfl rfl rfl ⟨_, _, rfl⟩ rfl cf_X9_56 cd_X9_isTag dd_X9_isTag (by decide) (by decide) (by decide) rfl (Nat.le_of_ble_eq_true rfl) dX9_act_2 rfl ?_
  refine aw_if_eq X (pc := 5) (tgt := 31) (by decide) dX9_act_5 (fun c1 => ?_) (fun c1 => ?_)
  · refine aw_iconst X (pc := 31) (v := 0) dX9_act_31 (by decide) ?_
    exact aw_zret X (v := 0) rfl hQ (by simp only [r_X9_act, if_pos c1]; try rfl) (by simp only [u_X9_act_a, if_pos c1]) dX9_act_32
  · obtain ⟨ht2, hu3⟩ := isIn_nat (n := n) ha0 (by omega) c1
    refine aw_iload_n X (pc := 8) 2 rfl rfl dX9_act_8 ?_
    refine aw_iconst X (pc := 9) (v := 4) dX9_act_9 (by decide) ?_
    refine aw_callS X (pc := 10) (rest := []) (st' := [.int (r_X9_isIn what 4)]) (ws' := (mW q kc a w hs inn sp lone lt lz dr)) (c_X9_isIn l D what 4) rfl [] [] rfl rfl rfl rfl cf_X9_36 cd_X9_isIn dd_X9_isIn (by decide) (by decide) (by decide) rfl (Nat.le_of_ble_eq_true rfl) dX9_act_10 rfl ?_
    refine aw_if_eq X (pc := 13) (tgt := 31) (by decide) dX9_act_13 (fun c4 => ?_) (fun c4 => ?_)
    · refine aw_iconst X (pc := 31) (v := 0) dX9_act_31 (by decide) ?_
      exact aw_zret X (v := 0) rfl hQ (by simp only [r_X9_act, if_neg c1, if_pos c4]; try rfl) (by simp only [u_X9_act_a, if_neg c1, if_pos c4]) dX9_act_32
    · refine aw_iload_n X (pc := 16) 2 rfl rfl dX9_act_16 ?_
      refine aw_iconst X (pc := 17) (v := 3) dX9_act_17 (by decide) ?_
      refine aw_icmp_ne X (pc := 18) (tgt := 33) (by decide) dX9_act_18 (fun c5 => ?_) (fun c5 => ?_)
      · refine aw_iload_n X (pc := 33) 2 rfl rfl dX9_act_33 ?_
        refine aw_iconst X (pc := 34) (v := 2) dX9_act_34 (by decide) ?_
        refine aw_icmp_ge X (pc := 35) (tgt := 42) (by decide) dX9_act_35 (fun c6 => ?_) (fun c6 => ?_)
        · refine aw_iconst X (pc := 42) (v := 2) dX9_act_42 (by decide) ?_
          refine aw_istore_n X (pc := 43) (lv' := [(3, .int 2), (0, .ref (q 0)), (1, .int tag), (2, .int what)]) rfl (by decide) rfl dX9_act_43 ?_
          refine aw_iload_n X (pc := 44) 3 rfl rfl dX9_act_44 ?_
          refine aw_iconst X (pc := 45) (v := 1) dX9_act_45 (by decide) ?_
          refine aw_icmp_eq X (pc := 46) (tgt := 54) (by decide) dX9_act_46 (fun c7 => ?_) (fun c7 => ?_)
          · refine aw_iconst X (pc := 54) (v := 1) dX9_act_54 (by decide) ?_
            refine aw_goto X (pc := 55) (tgt := 59) (by decide) dX9_act_55 ?_
            refine aw_istore X (pc := 59) (lv' := [(4, .int 1), (3, .int 2), (0, .ref (q 0)), (1, .int tag), (2, .int what)]) (by decide) rfl dX9_act_59 ?_
            refine aw_aload_n X (pc := 61) 2 rfl rfl dX9_act_61 ?_
            refine aw_iload_n X (pc := 62) 3 rfl rfl dX9_act_62 ?_
            refine aw_iload_n X (pc := 63) 1 rfl rfl dX9_act_63 ?_
            refine aw_callV X (pc := 64) (q1 := 0) (rest := []) (st' := [.int (a (300 + 6 * tag.toNatClampNeg + 2))]) (ws' := (mW q kc a w hs inn sp lone lt lz dr)) (c_X9_of l D q kc a w hs inn sp lone lt lz dr tag 2 tag.toNatClampNeg 2 ht2 rfl (by omega)) rfl rfl [0, 1, 2, 3, 4, 5, 6, 7, 8] [0, 1, 2, 3, 4, 5, 6, 7] rfl rfl rfl rfl ⟨_, _, rfl⟩ rfl cf_X9_44 cd_X9_of dd_X9_of (by decide) (by decide) (by decide) rfl (Nat.le_of_ble_eq_true rfl) dX9_act_64 rfl ?_
            refine aw_iload X (pc := 67) 0 rfl dX9_act_67 ?_
            refine aw_icmp_ne X (pc := 69) (tgt := 74) (by decide) dX9_act_69 (fun c8 => ?_) (fun c8 => ?_)
            · refine aw_aload_n X (pc := 74) 2 rfl rfl dX9_act_74 ?_
              refine aw_iload_n X (pc := 75) 3 rfl rfl dX9_act_75 ?_
              refine aw_iload_n X (pc := 76) 1 rfl rfl dX9_act_76 ?_
              refine aw_iload X (pc := 77) 0 rfl dX9_act_77 ?_
              refine aw_callV X (pc := 79) (q1 := 0) (rest := []) (st' := []) (ws' := (mW q kc (upd a (300 + 6 * tag.toNatClampNeg + 2) 1) w hs inn sp lone lt lz dr)) (c_X9_sets l D q kc a w hs inn sp lone lt lz dr tag 2 tag.toNatClampNeg 2 1 ht2 rfl (by omega)) rfl rfl [0, 1, 2, 3, 4, 5, 6, 7, 8] [0, 1, 2, 3, 4, 5, 6, 7] rfl rfl rfl rfl ⟨_, _, rfl⟩ rfl cf_X9_52 cd_X9_sets dd_X9_sets (by decide) (by decide) (by decide) rfl (Nat.le_of_ble_eq_true rfl) dX9_act_79 rfl ?_
              have ha9 : (upd a (300 + 6 * tag.toNatClampNeg + 2) 1) 0 = nI n := by rw [pk_un (by omega)]; exact ha0
              refine aw_iconst X (pc := 82) (v := 1) dX9_act_82 (by decide) ?_
              exact aw_zret X (v := 1) rfl hQ (by simp only [r_X9_act, if_neg c1, if_neg c4, if_neg c5, if_pos c6, if_pos c7, if_neg c8]; try rfl) (by simp only [u_X9_act_a, if_neg c1, if_neg c4, if_neg c5, if_pos c6, if_pos c7, if_neg c8]) dX9_act_83
            · refine aw_iconst X (pc := 72) (v := 0) dX9_act_72 (by decide) ?_
              exact aw_zret X (v := 0) rfl hQ (by simp only [r_X9_act, if_neg c1, if_neg c4, if_neg c5, if_pos c6, if_pos c7, if_pos c8]; try rfl) (by simp only [u_X9_act_a, if_neg c1, if_neg c4, if_neg c5, if_pos c6, if_pos c7, if_pos c8]) dX9_act_73
          · refine aw_iload_n X (pc := 49) 3 rfl rfl dX9_act_49 ?_
            refine aw_iconst X (pc := 50) (v := 2) dX9_act_50 (by decide) ?_
            refine aw_icmp_ne X (pc := 51) (tgt := 58) (by decide) dX9_act_51 (fun c10 => ?_) (fun c10 => ?_)
            · refine aw_iconst X (pc := 58) (v := 0) dX9_act_58 (by decide) ?_
              refine aw_istore X (pc := 59) (lv' := [(4, .int 0), (3, .int 2), (0, .ref (q 0)), (1, .int tag), (2, .int what)]) (by decide) rfl dX9_act_59 ?_
              refine aw_aload_n X (pc := 61) 2 rfl rfl dX9_act_61 ?_
              refine aw_iload_n X (pc := 62) 3 rfl rfl dX9_act_62 ?_
              refine aw_iload_n X (pc := 63) 1 rfl rfl dX9_act_63 ?_
              refine aw_callV X (pc := 64) (q1 := 0) (rest := []) (st' := [.int (a (300 + 6 * tag.toNatClampNeg + 2))]) (ws' := (mW q kc a w hs inn sp lone lt lz dr)) (c_X9_of l D q kc a w hs inn sp lone lt lz dr tag 2 tag.toNatClampNeg 2 ht2 rfl (by omega)) rfl rfl [0, 1, 2, 3, 4, 5, 6, 7, 8] [0, 1, 2, 3, 4, 5, 6, 7] rfl rfl rfl rfl ⟨_, _, rfl⟩ rfl cf_X9_44 cd_X9_of dd_X9_of (by decide) (by decide) (by decide) rfl (Nat.le_of_ble_eq_true rfl) dX9_act_64 rfl ?_
              refine aw_iload X (pc := 67) 0 rfl dX9_act_67 ?_
              refine aw_icmp_ne X (pc := 69) (tgt := 74) (by decide) dX9_act_69 (fun c11 => ?_) (fun c11 => ?_)
              · refine aw_aload_n X (pc := 74) 2 rfl rfl dX9_act_74 ?_
                refine aw_iload_n X (pc := 75) 3 rfl rfl dX9_act_75 ?_
                refine aw_iload_n X (pc := 76) 1 rfl rfl dX9_act_76 ?_
                refine aw_iload X (pc := 77) 0 rfl dX9_act_77 ?_
                refine aw_callV X (pc := 79) (q1 := 0) (rest := []) (st' := []) (ws' := (mW q kc (upd a (300 + 6 * tag.toNatClampNeg + 2) 0) w hs inn sp lone lt lz dr)) (c_X9_sets l D q kc a w hs inn sp lone lt lz dr tag 2 tag.toNatClampNeg 2 0 ht2 rfl (by omega)) rfl rfl [0, 1, 2, 3, 4, 5, 6, 7, 8] [0, 1, 2, 3, 4, 5, 6, 7] rfl rfl rfl rfl ⟨_, _, rfl⟩ rfl cf_X9_52 cd_X9_sets dd_X9_sets (by decide) (by decide) (by decide) rfl (Nat.le_of_ble_eq_true rfl) dX9_act_79 rfl ?_
                have ha12 : (upd a (300 + 6 * tag.toNatClampNeg + 2) 0) 0 = nI n := by rw [pk_un (by omega)]; exact ha0
                refine aw_iconst X (pc := 82) (v := 1) dX9_act_82 (by decide) ?_
                exact aw_zret X (v := 1) rfl hQ (by simp only [r_X9_act, if_neg c1, if_neg c4, if_neg c5, if_pos c6, if_neg c7, if_neg c10, if_neg c11]; try rfl) (by simp only [u_X9_act_a, if_neg c1, if_neg c4, if_neg c5, if_pos c6, if_neg c7, if_neg c10, if_neg c11]) dX9_act_83
              · refine aw_iconst X (pc := 72) (v := 0) dX9_act_72 (by decide) ?_
                exact aw_zret X (v := 0) rfl hQ (by simp only [r_X9_act, if_neg c1, if_neg c4, if_neg c5, if_pos c6, if_neg c7, if_neg c10, if_pos c11]; try rfl) (by simp only [u_X9_act_a, if_neg c1, if_neg c4, if_neg c5, if_pos c6, if_neg c7, if_neg c10, if_pos c11]) dX9_act_73
            · refine aw_iconst X (pc := 54) (v := 1) dX9_act_54 (by decide) ?_
              refine aw_goto X (pc := 55) (tgt := 59) (by decide) dX9_act_55 ?_
              refine aw_istore X (pc := 59) (lv' := [(4, .int 1), (3, .int 2), (0, .ref (q 0)), (1, .int tag), (2, .int what)]) (by decide) rfl dX9_act_59 ?_
              refine aw_aload_n X (pc := 61) 2 rfl rfl dX9_act_61 ?_
              refine aw_iload_n X (pc := 62) 3 rfl rfl dX9_act_62 ?_
              refine aw_iload_n X (pc := 63) 1 rfl rfl dX9_act_63 ?_
              refine aw_callV X (pc := 64) (q1 := 0) (rest := []) (st' := [.int (a (300 + 6 * tag.toNatClampNeg + 2))]) (ws' := (mW q kc a w hs inn sp lone lt lz dr)) (c_X9_of l D q kc a w hs inn sp lone lt lz dr tag 2 tag.toNatClampNeg 2 ht2 rfl (by omega)) rfl rfl [0, 1, 2, 3, 4, 5, 6, 7, 8] [0, 1, 2, 3, 4, 5, 6, 7] rfl rfl rfl rfl ⟨_, _, rfl⟩ rfl cf_X9_44 cd_X9_of dd_X9_of (by decide) (by decide) (by decide) rfl (Nat.le_of_ble_eq_true rfl) dX9_act_64 rfl ?_
              refine aw_iload X (pc := 67) 0 rfl dX9_act_67 ?_
              refine aw_icmp_ne X (pc := 69) (tgt := 74) (by decide) dX9_act_69 (fun c13 => ?_) (fun c13 => ?_)
              · refine aw_aload_n X (pc := 74) 2 rfl rfl dX9_act_74 ?_
                refine aw_iload_n X (pc := 75) 3 rfl rfl dX9_act_75 ?_
                refine aw_iload_n X (pc := 76) 1 rfl rfl dX9_act_76 ?_
                refine aw_iload X (pc := 77) 0 rfl dX9_act_77 ?_
                refine aw_callV X (pc := 79) (q1 := 0) (rest := []) (st' := []) (ws' := (mW q kc (upd a (300 + 6 * tag.toNatClampNeg + 2) 1) w hs inn sp lone lt lz dr)) (c_X9_sets l D q kc a w hs inn sp lone lt lz dr tag 2 tag.toNatClampNeg 2 1 ht2 rfl (by omega)) rfl rfl [0, 1, 2, 3, 4, 5, 6, 7, 8] [0, 1, 2, 3, 4, 5, 6, 7] rfl rfl rfl rfl ⟨_, _, rfl⟩ rfl cf_X9_52 cd_X9_sets dd_X9_sets (by decide) (by decide) (by decide) rfl (Nat.le_of_ble_eq_true rfl) dX9_act_79 rfl ?_
                have ha14 : (upd a (300 + 6 * tag.toNatClampNeg + 2) 1) 0 = nI n := by rw [pk_un (by omega)]; exact ha0
                refine aw_iconst X (pc := 82) (v := 1) dX9_act_82 (by decide) ?_
                exact aw_zret X (v := 1) rfl hQ (by simp only [r_X9_act, if_neg c1, if_neg c4, if_neg c5, if_pos c6, if_neg c7, if_pos c10, if_neg c13]; try rfl) (by simp only [u_X9_act_a, if_neg c1, if_neg c4, if_neg c5, if_pos c6, if_neg c7, if_pos c10, if_neg c13]) dX9_act_83
              · refine aw_iconst X (pc := 72) (v := 0) dX9_act_72 (by decide) ?_
                exact aw_zret X (v := 0) rfl hQ (by simp only [r_X9_act, if_neg c1, if_neg c4, if_neg c5, if_pos c6, if_neg c7, if_pos c10, if_pos c13]; try rfl) (by simp only [u_X9_act_a, if_neg c1, if_neg c4, if_neg c5, if_pos c6, if_neg c7, if_pos c10, if_pos c13]) dX9_act_73
        · refine aw_iconst X (pc := 38) (v := 1) dX9_act_38 (by decide) ?_
          refine aw_goto X (pc := 39) (tgt := 43) (by decide) dX9_act_39 ?_
          refine aw_istore_n X (pc := 43) (lv' := [(3, .int 1), (0, .ref (q 0)), (1, .int tag), (2, .int what)]) rfl (by decide) rfl dX9_act_43 ?_
          refine aw_iload_n X (pc := 44) 3 rfl rfl dX9_act_44 ?_
          refine aw_iconst X (pc := 45) (v := 1) dX9_act_45 (by decide) ?_
          refine aw_icmp_eq X (pc := 46) (tgt := 54) (by decide) dX9_act_46 (fun c15 => ?_) (fun c15 => ?_)
          · refine aw_iconst X (pc := 54) (v := 1) dX9_act_54 (by decide) ?_
            refine aw_goto X (pc := 55) (tgt := 59) (by decide) dX9_act_55 ?_
            refine aw_istore X (pc := 59) (lv' := [(4, .int 1), (3, .int 1), (0, .ref (q 0)), (1, .int tag), (2, .int what)]) (by decide) rfl dX9_act_59 ?_
            refine aw_aload_n X (pc := 61) 2 rfl rfl dX9_act_61 ?_
            refine aw_iload_n X (pc := 62) 3 rfl rfl dX9_act_62 ?_
            refine aw_iload_n X (pc := 63) 1 rfl rfl dX9_act_63 ?_
            refine aw_callV X (pc := 64) (q1 := 0) (rest := []) (st' := [.int (a (300 + 6 * tag.toNatClampNeg + 1))]) (ws' := (mW q kc a w hs inn sp lone lt lz dr)) (c_X9_of l D q kc a w hs inn sp lone lt lz dr tag 1 tag.toNatClampNeg 1 ht2 rfl (by omega)) rfl rfl [0, 1, 2, 3, 4, 5, 6, 7, 8] [0, 1, 2, 3, 4, 5, 6, 7] rfl rfl rfl rfl ⟨_, _, rfl⟩ rfl cf_X9_44 cd_X9_of dd_X9_of (by decide) (by decide) (by decide) rfl (Nat.le_of_ble_eq_true rfl) dX9_act_64 rfl ?_
            refine aw_iload X (pc := 67) 0 rfl dX9_act_67 ?_
            refine aw_icmp_ne X (pc := 69) (tgt := 74) (by decide) dX9_act_69 (fun c16 => ?_) (fun c16 => ?_)
            · refine aw_aload_n X (pc := 74) 2 rfl rfl dX9_act_74 ?_
              refine aw_iload_n X (pc := 75) 3 rfl rfl dX9_act_75 ?_
              refine aw_iload_n X (pc := 76) 1 rfl rfl dX9_act_76 ?_
              refine aw_iload X (pc := 77) 0 rfl dX9_act_77 ?_
              refine aw_callV X (pc := 79) (q1 := 0) (rest := []) (st' := []) (ws' := (mW q kc (upd a (300 + 6 * tag.toNatClampNeg + 1) 1) w hs inn sp lone lt lz dr)) (c_X9_sets l D q kc a w hs inn sp lone lt lz dr tag 1 tag.toNatClampNeg 1 1 ht2 rfl (by omega)) rfl rfl [0, 1, 2, 3, 4, 5, 6, 7, 8] [0, 1, 2, 3, 4, 5, 6, 7] rfl rfl rfl rfl ⟨_, _, rfl⟩ rfl cf_X9_52 cd_X9_sets dd_X9_sets (by decide) (by decide) (by decide) rfl (Nat.le_of_ble_eq_true rfl) dX9_act_79 rfl ?_
              have ha17 : (upd a (300 + 6 * tag.toNatClampNeg + 1) 1) 0 = nI n := by rw [pk_un (by omega)]; exact ha0
              refine aw_iconst X (pc := 82) (v := 1) dX9_act_82 (by decide) ?_
              exact aw_zret X (v := 1) rfl hQ (by simp only [r_X9_act, if_neg c1, if_neg c4, if_neg c5, if_neg c6, if_pos c15, if_neg c16]; try rfl) (by simp only [u_X9_act_a, if_neg c1, if_neg c4, if_neg c5, if_neg c6, if_pos c15, if_neg c16]) dX9_act_83
            · refine aw_iconst X (pc := 72) (v := 0) dX9_act_72 (by decide) ?_
              exact aw_zret X (v := 0) rfl hQ (by simp only [r_X9_act, if_neg c1, if_neg c4, if_neg c5, if_neg c6, if_pos c15, if_pos c16]; try rfl) (by simp only [u_X9_act_a, if_neg c1, if_neg c4, if_neg c5, if_neg c6, if_pos c15, if_pos c16]) dX9_act_73
          · refine aw_iload_n X (pc := 49) 3 rfl rfl dX9_act_49 ?_
            refine aw_iconst X (pc := 50) (v := 2) dX9_act_50 (by decide) ?_
            refine aw_icmp_ne X (pc := 51) (tgt := 58) (by decide) dX9_act_51 (fun c18 => ?_) (fun c18 => ?_)
            · refine aw_iconst X (pc := 58) (v := 0) dX9_act_58 (by decide) ?_
              refine aw_istore X (pc := 59) (lv' := [(4, .int 0), (3, .int 1), (0, .ref (q 0)), (1, .int tag), (2, .int what)]) (by decide) rfl dX9_act_59 ?_
              refine aw_aload_n X (pc := 61) 2 rfl rfl dX9_act_61 ?_
              refine aw_iload_n X (pc := 62) 3 rfl rfl dX9_act_62 ?_
              refine aw_iload_n X (pc := 63) 1 rfl rfl dX9_act_63 ?_
              refine aw_callV X (pc := 64) (q1 := 0) (rest := []) (st' := [.int (a (300 + 6 * tag.toNatClampNeg + 1))]) (ws' := (mW q kc a w hs inn sp lone lt lz dr)) (c_X9_of l D q kc a w hs inn sp lone lt lz dr tag 1 tag.toNatClampNeg 1 ht2 rfl (by omega)) rfl rfl [0, 1, 2, 3, 4, 5, 6, 7, 8] [0, 1, 2, 3, 4, 5, 6, 7] rfl rfl rfl rfl ⟨_, _, rfl⟩ rfl cf_X9_44 cd_X9_of dd_X9_of (by decide) (by decide) (by decide) rfl (Nat.le_of_ble_eq_true rfl) dX9_act_64 rfl ?_
              refine aw_iload X (pc := 67) 0 rfl dX9_act_67 ?_
              refine aw_icmp_ne X (pc := 69) (tgt := 74) (by decide) dX9_act_69 (fun c19 => ?_) (fun c19 => ?_)
              · refine aw_aload_n X (pc := 74) 2 rfl rfl dX9_act_74 ?_
                refine aw_iload_n X (pc := 75) 3 rfl rfl dX9_act_75 ?_
                refine aw_iload_n X (pc := 76) 1 rfl rfl dX9_act_76 ?_
                refine aw_iload X (pc := 77) 0 rfl dX9_act_77 ?_
                refine aw_callV X (pc := 79) (q1 := 0) (rest := []) (st' := []) (ws' := (mW q kc (upd a (300 + 6 * tag.toNatClampNeg + 1) 0) w hs inn sp lone lt lz dr)) (c_X9_sets l D q kc a w hs inn sp lone lt lz dr tag 1 tag.toNatClampNeg 1 0 ht2 rfl (by omega)) rfl rfl [0, 1, 2, 3, 4, 5, 6, 7, 8] [0, 1, 2, 3, 4, 5, 6, 7] rfl rfl rfl rfl ⟨_, _, rfl⟩ rfl cf_X9_52 cd_X9_sets dd_X9_sets (by decide) (by decide) (by decide) rfl (Nat.le_of_ble_eq_true rfl) dX9_act_79 rfl ?_
                have ha20 : (upd a (300 + 6 * tag.toNatClampNeg + 1) 0) 0 = nI n := by rw [pk_un (by omega)]; exact ha0
                refine aw_iconst X (pc := 82) (v := 1) dX9_act_82 (by decide) ?_
                exact aw_zret X (v := 1) rfl hQ (by simp only [r_X9_act, if_neg c1, if_neg c4, if_neg c5, if_neg c6, if_neg c15, if_neg c18, if_neg c19]; try rfl) (by simp only [u_X9_act_a, if_neg c1, if_neg c4, if_neg c5, if_neg c6, if_neg c15, if_neg c18, if_neg c19]) dX9_act_83
              · refine aw_iconst X (pc := 72) (v := 0) dX9_act_72 (by decide) ?_
                exact aw_zret X (v := 0) rfl hQ (by simp only [r_X9_act, if_neg c1, if_neg c4, if_neg c5, if_neg c6, if_neg c15, if_neg c18, if_pos c19]; try rfl) (by simp only [u_X9_act_a, if_neg c1, if_neg c4, if_neg c5, if_neg c6, if_neg c15, if_neg c18, if_pos c19]) dX9_act_73
            · refine aw_iconst X (pc := 54) (v := 1) dX9_act_54 (by decide) ?_
              refine aw_goto X (pc := 55) (tgt := 59) (by decide) dX9_act_55 ?_
              refine aw_istore X (pc := 59) (lv' := [(4, .int 1), (3, .int 1), (0, .ref (q 0)), (1, .int tag), (2, .int what)]) (by decide) rfl dX9_act_59 ?_
              refine aw_aload_n X (pc := 61) 2 rfl rfl dX9_act_61 ?_
              refine aw_iload_n X (pc := 62) 3 rfl rfl dX9_act_62 ?_
              refine aw_iload_n X (pc := 63) 1 rfl rfl dX9_act_63 ?_
              refine aw_callV X (pc := 64) (q1 := 0) (rest := []) (st' := [.int (a (300 + 6 * tag.toNatClampNeg + 1))]) (ws' := (mW q kc a w hs inn sp lone lt lz dr)) (c_X9_of l D q kc a w hs inn sp lone lt lz dr tag 1 tag.toNatClampNeg 1 ht2 rfl (by omega)) rfl rfl [0, 1, 2, 3, 4, 5, 6, 7, 8] [0, 1, 2, 3, 4, 5, 6, 7] rfl rfl rfl rfl ⟨_, _, rfl⟩ rfl cf_X9_44 cd_X9_of dd_X9_of (by decide) (by decide) (by decide) rfl (Nat.le_of_ble_eq_true rfl) dX9_act_64 rfl ?_
              refine aw_iload X (pc := 67) 0 rfl dX9_act_67 ?_
              refine aw_icmp_ne X (pc := 69) (tgt := 74) (by decide) dX9_act_69 (fun c21 => ?_) (fun c21 => ?_)
              · refine aw_aload_n X (pc := 74) 2 rfl rfl dX9_act_74 ?_
                refine aw_iload_n X (pc := 75) 3 rfl rfl dX9_act_75 ?_
                refine aw_iload_n X (pc := 76) 1 rfl rfl dX9_act_76 ?_
                refine aw_iload X (pc := 77) 0 rfl dX9_act_77 ?_
                refine aw_callV X (pc := 79) (q1 := 0) (rest := []) (st' := []) (ws' := (mW q kc (upd a (300 + 6 * tag.toNatClampNeg + 1) 1) w hs inn sp lone lt lz dr)) (c_X9_sets l D q kc a w hs inn sp lone lt lz dr tag 1 tag.toNatClampNeg 1 1 ht2 rfl (by omega)) rfl rfl [0, 1, 2, 3, 4, 5, 6, 7, 8] [0, 1, 2, 3, 4, 5, 6, 7] rfl rfl rfl rfl ⟨_, _, rfl⟩ rfl cf_X9_52 cd_X9_sets dd_X9_sets (by decide) (by decide) (by decide) rfl (Nat.le_of_ble_eq_true rfl) dX9_act_79 rfl ?_
                have ha22 : (upd a (300 + 6 * tag.toNatClampNeg + 1) 1) 0 = nI n := by rw [pk_un (by omega)]; exact ha0
                refine aw_iconst X (pc := 82) (v := 1) dX9_act_82 (by decide) ?_
                exact aw_zret X (v := 1) rfl hQ (by simp only [r_X9_act, if_neg c1, if_neg c4, if_neg c5, if_neg c6, if_neg c15, if_pos c18, if_neg c21]; try rfl) (by simp only [u_X9_act_a, if_neg c1, if_neg c4, if_neg c5, if_neg c6, if_neg c15, if_pos c18, if_neg c21]) dX9_act_83
              · refine aw_iconst X (pc := 72) (v := 0) dX9_act_72 (by decide) ?_
                exact aw_zret X (v := 0) rfl hQ (by simp only [r_X9_act, if_neg c1, if_neg c4, if_neg c5, if_neg c6, if_neg c15, if_pos c18, if_pos c21]; try rfl) (by simp only [u_X9_act_a, if_neg c1, if_neg c4, if_neg c5, if_neg c6, if_neg c15, if_pos c18, if_pos c21]) dX9_act_73
      · refine aw_aload_n X (pc := 21) 0 rfl rfl dX9_act_21 ?_
        refine aw_iload_n X (pc := 22) 1 rfl rfl dX9_act_22 ?_
        refine aw_iconst X (pc := 23) (v := 0) dX9_act_23 (by decide) ?_
        refine aw_callV X (pc := 24) (q1 := 0) (rest := []) (st' := [.int (a (300 + 6 * tag.toNatClampNeg + 0))]) (ws' := (mW q kc a w hs inn sp lone lt lz dr)) (c_X9_of l D q kc a w hs inn sp lone lt lz dr tag 0 tag.toNatClampNeg 0 ht2 rfl (by omega)) rfl rfl [0, 1, 2, 3, 4, 5, 6, 7, 8] [0, 1, 2, 3, 4, 5, 6, 7] rfl rfl rfl rfl ⟨_, _, rfl⟩ rfl cf_X9_44 cd_X9_of dd_X9_of (by decide) (by decide) (by decide) rfl (Nat.le_of_ble_eq_true rfl) dX9_act_24 rfl ?_
        refine aw_iconst X (pc := 27) (v := 4) dX9_act_27 (by decide) ?_
        refine aw_icmp_eq X (pc := 28) (tgt := 33) (by decide) dX9_act_28 (fun c23 => ?_) (fun c23 => ?_)
        · refine aw_iload_n X (pc := 33) 2 rfl rfl dX9_act_33 ?_
          refine aw_iconst X (pc := 34) (v := 2) dX9_act_34 (by decide) ?_
          refine aw_icmp_ge X (pc := 35) (tgt := 42) (by decide) dX9_act_35 (fun c24 => ?_) (fun c24 => ?_)
          · refine aw_iconst X (pc := 42) (v := 2) dX9_act_42 (by decide) ?_
            refine aw_istore_n X (pc := 43) (lv' := [(3, .int 2), (0, .ref (q 0)), (1, .int tag), (2, .int what)]) rfl (by decide) rfl dX9_act_43 ?_
            refine aw_iload_n X (pc := 44) 3 rfl rfl dX9_act_44 ?_
            refine aw_iconst X (pc := 45) (v := 1) dX9_act_45 (by decide) ?_
            refine aw_icmp_eq X (pc := 46) (tgt := 54) (by decide) dX9_act_46 (fun c25 => ?_) (fun c25 => ?_)
            · refine aw_iconst X (pc := 54) (v := 1) dX9_act_54 (by decide) ?_
              refine aw_goto X (pc := 55) (tgt := 59) (by decide) dX9_act_55 ?_
              refine aw_istore X (pc := 59) (lv' := [(4, .int 1), (3, .int 2), (0, .ref (q 0)), (1, .int tag), (2, .int what)]) (by decide) rfl dX9_act_59 ?_
              refine aw_aload_n X (pc := 61) 2 rfl rfl dX9_act_61 ?_
              refine aw_iload_n X (pc := 62) 3 rfl rfl dX9_act_62 ?_
              refine aw_iload_n X (pc := 63) 1 rfl rfl dX9_act_63 ?_
              refine aw_callV X (pc := 64) (q1 := 0) (rest := []) (st' := [.int (a (300 + 6 * tag.toNatClampNeg + 2))]) (ws' := (mW q kc a w hs inn sp lone lt lz dr)) (c_X9_of l D q kc a w hs inn sp lone lt lz dr tag 2 tag.toNatClampNeg 2 ht2 rfl (by omega)) rfl rfl [0, 1, 2, 3, 4, 5, 6, 7, 8] [0, 1, 2, 3, 4, 5, 6, 7] rfl rfl rfl rfl ⟨_, _, rfl⟩ rfl cf_X9_44 cd_X9_of dd_X9_of (by decide) (by decide) (by decide) rfl (Nat.le_of_ble_eq_true rfl) dX9_act_64 rfl ?_
              refine aw_iload X (pc := 67) 0 rfl dX9_act_67 ?_
              refine aw_icmp_ne X (pc := 69) (tgt := 74) (by decide) dX9_act_69 (fun c26 => ?_) (fun c26 => ?_)
              · refine aw_aload_n X (pc := 74) 2 rfl rfl dX9_act_74 ?_
                refine aw_iload_n X (pc := 75) 3 rfl rfl dX9_act_75 ?_
                refine aw_iload_n X (pc := 76) 1 rfl rfl dX9_act_76 ?_
                refine aw_iload X (pc := 77) 0 rfl dX9_act_77 ?_
                refine aw_callV X (pc := 79) (q1 := 0) (rest := []) (st' := []) (ws' := (mW q kc (upd a (300 + 6 * tag.toNatClampNeg + 2) 1) w hs inn sp lone lt lz dr)) (c_X9_sets l D q kc a w hs inn sp lone lt lz dr tag 2 tag.toNatClampNeg 2 1 ht2 rfl (by omega)) rfl rfl [0, 1, 2, 3, 4, 5, 6, 7, 8] [0, 1, 2, 3, 4, 5, 6, 7] rfl rfl rfl rfl ⟨_, _, rfl⟩ rfl cf_X9_52 cd_X9_sets dd_X9_sets (by decide) (by decide) (by decide) rfl (Nat.le_of_ble_eq_true rfl) dX9_act_79 rfl ?_
                have ha27 : (upd a (300 + 6 * tag.toNatClampNeg + 2) 1) 0 = nI n := by rw [pk_un (by omega)]; exact ha0
                refine aw_iconst X (pc := 82) (v := 1) dX9_act_82 (by decide) ?_
                exact aw_zret X (v := 1) rfl hQ (by simp only [r_X9_act, if_neg c1, if_neg c4, if_pos c5, if_pos c23, if_pos c24, if_pos c25, if_neg c26]; try rfl) (by simp only [u_X9_act_a, if_neg c1, if_neg c4, if_pos c5, if_pos c23, if_pos c24, if_pos c25, if_neg c26]) dX9_act_83
              · refine aw_iconst X (pc := 72) (v := 0) dX9_act_72 (by decide) ?_
                exact aw_zret X (v := 0) rfl hQ (by simp only [r_X9_act, if_neg c1, if_neg c4, if_pos c5, if_pos c23, if_pos c24, if_pos c25, if_pos c26]; try rfl) (by simp only [u_X9_act_a, if_neg c1, if_neg c4, if_pos c5, if_pos c23, if_pos c24, if_pos c25, if_pos c26]) dX9_act_73
            · refine aw_iload_n X (pc := 49) 3 rfl rfl dX9_act_49 ?_
              refine aw_iconst X (pc := 50) (v := 2) dX9_act_50 (by decide) ?_
              refine aw_icmp_ne X (pc := 51) (tgt := 58) (by decide) dX9_act_51 (fun c28 => ?_) (fun c28 => ?_)
              · refine aw_iconst X (pc := 58) (v := 0) dX9_act_58 (by decide) ?_
                refine aw_istore X (pc := 59) (lv' := [(4, .int 0), (3, .int 2), (0, .ref (q 0)), (1, .int tag), (2, .int what)]) (by decide) rfl dX9_act_59 ?_
                refine aw_aload_n X (pc := 61) 2 rfl rfl dX9_act_61 ?_
                refine aw_iload_n X (pc := 62) 3 rfl rfl dX9_act_62 ?_
                refine aw_iload_n X (pc := 63) 1 rfl rfl dX9_act_63 ?_
                refine aw_callV X (pc := 64) (q1 := 0) (rest := []) (st' := [.int (a (300 + 6 * tag.toNatClampNeg + 2))]) (ws' := (mW q kc a w hs inn sp lone lt lz dr)) (c_X9_of l D q kc a w hs inn sp lone lt lz dr tag 2 tag.toNatClampNeg 2 ht2 rfl (by omega)) rfl rfl [0, 1, 2, 3, 4, 5, 6, 7, 8] [0, 1, 2, 3, 4, 5, 6, 7] rfl rfl rfl rfl ⟨_, _, rfl⟩ rfl cf_X9_44 cd_X9_of dd_X9_of (by decide) (by decide) (by decide) rfl (Nat.le_of_ble_eq_true rfl) dX9_act_64 rfl ?_
                refine aw_iload X (pc := 67) 0 rfl dX9_act_67 ?_
                refine aw_icmp_ne X (pc := 69) (tgt := 74) (by decide) dX9_act_69 (fun c29 => ?_) (fun c29 => ?_)
                · refine aw_aload_n X (pc := 74) 2 rfl rfl dX9_act_74 ?_
                  refine aw_iload_n X (pc := 75) 3 rfl rfl dX9_act_75 ?_
                  refine aw_iload_n X (pc := 76) 1 rfl rfl dX9_act_76 ?_
                  refine aw_iload X (pc := 77) 0 rfl dX9_act_77 ?_
                  refine aw_callV X (pc := 79) (q1 := 0) (rest := []) (st' := []) (ws' := (mW q kc (upd a (300 + 6 * tag.toNatClampNeg + 2) 0) w hs inn sp lone lt lz dr)) (c_X9_sets l D q kc a w hs inn sp lone lt lz dr tag 2 tag.toNatClampNeg 2 0 ht2 rfl (by omega)) rfl rfl [0, 1, 2, 3, 4, 5, 6, 7, 8] [0, 1, 2, 3, 4, 5, 6, 7] rfl rfl rfl rfl ⟨_, _, rfl⟩ rfl cf_X9_52 cd_X9_sets dd_X9_sets (by decide) (by decide) (by decide) rfl (Nat.le_of_ble_eq_true rfl) dX9_act_79 rfl ?_
                  have ha30 : (upd a (300 + 6 * tag.toNatClampNeg + 2) 0) 0 = nI n := by rw [pk_un (by omega)]; exact ha0
                  refine aw_iconst X (pc := 82) (v := 1) dX9_act_82 (by decide) ?_
                  exact aw_zret X (v := 1) rfl hQ (by simp only [r_X9_act, if_neg c1, if_neg c4, if_pos c5, if_pos c23, if_pos c24, if_neg c25, if_neg c28, if_neg c29]; try rfl) (by simp only [u_X9_act_a, if_neg c1, if_neg c4, if_pos c5, if_pos c23, if_pos c24, if_neg c25, if_neg c28, if_neg c29]) dX9_act_83
                · refine aw_iconst X (pc := 72) (v := 0) dX9_act_72 (by decide) ?_
                  exact aw_zret X (v := 0) rfl hQ (by simp only [r_X9_act, if_neg c1, if_neg c4, if_pos c5, if_pos c23, if_pos c24, if_neg c25, if_neg c28, if_pos c29]; try rfl) (by simp only [u_X9_act_a, if_neg c1, if_neg c4, if_pos c5, if_pos c23, if_pos c24, if_neg c25, if_neg c28, if_pos c29]) dX9_act_73
              · refine aw_iconst X (pc := 54) (v := 1) dX9_act_54 (by decide) ?_
                refine aw_goto X (pc := 55) (tgt := 59) (by decide) dX9_act_55 ?_
                refine aw_istore X (pc := 59) (lv' := [(4, .int 1), (3, .int 2), (0, .ref (q 0)), (1, .int tag), (2, .int what)]) (by decide) rfl dX9_act_59 ?_
                refine aw_aload_n X (pc := 61) 2 rfl rfl dX9_act_61 ?_
                refine aw_iload_n X (pc := 62) 3 rfl rfl dX9_act_62 ?_
                refine aw_iload_n X (pc := 63) 1 rfl rfl dX9_act_63 ?_
                refine aw_callV X (pc := 64) (q1 := 0) (rest := []) (st' := [.int (a (300 + 6 * tag.toNatClampNeg + 2))]) (ws' := (mW q kc a w hs inn sp lone lt lz dr)) (c_X9_of l D q kc a w hs inn sp lone lt lz dr tag 2 tag.toNatClampNeg 2 ht2 rfl (by omega)) rfl rfl [0, 1, 2, 3, 4, 5, 6, 7, 8] [0, 1, 2, 3, 4, 5, 6, 7] rfl rfl rfl rfl ⟨_, _, rfl⟩ rfl cf_X9_44 cd_X9_of dd_X9_of (by decide) (by decide) (by decide) rfl (Nat.le_of_ble_eq_true rfl) dX9_act_64 rfl ?_
                refine aw_iload X (pc := 67) 0 rfl dX9_act_67 ?_
                refine aw_icmp_ne X (pc := 69) (tgt := 74) (by decide) dX9_act_69 (fun c31 => ?_) (fun c31 => ?_)
                · refine aw_aload_n X (pc := 74) 2 rfl rfl dX9_act_74 ?_
                  refine aw_iload_n X (pc := 75) 3 rfl rfl dX9_act_75 ?_
                  refine aw_iload_n X (pc := 76) 1 rfl rfl dX9_act_76 ?_
                  refine aw_iload X (pc := 77) 0 rfl dX9_act_77 ?_
                  refine aw_callV X (pc := 79) (q1 := 0) (rest := []) (st' := []) (ws' := (mW q kc (upd a (300 + 6 * tag.toNatClampNeg + 2) 1) w hs inn sp lone lt lz dr)) (c_X9_sets l D q kc a w hs inn sp lone lt lz dr tag 2 tag.toNatClampNeg 2 1 ht2 rfl (by omega)) rfl rfl [0, 1, 2, 3, 4, 5, 6, 7, 8] [0, 1, 2, 3, 4, 5, 6, 7] rfl rfl rfl rfl ⟨_, _, rfl⟩ rfl cf_X9_52 cd_X9_sets dd_X9_sets (by decide) (by decide) (by decide) rfl (Nat.le_of_ble_eq_true rfl) dX9_act_79 rfl ?_
                  have ha32 : (upd a (300 + 6 * tag.toNatClampNeg + 2) 1) 0 = nI n := by rw [pk_un (by omega)]; exact ha0
                  refine aw_iconst X (pc := 82) (v := 1) dX9_act_82 (by decide) ?_
                  exact aw_zret X (v := 1) rfl hQ (by simp only [r_X9_act, if_neg c1, if_neg c4, if_pos c5, if_pos c23, if_pos c24, if_neg c25, if_pos c28, if_neg c31]; try rfl) (by simp only [u_X9_act_a, if_neg c1, if_neg c4, if_pos c5, if_pos c23, if_pos c24, if_neg c25, if_pos c28, if_neg c31]) dX9_act_83
                · refine aw_iconst X (pc := 72) (v := 0) dX9_act_72 (by decide) ?_
                  exact aw_zret X (v := 0) rfl hQ (by simp only [r_X9_act, if_neg c1, if_neg c4, if_pos c5, if_pos c23, if_pos c24, if_neg c25, if_pos c28, if_pos c31]; try rfl) (by simp only [u_X9_act_a, if_neg c1, if_neg c4, if_pos c5, if_pos c23, if_pos c24, if_neg c25, if_pos c28, if_pos c31]) dX9_act_73
          · refine aw_iconst X (pc := 38) (v := 1) dX9_act_38 (by decide) ?_
            refine aw_goto X (pc := 39) (tgt := 43) (by decide) dX9_act_39 ?_
            refine aw_istore_n X (pc := 43) (lv' := [(3, .int 1), (0, .ref (q 0)), (1, .int tag), (2, .int what)]) rfl (by decide) rfl dX9_act_43 ?_
            refine aw_iload_n X (pc := 44) 3 rfl rfl dX9_act_44 ?_
            refine aw_iconst X (pc := 45) (v := 1) dX9_act_45 (by decide) ?_
            refine aw_icmp_eq X (pc := 46) (tgt := 54) (by decide) dX9_act_46 (fun c33 => ?_) (fun c33 => ?_)
            · refine aw_iconst X (pc := 54) (v := 1) dX9_act_54 (by decide) ?_
              refine aw_goto X (pc := 55) (tgt := 59) (by decide) dX9_act_55 ?_
              refine aw_istore X (pc := 59) (lv' := [(4, .int 1), (3, .int 1), (0, .ref (q 0)), (1, .int tag), (2, .int what)]) (by decide) rfl dX9_act_59 ?_
              refine aw_aload_n X (pc := 61) 2 rfl rfl dX9_act_61 ?_
              refine aw_iload_n X (pc := 62) 3 rfl rfl dX9_act_62 ?_
              refine aw_iload_n X (pc := 63) 1 rfl rfl dX9_act_63 ?_
              refine aw_callV X (pc := 64) (q1 := 0) (rest := []) (st' := [.int (a (300 + 6 * tag.toNatClampNeg + 1))]) (ws' := (mW q kc a w hs inn sp lone lt lz dr)) (c_X9_of l D q kc a w hs inn sp lone lt lz dr tag 1 tag.toNatClampNeg 1 ht2 rfl (by omega)) rfl rfl [0, 1, 2, 3, 4, 5, 6, 7, 8] [0, 1, 2, 3, 4, 5, 6, 7] rfl rfl rfl rfl ⟨_, _, rfl⟩ rfl cf_X9_44 cd_X9_of dd_X9_of (by decide) (by decide) (by decide) rfl (Nat.le_of_ble_eq_true rfl) dX9_act_64 rfl ?_
              refine aw_iload X (pc := 67) 0 rfl dX9_act_67 ?_
              refine aw_icmp_ne X (pc := 69) (tgt := 74) (by decide) dX9_act_69 (fun c34 => ?_) (fun c34 => ?_)
              · refine aw_aload_n X (pc := 74) 2 rfl rfl dX9_act_74 ?_
                refine aw_iload_n X (pc := 75) 3 rfl rfl dX9_act_75 ?_
                refine aw_iload_n X (pc := 76) 1 rfl rfl dX9_act_76 ?_
                refine aw_iload X (pc := 77) 0 rfl dX9_act_77 ?_
                refine aw_callV X (pc := 79) (q1 := 0) (rest := []) (st' := []) (ws' := (mW q kc (upd a (300 + 6 * tag.toNatClampNeg + 1) 1) w hs inn sp lone lt lz dr)) (c_X9_sets l D q kc a w hs inn sp lone lt lz dr tag 1 tag.toNatClampNeg 1 1 ht2 rfl (by omega)) rfl rfl [0, 1, 2, 3, 4, 5, 6, 7, 8] [0, 1, 2, 3, 4, 5, 6, 7] rfl rfl rfl rfl ⟨_, _, rfl⟩ rfl cf_X9_52 cd_X9_sets dd_X9_sets (by decide) (by decide) (by decide) rfl (Nat.le_of_ble_eq_true rfl) dX9_act_79 rfl ?_
                have ha35 : (upd a (300 + 6 * tag.toNatClampNeg + 1) 1) 0 = nI n := by rw [pk_un (by omega)]; exact ha0
                refine aw_iconst X (pc := 82) (v := 1) dX9_act_82 (by decide) ?_
                exact aw_zret X (v := 1) rfl hQ (by simp only [r_X9_act, if_neg c1, if_neg c4, if_pos c5, if_pos c23, if_neg c24, if_pos c33, if_neg c34]; try rfl) (by simp only [u_X9_act_a, if_neg c1, if_neg c4, if_pos c5, if_pos c23, if_neg c24, if_pos c33, if_neg c34]) dX9_act_83
              · refine aw_iconst X (pc := 72) (v := 0) dX9_act_72 (by decide) ?_
                exact aw_zret X (v := 0) rfl hQ (by simp only [r_X9_act, if_neg c1, if_neg c4, if_pos c5, if_pos c23, if_neg c24, if_pos c33, if_pos c34]; try rfl) (by simp only [u_X9_act_a, if_neg c1, if_neg c4, if_pos c5, if_pos c23, if_neg c24, if_pos c33, if_pos c34]) dX9_act_73
            · refine aw_iload_n X (pc := 49) 3 rfl rfl dX9_act_49 ?_
              refine aw_iconst X (pc := 50) (v := 2) dX9_act_50 (by decide) ?_
              refine aw_icmp_ne X (pc := 51) (tgt := 58) (by decide) dX9_act_51 (fun c36 => ?_) (fun c36 => ?_)
              · refine aw_iconst X (pc := 58) (v := 0) dX9_act_58 (by decide) ?_
                refine aw_istore X (pc := 59) (lv' := [(4, .int 0), (3, .int 1), (0, .ref (q 0)), (1, .int tag), (2, .int what)]) (by decide) rfl dX9_act_59 ?_
                refine aw_aload_n X (pc := 61) 2 rfl rfl dX9_act_61 ?_
                refine aw_iload_n X (pc := 62) 3 rfl rfl dX9_act_62 ?_
                refine aw_iload_n X (pc := 63) 1 rfl rfl dX9_act_63 ?_
                refine aw_callV X (pc := 64) (q1 := 0) (rest := []) (st' := [.int (a (300 + 6 * tag.toNatClampNeg + 1))]) (ws' := (mW q kc a w hs inn sp lone lt lz dr)) (c_X9_of l D q kc a w hs inn sp lone lt lz dr tag 1 tag.toNatClampNeg 1 ht2 rfl (by omega)) rfl rfl [0, 1, 2, 3, 4, 5, 6, 7, 8] [0, 1, 2, 3, 4, 5, 6, 7] rfl rfl rfl rfl ⟨_, _, rfl⟩ rfl cf_X9_44 cd_X9_of dd_X9_of (by decide) (by decide) (by decide) rfl (Nat.le_of_ble_eq_true rfl) dX9_act_64 rfl ?_
                refine aw_iload X (pc := 67) 0 rfl dX9_act_67 ?_
                refine aw_icmp_ne X (pc := 69) (tgt := 74) (by decide) dX9_act_69 (fun c37 => ?_) (fun c37 => ?_)
                · refine aw_aload_n X (pc := 74) 2 rfl rfl dX9_act_74 ?_
                  refine aw_iload_n X (pc := 75) 3 rfl rfl dX9_act_75 ?_
                  refine aw_iload_n X (pc := 76) 1 rfl rfl dX9_act_76 ?_
                  refine aw_iload X (pc := 77) 0 rfl dX9_act_77 ?_
                  refine aw_callV X (pc := 79) (q1 := 0) (rest := []) (st' := []) (ws' := (mW q kc (upd a (300 + 6 * tag.toNatClampNeg + 1) 0) w hs inn sp lone lt lz dr)) (c_X9_sets l D q kc a w hs inn sp lone lt lz dr tag 1 tag.toNatClampNeg 1 0 ht2 rfl (by omega)) rfl rfl [0, 1, 2, 3, 4, 5, 6, 7, 8] [0, 1, 2, 3, 4, 5, 6, 7] rfl rfl rfl rfl ⟨_, _, rfl⟩ rfl cf_X9_52 cd_X9_sets dd_X9_sets (by decide) (by decide) (by decide) rfl (Nat.le_of_ble_eq_true rfl) dX9_act_79 rfl ?_
                  have ha38 : (upd a (300 + 6 * tag.toNatClampNeg + 1) 0) 0 = nI n := by rw [pk_un (by omega)]; exact ha0
                  refine aw_iconst X (pc := 82) (v := 1) dX9_act_82 (by decide) ?_
                  exact aw_zret X (v := 1) rfl hQ (by simp only [r_X9_act, if_neg c1, if_neg c4, if_pos c5, if_pos c23, if_neg c24, if_neg c33, if_neg c36, if_neg c37]; try rfl) (by simp only [u_X9_act_a, if_neg c1, if_neg c4, if_pos c5, if_pos c23, if_neg c24, if_neg c33, if_neg c36, if_neg c37]) dX9_act_83
                · refine aw_iconst X (pc := 72) (v := 0) dX9_act_72 (by decide) ?_
                  exact aw_zret X (v := 0) rfl hQ (by simp only [r_X9_act, if_neg c1, if_neg c4, if_pos c5, if_pos c23, if_neg c24, if_neg c33, if_neg c36, if_pos c37]; try rfl) (by simp only [u_X9_act_a, if_neg c1, if_neg c4, if_pos c5, if_pos c23, if_neg c24, if_neg c33, if_neg c36, if_pos c37]) dX9_act_73
              · refine aw_iconst X (pc := 54) (v := 1) dX9_act_54 (by decide) ?_
                refine aw_goto X (pc := 55) (tgt := 59) (by decide) dX9_act_55 ?_
                refine aw_istore X (pc := 59) (lv' := [(4, .int 1), (3, .int 1), (0, .ref (q 0)), (1, .int tag), (2, .int what)]) (by decide) rfl dX9_act_59 ?_
                refine aw_aload_n X (pc := 61) 2 rfl rfl dX9_act_61 ?_
                refine aw_iload_n X (pc := 62) 3 rfl rfl dX9_act_62 ?_
                refine aw_iload_n X (pc := 63) 1 rfl rfl dX9_act_63 ?_
                refine aw_callV X (pc := 64) (q1 := 0) (rest := []) (st' := [.int (a (300 + 6 * tag.toNatClampNeg + 1))]) (ws' := (mW q kc a w hs inn sp lone lt lz dr)) (c_X9_of l D q kc a w hs inn sp lone lt lz dr tag 1 tag.toNatClampNeg 1 ht2 rfl (by omega)) rfl rfl [0, 1, 2, 3, 4, 5, 6, 7, 8] [0, 1, 2, 3, 4, 5, 6, 7] rfl rfl rfl rfl ⟨_, _, rfl⟩ rfl cf_X9_44 cd_X9_of dd_X9_of (by decide) (by decide) (by decide) rfl (Nat.le_of_ble_eq_true rfl) dX9_act_64 rfl ?_
                refine aw_iload X (pc := 67) 0 rfl dX9_act_67 ?_
                refine aw_icmp_ne X (pc := 69) (tgt := 74) (by decide) dX9_act_69 (fun c39 => ?_) (fun c39 => ?_)
                · refine aw_aload_n X (pc := 74) 2 rfl rfl dX9_act_74 ?_
                  refine aw_iload_n X (pc := 75) 3 rfl rfl dX9_act_75 ?_
                  refine aw_iload_n X (pc := 76) 1 rfl rfl dX9_act_76 ?_
                  refine aw_iload X (pc := 77) 0 rfl dX9_act_77 ?_
                  refine aw_callV X (pc := 79) (q1 := 0) (rest := []) (st' := []) (ws' := (mW q kc (upd a (300 + 6 * tag.toNatClampNeg + 1) 1) w hs inn sp lone lt lz dr)) (c_X9_sets l D q kc a w hs inn sp lone lt lz dr tag 1 tag.toNatClampNeg 1 1 ht2 rfl (by omega)) rfl rfl [0, 1, 2, 3, 4, 5, 6, 7, 8] [0, 1, 2, 3, 4, 5, 6, 7] rfl rfl rfl rfl ⟨_, _, rfl⟩ rfl cf_X9_52 cd_X9_sets dd_X9_sets (by decide) (by decide) (by decide) rfl (Nat.le_of_ble_eq_true rfl) dX9_act_79 rfl ?_
                  have ha40 : (upd a (300 + 6 * tag.toNatClampNeg + 1) 1) 0 = nI n := by rw [pk_un (by omega)]; exact ha0
                  refine aw_iconst X (pc := 82) (v := 1) dX9_act_82 (by decide) ?_
                  exact aw_zret X (v := 1) rfl hQ (by simp only [r_X9_act, if_neg c1, if_neg c4, if_pos c5, if_pos c23, if_neg c24, if_neg c33, if_pos c36, if_neg c39]; try rfl) (by simp only [u_X9_act_a, if_neg c1, if_neg c4, if_pos c5, if_pos c23, if_neg c24, if_neg c33, if_pos c36, if_neg c39]) dX9_act_83
                · refine aw_iconst X (pc := 72) (v := 0) dX9_act_72 (by decide) ?_
                  exact aw_zret X (v := 0) rfl hQ (by simp only [r_X9_act, if_neg c1, if_neg c4, if_pos c5, if_pos c23, if_neg c24, if_neg c33, if_pos c36, if_pos c39]; try rfl) (by simp only [u_X9_act_a, if_neg c1, if_neg c4, if_pos c5, if_pos c23, if_neg c24, if_neg c33, if_pos c36, if_pos c39]) dX9_act_73
        · refine aw_iconst X (pc := 31) (v := 0) dX9_act_31 (by decide) ?_
          exact aw_zret X (v := 0) rfl hQ (by simp only [r_X9_act, if_neg c1, if_neg c4, if_pos c5, if_neg c23]; try rfl) (by simp only [u_X9_act_a, if_neg c1, if_neg c4, if_pos c5, if_neg c23]) dX9_act_32

def r_X9_group (a : Nat → Int32) (w : Nat → Int64) (n : Nat) (mask : Int64) (bits : Int64) : Int32 := (lpF (b_X9_listening_4 a (vp_updL (vp_updL w 0 mask) 1 bits)) n 0 0)
abbrev rm_X9_group : Room := { frames := 3, cells := 0, slots := 0, locals := 65 }
set_option maxHeartbeats 4000000 in
set_option maxRecDepth 100000 in
theorem c_X9_group (l : Launch) (D : va_G) (q : Nat → Nat) (kc : Nat → ClassId) (a : Nat → Int32) (w : Nat → Int64) (hs : Nat → Int32) (inn : Nat → Int32) (sp : Nat → Int32) (lone : Int32) (lt : Nat → Int64) (lz : Nat → Int32) (dr : Nat → Int32) (n : Nat) (mask : Int64) (bits : Int64) (ha0 : a 0 = nI n) (hn : n ≤ 40) : MW l D yX9_group (Cond.code yX9_group cX9_group 5 (some .int) :: TT) rm_X9_group [.ref (q 0), .long mask, .long bits] [(kc 1, .int), (kc 2, .long), (kc 3, .boolean), (kc 4, .boolean), (kc 5, .boolean), (kc 6, .long), (kc 7, .int), (kc 8, .int)] (mW q kc a w hs inn sp lone lt lz dr) (some (.int (r_X9_group a w n mask bits))) (mW q kc a (vp_updL (vp_updL w 0 mask) 1 bits) hs inn sp lone lt lz dr) := by
  refine MW.of (cc := cX9_group) (nL := 5) (ret := (some .int)) (lv := [(0, .ref (q 0)), (1, .long mask), (3, .long bits)]) (by decide) rfl rfl (Nat.le_of_ble_eq_true rfl) ?_
  intro p e s m args below meth c A Q hQ X
  refine aw_aload_n X (pc := 0) 0 rfl rfl dX9_group_0 ?_
  refine aw_get X (pc := 1) iX9 0 1 rfl rfl (by decide) fl_X9_13 rfl dX9_group_1 ?_
  refine aw_iconst X (pc := 4) (v := 0) dX9_group_4 (by decide) ?_
  refine aw_lload_n X (pc := 5) 1 rfl rfl dX9_group_5 ?_
  refine aw_last X (pc := 6) 2 1 (ws' := (mW q kc a (vp_updL w 0 mask) hs inn sp lone lt lz dr)) 0 rfl  rfl rfl (by decide) (by omega) rfl dX9_group_6 ?_
  refine aw_aload_n X (pc := 7) 0 rfl rfl dX9_group_7 ?_
  refine aw_get X (pc := 8) iX9 0 1 rfl rfl (by decide) fl_X9_13 rfl dX9_group_8 ?_
  refine aw_iconst X (pc := 11) (v := 1) dX9_group_11 (by decide) ?_
  refine aw_lload_n X (pc := 12) 2 rfl rfl dX9_group_12 ?_
  refine aw_last X (pc := 13) 2 1 (ws' := (mW q kc a (vp_updL (vp_updL w 0 mask) 1 bits) hs inn sp lone lt lz dr)) 1 rfl  rfl rfl (by decide) (by omega) rfl dX9_group_13 ?_
  refine aw_aload_n X (pc := 14) 0 rfl rfl dX9_group_14 ?_
  refine aw_callV X (pc := 15) (q1 := 0) (rest := []) (st' := [.int (lpF (b_X9_listening_4 a (vp_updL (vp_updL w 0 mask) 1 bits)) n 0 0)]) (ws' := (mW q kc a (vp_updL (vp_updL w 0 mask) 1 bits) hs inn sp lone lt lz dr)) (c_X9_listening l D q kc a (vp_updL (vp_updL w 0 mask) 1 bits) hs inn sp lone lt lz dr n ha0 (by omega)) rfl rfl [0, 1, 2, 3, 4, 5, 6, 7, 8] [0, 1, 2, 3, 4, 5, 6, 7] rfl rfl rfl rfl ⟨_, _, rfl⟩ rfl cf_X9_65 cd_X9_listening dd_X9_listening (by decide) (by decide) (by decide) rfl (Nat.le_of_ble_eq_true rfl) dX9_group_15 rfl ?_
  exact aw_iret X (v := (lpF (b_X9_listening_4 a (vp_updL (vp_updL w 0 mask) 1 bits)) n 0 0)) hQ rfl rfl dX9_group_18

def fN (f : Nat) : Nat := if f = 200 then 200 else f + 1
theorem fN_le {f : Nat} (h : f ≤ 200) : fN f ≤ 200 := by unfold fN; split <;> omega

def u_X9_finds_a (a : Nat → Int32) (f : Nat) (t : Int32) : Nat → Int32 := if a 15 = 200 then a else (upd (upd a (100 + f) t) 15 (nI (f + 1)))
abbrev rm_X9_finds : Room := { frames := 0, cells := 0, slots := 0, locals := 0 }
set_option maxHeartbeats 4000000 in
set_option maxRecDepth 100000 in
theorem c_X9_finds (l : Launch) (D : va_G) (q : Nat → Nat) (kc : Nat → ClassId) (a : Nat → Int32) (w : Nat → Int64) (hs : Nat → Int32) (inn : Nat → Int32) (sp : Nat → Int32) (lone : Int32) (lt : Nat → Int64) (lz : Nat → Int32) (dr : Nat → Int32) (f : Nat) (t : Int32) (ha15 : a 15 = nI f) (hf : f ≤ 200) : MW l D yX9_finds (Cond.code yX9_finds cX9_finds 2 none :: TT) rm_X9_finds [.ref (q 0), .int t] [(kc 1, .int), (kc 2, .long), (kc 3, .boolean), (kc 4, .boolean), (kc 5, .boolean), (kc 6, .long), (kc 7, .int), (kc 8, .int)] (mW q kc a w hs inn sp lone lt lz dr) none (mW q kc (u_X9_finds_a a f t) w hs inn sp lone lt lz dr) := by
  refine MW.of (cc := cX9_finds) (nL := 2) (ret := none) (lv := [(0, .ref (q 0)), (1, .int t)]) (by decide) rfl rfl (Nat.le_of_ble_eq_true rfl) ?_
  intro p e s m args below meth c A Q hQ X
  refine aw_aload_n X (pc := 0) 0 rfl rfl dX9_finds_0 ?_
  refine aw_get X (pc := 1) iX9 0 0 rfl rfl (by decide) fl_X9_7 rfl dX9_finds_1 ?_
  refine aw_bipush X (pc := 4) (v := 15) dX9_finds_4 (by decide) ?_
  refine aw_iald X (pc := 6) 1 0 15 rfl rfl rfl (by decide) (by omega) dX9_finds_6 ?_
  refine aw_sipush X (pc := 7) (v := 200) dX9_finds_7 (by decide) ?_
  refine aw_icmp_ne X (pc := 10) (tgt := 14) (by decide) dX9_finds_10 (fun c1 => ?_) (fun c1 => ?_)
  · have hf200 : f ≠ 200 := fun z => c1 (by rw [ha15, z]; rfl)
    refine aw_aload_n X (pc := 14) 0 rfl rfl dX9_finds_14 ?_
    refine aw_get X (pc := 15) iX9 0 0 rfl rfl (by decide) fl_X9_7 rfl dX9_finds_15 ?_
    refine aw_bipush X (pc := 18) (v := 100) dX9_finds_18 (by decide) ?_
    refine aw_aload_n X (pc := 20) 0 rfl rfl dX9_finds_20 ?_
    refine aw_get X (pc := 21) iX9 0 0 rfl rfl (by decide) fl_X9_7 rfl dX9_finds_21 ?_
    refine aw_bipush X (pc := 24) (v := 15) dX9_finds_24 (by decide) ?_
    refine aw_iald X (pc := 26) 1 0 15 rfl rfl rfl (by decide) (by omega) dX9_finds_26 ?_
    refine aw_iadd X (pc := 27) (z := nI (100 + f)) (nn_add (a := 100) (b := f) rfl ha15 (by first | rfl | omega))  dX9_finds_27 ?_
    refine aw_iload_n X (pc := 28) 1 rfl rfl dX9_finds_28 ?_
    refine aw_iast X (pc := 29) 1 0 (ws' := (mW q kc (upd a (100 + f) t) w hs inn sp lone lt lz dr)) (100 + f) rfl  rfl rfl (by decide) (by omega) rfl dX9_finds_29 ?_
    have ha2 : (upd a (100 + f) t) 15 = nI f := by rw [pk_un (by omega)]; exact ha15
    refine aw_aload_n X (pc := 30) 0 rfl rfl dX9_finds_30 ?_
    refine aw_get X (pc := 31) iX9 0 0 rfl rfl (by decide) fl_X9_7 rfl dX9_finds_31 ?_
    refine aw_bipush X (pc := 34) (v := 15) dX9_finds_34 (by decide) ?_
    refine aw_dup2_11 X (pc := 36) dX9_finds_36 rfl rfl ?_
    refine aw_iald X (pc := 37) 1 0 15 rfl rfl rfl (by decide) (by omega) dX9_finds_37 ?_
    refine aw_iconst X (pc := 38) (v := 1) dX9_finds_38 (by decide) ?_
    refine aw_iadd X (pc := 39) (z := nI (f + 1)) (nn_add (a := f) (b := 1) ha2 rfl (by first | rfl | omega))  dX9_finds_39 ?_
    refine aw_iast X (pc := 40) 1 0 (ws' := (mW q kc (upd (upd a (100 + f) t) 15 (nI (f + 1))) w hs inn sp lone lt lz dr)) 15 rfl  rfl rfl (by decide) (by omega) rfl dX9_finds_40 ?_
    have ha3 : (upd (upd a (100 + f) t) 15 (nI (f + 1))) 15 = nI (f + 1) := pk_us.trans rfl
    exact aw_vret X hQ rfl (by simp only [u_X9_finds_a, if_neg c1]) dX9_finds_41
  · exact aw_vret X hQ rfl (by simp only [u_X9_finds_a, if_pos c1]) dX9_finds_13

theorem fr_X9_finds {a : Nat → Int32} {f : Nat} {t : Int32} {j : Nat} (h : j < 15) : u_X9_finds_a a f t j = a j := by
  unfold u_X9_finds_a
  split
  · rfl
  · rw [pk_un (by omega), pk_un (by omega)]
theorem fin_15 {a : Nat → Int32} {f : Nat} {t : Int32} (h : a 15 = nI f) (hf : f ≤ 200) : u_X9_finds_a a f t 15 = nI (fN f) := by
  unfold u_X9_finds_a fN
  by_cases h2 : f = 200
  · subst h2; rw [if_pos (by rw [h]; rfl), if_pos rfl, h]
  · rw [if_neg (nn_ne (y := 200) (b := 200) h rfl h2 (by omega) (by decide)), if_neg h2, pk_us]

def b_X9_allIn_2 (a : Nat → Int32) (w : Nat → Int64) (k : Nat) (σ : (Nat → Int32)) : (Nat → Int32) := upd σ k (r_X9_listens a w k)
abbrev rm_X9_allIn : Room := { frames := 2, cells := 0, slots := 0, locals := 43 }
set_option maxHeartbeats 4000000 in
set_option maxRecDepth 100000 in
theorem c_X9_allIn (l : Launch) (D : va_G) (q : Nat → Nat) (kc : Nat → ClassId) (a : Nat → Int32) (w : Nat → Int64) (hs : Nat → Int32) (inn : Nat → Int32) (sp : Nat → Int32) (lone : Int32) (lt : Nat → Int64) (lz : Nat → Int32) (dr : Nat → Int32) (n : Nat) (ha0 : a 0 = nI n) (hn : n ≤ 40) : MW l D yX9_allIn (Cond.code yX9_allIn cX9_allIn 2 none :: TT) rm_X9_allIn [.ref (q 0)] [(kc 1, .int), (kc 2, .long), (kc 3, .boolean), (kc 4, .boolean), (kc 5, .boolean), (kc 6, .long), (kc 7, .int), (kc 8, .int)] (mW q kc a w hs inn sp lone lt lz dr) none (mW q kc a w hs (lpF (b_X9_allIn_2 a w) n 0 inn) sp lone lt lz dr) := by
  refine MW.of (cc := cX9_allIn) (nL := 2) (ret := none) (lv := [(0, .ref (q 0))]) (by decide) rfl rfl (Nat.le_of_ble_eq_true rfl) ?_
  intro p e s m args below meth c A Q hQ X
  refine aw_iconst X (pc := 0) (v := 0) dX9_allIn_0 (by decide) ?_
  refine aw_istore_n X (pc := 1) (lv' := [(1, .int 0), (0, .ref (q 0))]) rfl (by decide) rfl dX9_allIn_1 ?_
  have L1 : ∀ (n1 k : Nat) (iv : Nat → Int32), k + n1 = n → lpF (b_X9_allIn_2 a w) n1 k iv = lpF (b_X9_allIn_2 a w) n 0 inn → AW p l e rm_X9_allIn s m args below meth c D A 2 0 0 Q 2 [(1, .int (nI k)), (0, .ref (q 0))] [] (mW q kc a w hs iv sp lone lt lz dr) := by
    intro n1; induction n1 with
    | zero =>
      intro k iv hk1  hf1
      have hf1 : iv = lpF (b_X9_allIn_2 a w) n 0 inn := hf1
      refine aw_iload_n X (pc := 2) 0 rfl rfl dX9_allIn_2 ?_
      refine aw_aload_n X (pc := 3) 1 rfl rfl dX9_allIn_3 ?_
      refine aw_get X (pc := 4) iX9 0 0 rfl rfl (by decide) fl_X9_7 rfl dX9_allIn_4 ?_
      refine aw_iconst X (pc := 7) (v := 0) dX9_allIn_7 (by decide) ?_
      refine aw_iald X (pc := 8) 1 0 0 rfl rfl rfl (by decide) (by omega) dX9_allIn_8 ?_
      refine aw_icmp_ge X (pc := 9) (tgt := 29) (by decide) dX9_allIn_9 (fun c4 => ?_) (fun c4 => absurd (nn_le (a := n) (b := k) ha0 rfl (by omega) (by omega)) c4)
      exact aw_vret X hQ rfl (by simp only [← hf1]) dX9_allIn_29
    | succ n1 ih1 =>
      intro k iv hk1  hf1
      have hf1 : lpF (b_X9_allIn_2 a w) n1 (k + 1) (b_X9_allIn_2 a w k iv) = lpF (b_X9_allIn_2 a w) n 0 inn := hf1
      refine aw_iload_n X (pc := 2) 0 rfl rfl dX9_allIn_2 ?_
      refine aw_aload_n X (pc := 3) 1 rfl rfl dX9_allIn_3 ?_
      refine aw_get X (pc := 4) iX9 0 0 rfl rfl (by decide) fl_X9_7 rfl dX9_allIn_4 ?_
      refine aw_iconst X (pc := 7) (v := 0) dX9_allIn_7 (by decide) ?_
      refine aw_iald X (pc := 8) 1 0 0 rfl rfl rfl (by decide) (by omega) dX9_allIn_8 ?_
      refine aw_icmp_ge X (pc := 9) (tgt := 29) (by decide) dX9_allIn_9 (fun c2 => absurd c2 (nn_nle (a := n) (b := k) ha0 rfl (by omega) (by omega))) (fun c2 => ?_)
      refine aw_aload_n X (pc := 12) 1 rfl rfl dX9_allIn_12 ?_
      refine aw_get X (pc := 13) iX9 0 3 rfl rfl (by decide) fl_X9_21 rfl dX9_allIn_13 ?_
      refine aw_iload_n X (pc := 16) 0 rfl rfl dX9_allIn_16 ?_
      refine aw_aload_n X (pc := 17) 1 rfl rfl dX9_allIn_17 ?_
      refine aw_iload_n X (pc := 18) 0 rfl rfl dX9_allIn_18 ?_
      refine aw_callV X (pc := 19) (q1 := 0) (rest := [.int (nI k), .ref (q 4)]) (st' := [.int (r_X9_listens a w k), .int (nI k), .ref (q 4)]) (ws' := (mW q kc a w hs iv sp lone lt lz dr)) (c_X9_listens l D q kc a w hs iv sp lone lt lz dr (nI k) k rfl (by omega)) rfl rfl [0, 1, 2, 3, 4, 5, 6, 7, 8] [0, 1, 2, 3, 4, 5, 6, 7] rfl rfl rfl rfl ⟨_, _, rfl⟩ rfl cf_X9_62 cd_X9_listens dd_X9_listens (by decide) (by decide) (by decide) rfl (Nat.le_of_ble_eq_true rfl) dX9_allIn_19 rfl ?_
      refine aw_zast X (pc := 22) 4 3 (ws' := (mW q kc a w hs (upd iv k (r_X9_listens a w k)) sp lone lt lz dr)) k rfl (nar_01 (z_X9_listens ..)) rfl rfl (by decide) (by omega) rfl dX9_allIn_22 ?_
      refine aw_iinc X (pc := 23) (kx := 0) (v := nI (k + 1)) (lv' := [(1, .int (nI (k + 1))), (0, .ref (q 0))]) rfl (nn_add (a := k) (b := 1) rfl rfl rfl) (by decide) rfl dX9_allIn_23 ?_
      refine aw_goto X (pc := 26) (tgt := 2) (by decide) dX9_allIn_26 ?_
      have e3 : b_X9_allIn_2 a w k iv = upd iv k (r_X9_listens a w k) := by first | rfl | simp only [b_X9_allIn_2]
      exact aw_sub (lv' := [(1, .int (nI (k + 1))), (0, .ref (q 0))]) [0, 1] rfl (ih1 (k + 1) (upd iv k (r_X9_listens a w k)) (by omega)  (by rw [← e3]; exact hf1))
  exact aw_sub (lv' := [(1, .int 0), (0, .ref (q 0))]) [0, 1] rfl (L1 n 0 inn (by omega)  rfl)

def b_X9_tellers_5 (w : Nat → Int64) (inn : Nat → Int32) (i : Int32) (bit : Int32) (k : Nat) (σ : Int32) : Int32 := if inn k = 0 then (σ + 0) else (if r_X9_bitOf (w (84 + k)) i = bit then (σ + 1) else (σ + 0))
def r_X9_tellers (w : Nat → Int64) (inn : Nat → Int32) (n : Nat) (i : Int32) (bit : Int32) : Int32 := (lpF (b_X9_tellers_5 w inn i bit) n 0 0)
abbrev rm_X9_tellers : Room := { frames := 1, cells := 0, slots := 0, locals := 22 }
set_option maxHeartbeats 4000000 in
set_option maxRecDepth 100000 in
theorem c_X9_tellers (l : Launch) (D : va_G) (q : Nat → Nat) (kc : Nat → ClassId) (a : Nat → Int32) (w : Nat → Int64) (hs : Nat → Int32) (inn : Nat → Int32) (sp : Nat → Int32) (lone : Int32) (lt : Nat → Int64) (lz : Nat → Int32) (dr : Nat → Int32) (n : Nat) (i : Int32) (bit : Int32) (ha0 : a 0 = nI n) (hn : n ≤ 40) : MW l D yX9_tellers (Cond.code yX9_tellers cX9_tellers 5 (some .int) :: TT) rm_X9_tellers [.ref (q 0), .int i, .int bit] [(kc 1, .int), (kc 2, .long), (kc 3, .boolean), (kc 4, .boolean), (kc 5, .boolean), (kc 6, .long), (kc 7, .int), (kc 8, .int)] (mW q kc a w hs inn sp lone lt lz dr) (some (.int (r_X9_tellers w inn n i bit))) (mW q kc a w hs inn sp lone lt lz dr) := by
  refine MW.of (cc := cX9_tellers) (nL := 5) (ret := (some .int)) (lv := [(0, .ref (q 0)), (1, .int i), (2, .int bit)]) (by decide) rfl rfl (Nat.le_of_ble_eq_true rfl) ?_
  intro p e s m args below meth c A Q hQ X
  refine aw_iconst X (pc := 0) (v := 0) dX9_tellers_0 (by decide) ?_
  refine aw_istore_n X (pc := 1) (lv' := [(3, .int 0), (0, .ref (q 0)), (1, .int i), (2, .int bit)]) rfl (by decide) rfl dX9_tellers_1 ?_
  refine aw_iconst X (pc := 2) (v := 0) dX9_tellers_2 (by decide) ?_
  refine aw_istore X (pc := 3) (lv' := [(4, .int 0), (3, .int 0), (0, .ref (q 0)), (1, .int i), (2, .int bit)]) (by decide) rfl dX9_tellers_3 ?_
  have L1 : ∀ (n1 k : Nat) (ct : Int32), k + n1 = n → lpF (b_X9_tellers_5 w inn i bit) n1 k ct = lpF (b_X9_tellers_5 w inn i bit) n 0 0 → AW p l e rm_X9_tellers s m args below meth c D A 5 0 0 Q 5 [(4, .int (nI k)), (3, .int ct), (0, .ref (q 0)), (1, .int i), (2, .int bit)] [] (mW q kc a w hs inn sp lone lt lz dr) := by
    intro n1; induction n1 with
    | zero =>
      intro k ct hk1  hf1
      have hf1 : ct = lpF (b_X9_tellers_5 w inn i bit) n 0 0 := hf1
      refine aw_iload X (pc := 5) 0 rfl dX9_tellers_5 ?_
      refine aw_aload_n X (pc := 7) 2 rfl rfl dX9_tellers_7 ?_
      refine aw_get X (pc := 8) iX9 0 0 rfl rfl (by decide) fl_X9_7 rfl dX9_tellers_8 ?_
      refine aw_iconst X (pc := 11) (v := 0) dX9_tellers_11 (by decide) ?_
      refine aw_iald X (pc := 12) 1 0 0 rfl rfl rfl (by decide) (by omega) dX9_tellers_12 ?_
      refine aw_icmp_ge X (pc := 13) (tgt := 58) (by decide) dX9_tellers_13 (fun c8 => ?_) (fun c8 => absurd (nn_le (a := n) (b := k) ha0 rfl (by omega) (by omega)) c8)
      refine aw_iload_n X (pc := 58) 1 rfl rfl dX9_tellers_58 ?_
      exact aw_iret X (v := ct) hQ (by simp only [r_X9_tellers, ← hf1]; try rfl) rfl dX9_tellers_59
    | succ n1 ih1 =>
      intro k ct hk1  hf1
      have hf1 : lpF (b_X9_tellers_5 w inn i bit) n1 (k + 1) (b_X9_tellers_5 w inn i bit k ct) = lpF (b_X9_tellers_5 w inn i bit) n 0 0 := hf1
      refine aw_iload X (pc := 5) 0 rfl dX9_tellers_5 ?_
      refine aw_aload_n X (pc := 7) 2 rfl rfl dX9_tellers_7 ?_
      refine aw_get X (pc := 8) iX9 0 0 rfl rfl (by decide) fl_X9_7 rfl dX9_tellers_8 ?_
      refine aw_iconst X (pc := 11) (v := 0) dX9_tellers_11 (by decide) ?_
      refine aw_iald X (pc := 12) 1 0 0 rfl rfl rfl (by decide) (by omega) dX9_tellers_12 ?_
      refine aw_icmp_ge X (pc := 13) (tgt := 58) (by decide) dX9_tellers_13 (fun c2 => absurd c2 (nn_nle (a := n) (b := k) ha0 rfl (by omega) (by omega))) (fun c2 => ?_)
      refine aw_iload_n X (pc := 16) 1 rfl rfl dX9_tellers_16 ?_
      refine aw_aload_n X (pc := 17) 2 rfl rfl dX9_tellers_17 ?_
      refine aw_get X (pc := 18) iX9 0 3 rfl rfl (by decide) fl_X9_21 rfl dX9_tellers_18 ?_
      refine aw_iload X (pc := 21) 0 rfl dX9_tellers_21 ?_
      refine aw_zald X (pc := 23) 4 3 k rfl rfl rfl (by decide) (by omega) dX9_tellers_23 ?_
      refine aw_if_eq X (pc := 24) (tgt := 49) (by decide) dX9_tellers_24 (fun c3 => ?_) (fun c3 => ?_)
      · refine aw_iconst X (pc := 49) (v := 0) dX9_tellers_49 (by decide) ?_
        refine aw_iadd X (pc := 50) (z := ct + 0) rfl  dX9_tellers_50 ?_
        refine aw_istore_n X (pc := 51) (lv' := [(3, .int (ct + 0)), (4, .int (nI k)), (0, .ref (q 0)), (1, .int i), (2, .int bit)]) rfl (by decide) rfl dX9_tellers_51 ?_
        refine aw_iinc X (pc := 52) (kx := 1) (v := nI (k + 1)) (lv' := [(4, .int (nI (k + 1))), (3, .int (ct + 0)), (0, .ref (q 0)), (1, .int i), (2, .int bit)]) rfl (nn_add (a := k) (b := 1) rfl rfl rfl) (by decide) rfl dX9_tellers_52 ?_
        refine aw_goto X (pc := 55) (tgt := 5) (by decide) dX9_tellers_55 ?_
        have e4 : b_X9_tellers_5 w inn i bit k ct = ct + 0 := by simp only [b_X9_tellers_5, if_pos c3]
        exact aw_sub (lv' := [(4, .int (nI (k + 1))), (3, .int (ct + 0)), (0, .ref (q 0)), (1, .int i), (2, .int bit)]) [0, 1, 2, 3, 4] rfl (ih1 (k + 1) (ct + 0) (by omega)  (by rw [← e4]; exact hf1))
      · refine aw_aload_n X (pc := 27) 2 rfl rfl dX9_tellers_27 ?_
        refine aw_get X (pc := 28) iX9 0 1 rfl rfl (by decide) fl_X9_13 rfl dX9_tellers_28 ?_
        refine aw_bipush X (pc := 31) (v := 84) dX9_tellers_31 (by decide) ?_
        refine aw_iload X (pc := 33) 0 rfl dX9_tellers_33 ?_
        refine aw_iadd X (pc := 35) (z := nI (84 + k)) (nn_add (a := 84) (b := k) rfl rfl (by first | rfl | omega))  dX9_tellers_35 ?_
        refine aw_lald X (pc := 36) 2 1 (84 + k) rfl rfl rfl (by decide) (by omega) dX9_tellers_36 ?_
        refine aw_iload_n X (pc := 37) 3 rfl rfl dX9_tellers_37 ?_
        refine aw_callS X (pc := 38) (rest := [.int ct]) (st' := [.int (r_X9_bitOf (w (84 + k)) i), .int ct]) (ws' := (mW q kc a w hs inn sp lone lt lz dr)) (c_X9_bitOf l D (w (84 + k)) i) rfl [] [] rfl rfl rfl rfl cf_X9_40 cd_X9_bitOf dd_X9_bitOf (by decide) (by decide) (by decide) rfl (Nat.le_of_ble_eq_true rfl) dX9_tellers_38 rfl ?_
        refine aw_iload_n X (pc := 41) 4 rfl rfl dX9_tellers_41 ?_
        refine aw_icmp_ne X (pc := 42) (tgt := 49) (by decide) dX9_tellers_42 (fun c5 => ?_) (fun c5 => ?_)
        · refine aw_iconst X (pc := 49) (v := 0) dX9_tellers_49 (by decide) ?_
          refine aw_iadd X (pc := 50) (z := ct + 0) rfl  dX9_tellers_50 ?_
          refine aw_istore_n X (pc := 51) (lv' := [(3, .int (ct + 0)), (4, .int (nI k)), (0, .ref (q 0)), (1, .int i), (2, .int bit)]) rfl (by decide) rfl dX9_tellers_51 ?_
          refine aw_iinc X (pc := 52) (kx := 1) (v := nI (k + 1)) (lv' := [(4, .int (nI (k + 1))), (3, .int (ct + 0)), (0, .ref (q 0)), (1, .int i), (2, .int bit)]) rfl (nn_add (a := k) (b := 1) rfl rfl rfl) (by decide) rfl dX9_tellers_52 ?_
          refine aw_goto X (pc := 55) (tgt := 5) (by decide) dX9_tellers_55 ?_
          have e6 : b_X9_tellers_5 w inn i bit k ct = ct + 0 := by simp only [b_X9_tellers_5, if_neg c3, if_neg c5]
          exact aw_sub (lv' := [(4, .int (nI (k + 1))), (3, .int (ct + 0)), (0, .ref (q 0)), (1, .int i), (2, .int bit)]) [0, 1, 2, 3, 4] rfl (ih1 (k + 1) (ct + 0) (by omega)  (by rw [← e6]; exact hf1))
        · refine aw_iconst X (pc := 45) (v := 1) dX9_tellers_45 (by decide) ?_
          refine aw_goto X (pc := 46) (tgt := 50) (by decide) dX9_tellers_46 ?_
          refine aw_iadd X (pc := 50) (z := ct + 1) rfl  dX9_tellers_50 ?_
          refine aw_istore_n X (pc := 51) (lv' := [(3, .int (ct + 1)), (4, .int (nI k)), (0, .ref (q 0)), (1, .int i), (2, .int bit)]) rfl (by decide) rfl dX9_tellers_51 ?_
          refine aw_iinc X (pc := 52) (kx := 1) (v := nI (k + 1)) (lv' := [(4, .int (nI (k + 1))), (3, .int (ct + 1)), (0, .ref (q 0)), (1, .int i), (2, .int bit)]) rfl (nn_add (a := k) (b := 1) rfl rfl rfl) (by decide) rfl dX9_tellers_52 ?_
          refine aw_goto X (pc := 55) (tgt := 5) (by decide) dX9_tellers_55 ?_
          have e7 : b_X9_tellers_5 w inn i bit k ct = ct + 1 := by simp only [b_X9_tellers_5, if_neg c3, if_pos c5]
          exact aw_sub (lv' := [(4, .int (nI (k + 1))), (3, .int (ct + 1)), (0, .ref (q 0)), (1, .int i), (2, .int bit)]) [0, 1, 2, 3, 4] rfl (ih1 (k + 1) (ct + 1) (by omega)  (by rw [← e7]; exact hf1))
  exact aw_sub (lv' := [(4, .int 0), (3, .int 0), (0, .ref (q 0)), (1, .int i), (2, .int bit)]) [0, 1, 2, 3, 4] rfl (L1 n 0 0 (by omega)  rfl)

def b_X9_goesOn_2 (w : Nat → Int64) (i : Int32) (bit : Int32) (k : Nat) (σ : (Nat → Int32)) : (Nat → Int32) := if σ k = 0 then (upd σ k 0) else (if r_X9_bitOf (w (84 + k)) i = bit then (upd σ k 1) else (upd σ k 0))
abbrev rm_X9_goesOn : Room := { frames := 1, cells := 0, slots := 0, locals := 22 }
set_option maxHeartbeats 4000000 in
set_option maxRecDepth 100000 in
theorem c_X9_goesOn (l : Launch) (D : va_G) (q : Nat → Nat) (kc : Nat → ClassId) (a : Nat → Int32) (w : Nat → Int64) (hs : Nat → Int32) (inn : Nat → Int32) (sp : Nat → Int32) (lone : Int32) (lt : Nat → Int64) (lz : Nat → Int32) (dr : Nat → Int32) (n : Nat) (i : Int32) (bit : Int32) (ha0 : a 0 = nI n) (hn : n ≤ 40) : MW l D yX9_goesOn (Cond.code yX9_goesOn cX9_goesOn 4 none :: TT) rm_X9_goesOn [.ref (q 0), .int i, .int bit] [(kc 1, .int), (kc 2, .long), (kc 3, .boolean), (kc 4, .boolean), (kc 5, .boolean), (kc 6, .long), (kc 7, .int), (kc 8, .int)] (mW q kc a w hs inn sp lone lt lz dr) none (mW q kc a w hs (lpF (b_X9_goesOn_2 w i bit) n 0 inn) sp lone lt lz dr) := by
  refine MW.of (cc := cX9_goesOn) (nL := 4) (ret := none) (lv := [(0, .ref (q 0)), (1, .int i), (2, .int bit)]) (by decide) rfl rfl (Nat.le_of_ble_eq_true rfl) ?_
  intro p e s m args below meth c A Q hQ X
  refine aw_iconst X (pc := 0) (v := 0) dX9_goesOn_0 (by decide) ?_
  refine aw_istore_n X (pc := 1) (lv' := [(3, .int 0), (0, .ref (q 0)), (1, .int i), (2, .int bit)]) rfl (by decide) rfl dX9_goesOn_1 ?_
  have L1 : ∀ (n1 k : Nat) (iv : Nat → Int32), k + n1 = n → lpF (b_X9_goesOn_2 w i bit) n1 k iv = lpF (b_X9_goesOn_2 w i bit) n 0 inn → AW p l e rm_X9_goesOn s m args below meth c D A 4 0 0 Q 2 [(3, .int (nI k)), (0, .ref (q 0)), (1, .int i), (2, .int bit)] [] (mW q kc a w hs iv sp lone lt lz dr) := by
    intro n1; induction n1 with
    | zero =>
      intro k iv hk1  hf1
      have hf1 : iv = lpF (b_X9_goesOn_2 w i bit) n 0 inn := hf1
      refine aw_iload_n X (pc := 2) 0 rfl rfl dX9_goesOn_2 ?_
      refine aw_aload_n X (pc := 3) 1 rfl rfl dX9_goesOn_3 ?_
      refine aw_get X (pc := 4) iX9 0 0 rfl rfl (by decide) fl_X9_7 rfl dX9_goesOn_4 ?_
      refine aw_iconst X (pc := 7) (v := 0) dX9_goesOn_7 (by decide) ?_
      refine aw_iald X (pc := 8) 1 0 0 rfl rfl rfl (by decide) (by omega) dX9_goesOn_8 ?_
      refine aw_icmp_ge X (pc := 9) (tgt := 55) (by decide) dX9_goesOn_9 (fun c8 => ?_) (fun c8 => absurd (nn_le (a := n) (b := k) ha0 rfl (by omega) (by omega)) c8)
      exact aw_vret X hQ rfl (by simp only [← hf1]) dX9_goesOn_55
    | succ n1 ih1 =>
      intro k iv hk1  hf1
      have hf1 : lpF (b_X9_goesOn_2 w i bit) n1 (k + 1) (b_X9_goesOn_2 w i bit k iv) = lpF (b_X9_goesOn_2 w i bit) n 0 inn := hf1
      refine aw_iload_n X (pc := 2) 0 rfl rfl dX9_goesOn_2 ?_
      refine aw_aload_n X (pc := 3) 1 rfl rfl dX9_goesOn_3 ?_
      refine aw_get X (pc := 4) iX9 0 0 rfl rfl (by decide) fl_X9_7 rfl dX9_goesOn_4 ?_
      refine aw_iconst X (pc := 7) (v := 0) dX9_goesOn_7 (by decide) ?_
      refine aw_iald X (pc := 8) 1 0 0 rfl rfl rfl (by decide) (by omega) dX9_goesOn_8 ?_
      refine aw_icmp_ge X (pc := 9) (tgt := 55) (by decide) dX9_goesOn_9 (fun c2 => absurd c2 (nn_nle (a := n) (b := k) ha0 rfl (by omega) (by omega))) (fun c2 => ?_)
      refine aw_aload_n X (pc := 12) 1 rfl rfl dX9_goesOn_12 ?_
      refine aw_get X (pc := 13) iX9 0 3 rfl rfl (by decide) fl_X9_21 rfl dX9_goesOn_13 ?_
      refine aw_iload_n X (pc := 16) 0 rfl rfl dX9_goesOn_16 ?_
      refine aw_aload_n X (pc := 17) 1 rfl rfl dX9_goesOn_17 ?_
      refine aw_get X (pc := 18) iX9 0 3 rfl rfl (by decide) fl_X9_21 rfl dX9_goesOn_18 ?_
      refine aw_iload_n X (pc := 21) 0 rfl rfl dX9_goesOn_21 ?_
      refine aw_zald X (pc := 22) 4 3 k rfl rfl rfl (by decide) (by omega) dX9_goesOn_22 ?_
      refine aw_if_eq X (pc := 23) (tgt := 47) (by decide) dX9_goesOn_23 (fun c3 => ?_) (fun c3 => ?_)
      · refine aw_iconst X (pc := 47) (v := 0) dX9_goesOn_47 (by decide) ?_
        refine aw_zast X (pc := 48) 4 3 (ws' := (mW q kc a w hs (upd iv k 0) sp lone lt lz dr)) k rfl (nar_01 (by decide)) rfl rfl (by decide) (by omega) rfl dX9_goesOn_48 ?_
        refine aw_iinc X (pc := 49) (kx := 0) (v := nI (k + 1)) (lv' := [(3, .int (nI (k + 1))), (0, .ref (q 0)), (1, .int i), (2, .int bit)]) rfl (nn_add (a := k) (b := 1) rfl rfl rfl) (by decide) rfl dX9_goesOn_49 ?_
        refine aw_goto X (pc := 52) (tgt := 2) (by decide) dX9_goesOn_52 ?_
        have e4 : b_X9_goesOn_2 w i bit k iv = upd iv k 0 := by simp only [b_X9_goesOn_2, if_pos c3]
        exact aw_sub (lv' := [(3, .int (nI (k + 1))), (0, .ref (q 0)), (1, .int i), (2, .int bit)]) [0, 1, 2, 3] rfl (ih1 (k + 1) (upd iv k 0) (by omega)  (by rw [← e4]; exact hf1))
      · refine aw_aload_n X (pc := 26) 1 rfl rfl dX9_goesOn_26 ?_
        refine aw_get X (pc := 27) iX9 0 1 rfl rfl (by decide) fl_X9_13 rfl dX9_goesOn_27 ?_
        refine aw_bipush X (pc := 30) (v := 84) dX9_goesOn_30 (by decide) ?_
        refine aw_iload_n X (pc := 32) 0 rfl rfl dX9_goesOn_32 ?_
        refine aw_iadd X (pc := 33) (z := nI (84 + k)) (nn_add (a := 84) (b := k) rfl rfl (by first | rfl | omega))  dX9_goesOn_33 ?_
        refine aw_lald X (pc := 34) 2 1 (84 + k) rfl rfl rfl (by decide) (by omega) dX9_goesOn_34 ?_
        refine aw_iload_n X (pc := 35) 2 rfl rfl dX9_goesOn_35 ?_
        refine aw_callS X (pc := 36) (rest := [.int (nI k), .ref (q 4)]) (st' := [.int (r_X9_bitOf (w (84 + k)) i), .int (nI k), .ref (q 4)]) (ws' := (mW q kc a w hs iv sp lone lt lz dr)) (c_X9_bitOf l D (w (84 + k)) i) rfl [] [] rfl rfl rfl rfl cf_X9_40 cd_X9_bitOf dd_X9_bitOf (by decide) (by decide) (by decide) rfl (Nat.le_of_ble_eq_true rfl) dX9_goesOn_36 rfl ?_
        refine aw_iload_n X (pc := 39) 3 rfl rfl dX9_goesOn_39 ?_
        refine aw_icmp_ne X (pc := 40) (tgt := 47) (by decide) dX9_goesOn_40 (fun c5 => ?_) (fun c5 => ?_)
        · refine aw_iconst X (pc := 47) (v := 0) dX9_goesOn_47 (by decide) ?_
          refine aw_zast X (pc := 48) 4 3 (ws' := (mW q kc a w hs (upd iv k 0) sp lone lt lz dr)) k rfl (nar_01 (by decide)) rfl rfl (by decide) (by omega) rfl dX9_goesOn_48 ?_
          refine aw_iinc X (pc := 49) (kx := 0) (v := nI (k + 1)) (lv' := [(3, .int (nI (k + 1))), (0, .ref (q 0)), (1, .int i), (2, .int bit)]) rfl (nn_add (a := k) (b := 1) rfl rfl rfl) (by decide) rfl dX9_goesOn_49 ?_
          refine aw_goto X (pc := 52) (tgt := 2) (by decide) dX9_goesOn_52 ?_
          have e6 : b_X9_goesOn_2 w i bit k iv = upd iv k 0 := by simp only [b_X9_goesOn_2, if_neg c3, if_neg c5]
          exact aw_sub (lv' := [(3, .int (nI (k + 1))), (0, .ref (q 0)), (1, .int i), (2, .int bit)]) [0, 1, 2, 3] rfl (ih1 (k + 1) (upd iv k 0) (by omega)  (by rw [← e6]; exact hf1))
        · refine aw_iconst X (pc := 43) (v := 1) dX9_goesOn_43 (by decide) ?_
          refine aw_goto X (pc := 44) (tgt := 48) (by decide) dX9_goesOn_44 ?_
          refine aw_zast X (pc := 48) 4 3 (ws' := (mW q kc a w hs (upd iv k 1) sp lone lt lz dr)) k rfl (nar_01 (by decide)) rfl rfl (by decide) (by omega) rfl dX9_goesOn_48 ?_
          refine aw_iinc X (pc := 49) (kx := 0) (v := nI (k + 1)) (lv' := [(3, .int (nI (k + 1))), (0, .ref (q 0)), (1, .int i), (2, .int bit)]) rfl (nn_add (a := k) (b := 1) rfl rfl rfl) (by decide) rfl dX9_goesOn_49 ?_
          refine aw_goto X (pc := 52) (tgt := 2) (by decide) dX9_goesOn_52 ?_
          have e7 : b_X9_goesOn_2 w i bit k iv = upd iv k 1 := by simp only [b_X9_goesOn_2, if_neg c3, if_pos c5]
          exact aw_sub (lv' := [(3, .int (nI (k + 1))), (0, .ref (q 0)), (1, .int i), (2, .int bit)]) [0, 1, 2, 3] rfl (ih1 (k + 1) (upd iv k 1) (by omega)  (by rw [← e7]; exact hf1))
  exact aw_sub (lv' := [(3, .int 0), (0, .ref (q 0)), (1, .int i), (2, .int bit)]) [0, 1, 2, 3] rfl (L1 n 0 inn (by omega)  rfl)

def b_X9_oneIn_4 (inn : Nat → Int32) (k : Nat) (σ : Int32) : Int32 := if inn k = 0 then σ else (nI k)
abbrev rm_X9_oneIn : Room := { frames := 0, cells := 0, slots := 0, locals := 0 }
set_option maxHeartbeats 4000000 in
set_option maxRecDepth 100000 in
theorem c_X9_oneIn (l : Launch) (D : va_G) (q : Nat → Nat) (kc : Nat → ClassId) (a : Nat → Int32) (w : Nat → Int64) (hs : Nat → Int32) (inn : Nat → Int32) (sp : Nat → Int32) (lone : Int32) (lt : Nat → Int64) (lz : Nat → Int32) (dr : Nat → Int32) (n : Nat) (ha0 : a 0 = nI n) (hn : n ≤ 40) : MW l D yX9_oneIn (Cond.code yX9_oneIn cX9_oneIn 3 (some .int) :: TT) rm_X9_oneIn [.ref (q 0)] [(kc 1, .int), (kc 2, .long), (kc 3, .boolean), (kc 4, .boolean), (kc 5, .boolean), (kc 6, .long), (kc 7, .int), (kc 8, .int)] (mW q kc a w hs inn sp lone lt lz dr) (some (.int (lpF (b_X9_oneIn_4 inn) n 0 (-1)))) (mW q kc a w hs inn sp lone lt lz dr) := by
  refine MW.of (cc := cX9_oneIn) (nL := 3) (ret := (some .int)) (lv := [(0, .ref (q 0))]) (by decide) rfl rfl (Nat.le_of_ble_eq_true rfl) ?_
  intro p e s m args below meth c A Q hQ X
  refine aw_iconst X (pc := 0) (v := (-1)) dX9_oneIn_0 (by decide) ?_
  refine aw_istore_n X (pc := 1) (lv' := [(1, .int (-1)), (0, .ref (q 0))]) rfl (by decide) rfl dX9_oneIn_1 ?_
  refine aw_iconst X (pc := 2) (v := 0) dX9_oneIn_2 (by decide) ?_
  refine aw_istore_n X (pc := 3) (lv' := [(2, .int 0), (1, .int (-1)), (0, .ref (q 0))]) rfl (by decide) rfl dX9_oneIn_3 ?_
  have L1 : ∀ (n1 k : Nat) (who : Int32), k + n1 = n → lpF (b_X9_oneIn_4 inn) n1 k who = lpF (b_X9_oneIn_4 inn) n 0 (-1) → AW p l e rm_X9_oneIn s m args below meth c D A 3 0 0 Q 4 [(2, .int (nI k)), (1, .int who), (0, .ref (q 0))] [] (mW q kc a w hs inn sp lone lt lz dr) := by
    intro n1; induction n1 with
    | zero =>
      intro k who hk1  hf1
      have hf1 : who = lpF (b_X9_oneIn_4 inn) n 0 (-1) := hf1
      refine aw_iload_n X (pc := 4) 0 rfl rfl dX9_oneIn_4 ?_
      refine aw_aload_n X (pc := 5) 2 rfl rfl dX9_oneIn_5 ?_
      refine aw_get X (pc := 6) iX9 0 0 rfl rfl (by decide) fl_X9_7 rfl dX9_oneIn_6 ?_
      refine aw_iconst X (pc := 9) (v := 0) dX9_oneIn_9 (by decide) ?_
      refine aw_iald X (pc := 10) 1 0 0 rfl rfl rfl (by decide) (by omega) dX9_oneIn_10 ?_
      refine aw_icmp_ge X (pc := 11) (tgt := 31) (by decide) dX9_oneIn_11 (fun c6 => ?_) (fun c6 => absurd (nn_le (a := n) (b := k) ha0 rfl (by omega) (by omega)) c6)
      refine aw_iload_n X (pc := 31) 1 rfl rfl dX9_oneIn_31 ?_
      exact aw_iret X (v := who) hQ (by simp only [← hf1]; try rfl) rfl dX9_oneIn_32
    | succ n1 ih1 =>
      intro k who hk1  hf1
      have hf1 : lpF (b_X9_oneIn_4 inn) n1 (k + 1) (b_X9_oneIn_4 inn k who) = lpF (b_X9_oneIn_4 inn) n 0 (-1) := hf1
      refine aw_iload_n X (pc := 4) 0 rfl rfl dX9_oneIn_4 ?_
      refine aw_aload_n X (pc := 5) 2 rfl rfl dX9_oneIn_5 ?_
      refine aw_get X (pc := 6) iX9 0 0 rfl rfl (by decide) fl_X9_7 rfl dX9_oneIn_6 ?_
      refine aw_iconst X (pc := 9) (v := 0) dX9_oneIn_9 (by decide) ?_
      refine aw_iald X (pc := 10) 1 0 0 rfl rfl rfl (by decide) (by omega) dX9_oneIn_10 ?_
      refine aw_icmp_ge X (pc := 11) (tgt := 31) (by decide) dX9_oneIn_11 (fun c2 => absurd c2 (nn_nle (a := n) (b := k) ha0 rfl (by omega) (by omega))) (fun c2 => ?_)
      refine aw_aload_n X (pc := 14) 2 rfl rfl dX9_oneIn_14 ?_
      refine aw_get X (pc := 15) iX9 0 3 rfl rfl (by decide) fl_X9_21 rfl dX9_oneIn_15 ?_
      refine aw_iload_n X (pc := 18) 0 rfl rfl dX9_oneIn_18 ?_
      refine aw_zald X (pc := 19) 4 3 k rfl rfl rfl (by decide) (by omega) dX9_oneIn_19 ?_
      refine aw_if_eq X (pc := 20) (tgt := 25) (by decide) dX9_oneIn_20 (fun c3 => ?_) (fun c3 => ?_)
      · refine aw_iinc X (pc := 25) (kx := 0) (v := nI (k + 1)) (lv' := [(2, .int (nI (k + 1))), (1, .int who), (0, .ref (q 0))]) rfl (nn_add (a := k) (b := 1) rfl rfl rfl) (by decide) rfl dX9_oneIn_25 ?_
        refine aw_goto X (pc := 28) (tgt := 4) (by decide) dX9_oneIn_28 ?_
        have e4 : b_X9_oneIn_4 inn k who = who := by simp only [b_X9_oneIn_4, if_pos c3]
        exact aw_sub (lv' := [(2, .int (nI (k + 1))), (1, .int who), (0, .ref (q 0))]) [0, 1, 2] rfl (ih1 (k + 1) who (by omega)  (by rw [← e4]; exact hf1))
      · refine aw_iload_n X (pc := 23) 0 rfl rfl dX9_oneIn_23 ?_
        refine aw_istore_n X (pc := 24) (lv' := [(1, .int (nI k)), (2, .int (nI k)), (0, .ref (q 0))]) rfl (by decide) rfl dX9_oneIn_24 ?_
        refine aw_iinc X (pc := 25) (kx := 1) (v := nI (k + 1)) (lv' := [(2, .int (nI (k + 1))), (1, .int (nI k)), (0, .ref (q 0))]) rfl (nn_add (a := k) (b := 1) rfl rfl rfl) (by decide) rfl dX9_oneIn_25 ?_
        refine aw_goto X (pc := 28) (tgt := 4) (by decide) dX9_oneIn_28 ?_
        have e5 : b_X9_oneIn_4 inn k who = nI k := by simp only [b_X9_oneIn_4, if_neg c3]
        exact aw_sub (lv' := [(2, .int (nI (k + 1))), (1, .int (nI k)), (0, .ref (q 0))]) [0, 1, 2] rfl (ih1 (k + 1) (nI k) (by omega)  (by rw [← e5]; exact hf1))
  exact aw_sub (lv' := [(2, .int 0), (1, .int (-1)), (0, .ref (q 0))]) [0, 1, 2] rfl (L1 n 0 (-1) (by omega)  rfl)

def r_X9_fork (a : Nat → Int32) (what : Int32) : Int32 := if what = 0 then (a 2) else (if what = 1 then (a 3) else (-1))
abbrev rm_X9_fork : Room := { frames := 0, cells := 0, slots := 0, locals := 0 }
set_option maxHeartbeats 4000000 in
set_option maxRecDepth 100000 in
theorem c_X9_fork (l : Launch) (D : va_G) (q : Nat → Nat) (kc : Nat → ClassId) (a : Nat → Int32) (w : Nat → Int64) (hs : Nat → Int32) (inn : Nat → Int32) (sp : Nat → Int32) (lone : Int32) (lt : Nat → Int64) (lz : Nat → Int32) (dr : Nat → Int32) (what : Int32)  : MW l D yX9_fork (Cond.code yX9_fork cX9_fork 2 (some .int) :: TT) rm_X9_fork [.ref (q 0), .int what] [(kc 1, .int), (kc 2, .long), (kc 3, .boolean), (kc 4, .boolean), (kc 5, .boolean), (kc 6, .long), (kc 7, .int), (kc 8, .int)] (mW q kc a w hs inn sp lone lt lz dr) (some (.int (r_X9_fork a what))) (mW q kc a w hs inn sp lone lt lz dr) := by
  refine MW.of (cc := cX9_fork) (nL := 2) (ret := (some .int)) (lv := [(0, .ref (q 0)), (1, .int what)]) (by decide) rfl rfl (Nat.le_of_ble_eq_true rfl) ?_
  intro p e s m args below meth c A Q hQ X
  refine aw_iload_n X (pc := 0) 1 rfl rfl dX9_fork_0 ?_
  refine aw_if_ne X (pc := 1) (tgt := 13) (by decide) dX9_fork_1 (fun c1 => ?_) (fun c1 => ?_)
  · refine aw_iload_n X (pc := 13) 1 rfl rfl dX9_fork_13 ?_
    refine aw_iconst X (pc := 14) (v := 1) dX9_fork_14 (by decide) ?_
    refine aw_icmp_ne X (pc := 15) (tgt := 27) (by decide) dX9_fork_15 (fun c2 => ?_) (fun c2 => ?_)
    · refine aw_iconst X (pc := 27) (v := (-1)) dX9_fork_27 (by decide) ?_
      exact aw_iret X (v := (-1)) hQ (by simp only [r_X9_fork, if_neg c1, if_neg c2]; try rfl) rfl dX9_fork_28
    · refine aw_aload_n X (pc := 18) 0 rfl rfl dX9_fork_18 ?_
      refine aw_get X (pc := 19) iX9 0 0 rfl rfl (by decide) fl_X9_7 rfl dX9_fork_19 ?_
      refine aw_iconst X (pc := 22) (v := 3) dX9_fork_22 (by decide) ?_
      refine aw_iald X (pc := 23) 1 0 3 rfl rfl rfl (by decide) (by omega) dX9_fork_23 ?_
      refine aw_goto X (pc := 24) (tgt := 28) (by decide) dX9_fork_24 ?_
      exact aw_iret X (v := a 3) hQ (by simp only [r_X9_fork, if_neg c1, if_pos c2]; try rfl) rfl dX9_fork_28
  · refine aw_aload_n X (pc := 4) 0 rfl rfl dX9_fork_4 ?_
    refine aw_get X (pc := 5) iX9 0 0 rfl rfl (by decide) fl_X9_7 rfl dX9_fork_5 ?_
    refine aw_iconst X (pc := 8) (v := 2) dX9_fork_8 (by decide) ?_
    refine aw_iald X (pc := 9) 1 0 2 rfl rfl rfl (by decide) (by omega) dX9_fork_9 ?_
    refine aw_goto X (pc := 10) (tgt := 28) (by decide) dX9_fork_10 ?_
    exact aw_iret X (v := a 2) hQ (by simp only [r_X9_fork, if_pos c1]; try rfl) rfl dX9_fork_28

def r_X9_splits (a : Nat → Int32) (w : Nat → Int64) (k : Nat) : Int32 := if a (300 + 6 * k + 0) = 3 then (if r_X9_listens a w k = 0 then 0 else 1) else (if a (300 + 6 * k + 0) = 4 then (if r_X9_listens a w k = 0 then 0 else 1) else 0)
theorem z_X9_splits (a : Nat → Int32) (w : Nat → Int64) (k : Nat) : r_X9_splits a w k = 0 ∨ r_X9_splits a w k = 1 := by unfold r_X9_splits; (repeat (split <;> try first | exact Or.inl rfl | exact Or.inr rfl)) <;> first | exact Or.inl rfl | exact Or.inr rfl
abbrev rm_X9_splits : Room := { frames := 2, cells := 0, slots := 0, locals := 43 }
set_option maxHeartbeats 4000000 in
set_option maxRecDepth 100000 in
theorem c_X9_splits (l : Launch) (D : va_G) (q : Nat → Nat) (kc : Nat → ClassId) (a : Nat → Int32) (w : Nat → Int64) (hs : Nat → Int32) (inn : Nat → Int32) (sp : Nat → Int32) (lone : Int32) (lt : Nat → Int64) (lz : Nat → Int32) (dr : Nat → Int32) (t : Int32) (k : Nat) (ht : t = nI k) (hk : k < 40) : MW l D yX9_splits (Cond.code yX9_splits cX9_splits 2 (some .boolean) :: TT) rm_X9_splits [.ref (q 0), .int t] [(kc 1, .int), (kc 2, .long), (kc 3, .boolean), (kc 4, .boolean), (kc 5, .boolean), (kc 6, .long), (kc 7, .int), (kc 8, .int)] (mW q kc a w hs inn sp lone lt lz dr) (some (.int (r_X9_splits a w k))) (mW q kc a w hs inn sp lone lt lz dr) := by
  refine MW.of (cc := cX9_splits) (nL := 2) (ret := (some .boolean)) (lv := [(0, .ref (q 0)), (1, .int t)]) (by decide) rfl rfl (Nat.le_of_ble_eq_true rfl) ?_
  intro p e s m args below meth c A Q hQ X
  refine aw_aload_n X (pc := 0) 0 rfl rfl dX9_splits_0 ?_
  refine aw_iload_n X (pc := 1) 1 rfl rfl dX9_splits_1 ?_
  refine aw_iconst X (pc := 2) (v := 0) dX9_splits_2 (by decide) ?_
  refine aw_callV X (pc := 3) (q1 := 0) (rest := []) (st' := [.int (a (300 + 6 * k + 0))]) (ws' := (mW q kc a w hs inn sp lone lt lz dr)) (c_X9_of l D q kc a w hs inn sp lone lt lz dr t 0 k 0 ht rfl (by omega)) rfl rfl [0, 1, 2, 3, 4, 5, 6, 7, 8] [0, 1, 2, 3, 4, 5, 6, 7] rfl rfl rfl rfl ⟨_, _, rfl⟩ rfl cf_X9_44 cd_X9_of dd_X9_of (by decide) (by decide) (by decide) rfl (Nat.le_of_ble_eq_true rfl) dX9_splits_3 rfl ?_
  refine aw_iconst X (pc := 6) (v := 3) dX9_splits_6 (by decide) ?_
  refine aw_icmp_eq X (pc := 7) (tgt := 20) (by decide) dX9_splits_7 (fun c1 => ?_) (fun c1 => ?_)
  · refine aw_aload_n X (pc := 20) 0 rfl rfl dX9_splits_20 ?_
    refine aw_iload_n X (pc := 21) 1 rfl rfl dX9_splits_21 ?_
    refine aw_callV X (pc := 22) (q1 := 0) (rest := []) (st' := [.int (r_X9_listens a w k)]) (ws' := (mW q kc a w hs inn sp lone lt lz dr)) (c_X9_listens l D q kc a w hs inn sp lone lt lz dr t k ht (by omega)) rfl rfl [0, 1, 2, 3, 4, 5, 6, 7, 8] [0, 1, 2, 3, 4, 5, 6, 7] rfl rfl rfl rfl ⟨_, _, rfl⟩ rfl cf_X9_62 cd_X9_listens dd_X9_listens (by decide) (by decide) (by decide) rfl (Nat.le_of_ble_eq_true rfl) dX9_splits_22 rfl ?_
    refine aw_if_eq X (pc := 25) (tgt := 32) (by decide) dX9_splits_25 (fun c2 => ?_) (fun c2 => ?_)
    · refine aw_iconst X (pc := 32) (v := 0) dX9_splits_32 (by decide) ?_
      exact aw_zret X (v := 0) rfl hQ (by simp only [r_X9_splits, if_pos c1, if_pos c2]; try rfl) rfl dX9_splits_33
    · refine aw_iconst X (pc := 28) (v := 1) dX9_splits_28 (by decide) ?_
      refine aw_goto X (pc := 29) (tgt := 33) (by decide) dX9_splits_29 ?_
      exact aw_zret X (v := 1) rfl hQ (by simp only [r_X9_splits, if_pos c1, if_neg c2]; try rfl) rfl dX9_splits_33
  · refine aw_aload_n X (pc := 10) 0 rfl rfl dX9_splits_10 ?_
    refine aw_iload_n X (pc := 11) 1 rfl rfl dX9_splits_11 ?_
    refine aw_iconst X (pc := 12) (v := 0) dX9_splits_12 (by decide) ?_
    refine aw_callV X (pc := 13) (q1 := 0) (rest := []) (st' := [.int (a (300 + 6 * k + 0))]) (ws' := (mW q kc a w hs inn sp lone lt lz dr)) (c_X9_of l D q kc a w hs inn sp lone lt lz dr t 0 k 0 ht rfl (by omega)) rfl rfl [0, 1, 2, 3, 4, 5, 6, 7, 8] [0, 1, 2, 3, 4, 5, 6, 7] rfl rfl rfl rfl ⟨_, _, rfl⟩ rfl cf_X9_44 cd_X9_of dd_X9_of (by decide) (by decide) (by decide) rfl (Nat.le_of_ble_eq_true rfl) dX9_splits_13 rfl ?_
    refine aw_iconst X (pc := 16) (v := 4) dX9_splits_16 (by decide) ?_
    refine aw_icmp_ne X (pc := 17) (tgt := 32) (by decide) dX9_splits_17 (fun c3 => ?_) (fun c3 => ?_)
    · refine aw_iconst X (pc := 32) (v := 0) dX9_splits_32 (by decide) ?_
      exact aw_zret X (v := 0) rfl hQ (by simp only [r_X9_splits, if_neg c1, if_neg c3]; try rfl) rfl dX9_splits_33
    · refine aw_aload_n X (pc := 20) 0 rfl rfl dX9_splits_20 ?_
      refine aw_iload_n X (pc := 21) 1 rfl rfl dX9_splits_21 ?_
      refine aw_callV X (pc := 22) (q1 := 0) (rest := []) (st' := [.int (r_X9_listens a w k)]) (ws' := (mW q kc a w hs inn sp lone lt lz dr)) (c_X9_listens l D q kc a w hs inn sp lone lt lz dr t k ht (by omega)) rfl rfl [0, 1, 2, 3, 4, 5, 6, 7, 8] [0, 1, 2, 3, 4, 5, 6, 7] rfl rfl rfl rfl ⟨_, _, rfl⟩ rfl cf_X9_62 cd_X9_listens dd_X9_listens (by decide) (by decide) (by decide) rfl (Nat.le_of_ble_eq_true rfl) dX9_splits_22 rfl ?_
      refine aw_if_eq X (pc := 25) (tgt := 32) (by decide) dX9_splits_25 (fun c4 => ?_) (fun c4 => ?_)
      · refine aw_iconst X (pc := 32) (v := 0) dX9_splits_32 (by decide) ?_
        exact aw_zret X (v := 0) rfl hQ (by simp only [r_X9_splits, if_neg c1, if_pos c3, if_pos c4]; try rfl) rfl dX9_splits_33
      · refine aw_iconst X (pc := 28) (v := 1) dX9_splits_28 (by decide) ?_
        refine aw_goto X (pc := 29) (tgt := 33) (by decide) dX9_splits_29 ?_
        exact aw_zret X (v := 1) rfl hQ (by simp only [r_X9_splits, if_neg c1, if_pos c3, if_neg c4]; try rfl) rfl dX9_splits_33

def r_X9_draw (a : Nat → Int32) (k : Nat) (nn : Int32) : Int32 := (((((a (300 + 6 * k + 4)) * 1103515245) + 12345).toUInt32 >>> (Int32.toUInt32 16 &&& Int32.toUInt32 31)).toInt32) - (((((a (300 + 6 * k + 4)) * 1103515245) + 12345).toUInt32 >>> (Int32.toUInt32 16 &&& Int32.toUInt32 31)).toInt32) / nn * nn
def u_X9_draw_a (a : Nat → Int32) (k : Nat) : Nat → Int32 := upd a (300 + 6 * k + 4) (((a (300 + 6 * k + 4)) * 1103515245) + 12345)
abbrev rm_X9_draw : Room := { frames := 1, cells := 0, slots := 0, locals := 23 }
set_option maxHeartbeats 4000000 in
set_option maxRecDepth 100000 in
theorem c_X9_draw (l : Launch) (D : va_G) (q : Nat → Nat) (kc : Nat → ClassId) (a : Nat → Int32) (w : Nat → Int64) (hs : Nat → Int32) (inn : Nat → Int32) (sp : Nat → Int32) (lone : Int32) (lt : Nat → Int64) (lz : Nat → Int32) (dr : Nat → Int32) (t : Int32) (k : Nat) (nn : Int32) (ht : t = nI k) (hk : k < 40) (hnn : ¬ nn = 0) : MW l D yX9_draw (Cond.code yX9_draw cX9_draw 4 (some .int) :: TT) rm_X9_draw [.ref (q 0), .int t, .int nn] [(kc 1, .int), (kc 2, .long), (kc 3, .boolean), (kc 4, .boolean), (kc 5, .boolean), (kc 6, .long), (kc 7, .int), (kc 8, .int)] (mW q kc a w hs inn sp lone lt lz dr) (some (.int (r_X9_draw a k nn))) (mW q kc (u_X9_draw_a a k) w hs inn sp lone lt lz dr) := by
  refine MW.of (cc := cX9_draw) (nL := 4) (ret := (some .int)) (lv := [(0, .ref (q 0)), (1, .int t), (2, .int nn)]) (by decide) rfl rfl (Nat.le_of_ble_eq_true rfl) ?_
  intro p e s m args below meth c A Q hQ X
  refine aw_aload_n X (pc := 0) 0 rfl rfl dX9_draw_0 ?_
  refine aw_iload_n X (pc := 1) 1 rfl rfl dX9_draw_1 ?_
  refine aw_iconst X (pc := 2) (v := 4) dX9_draw_2 (by decide) ?_
  refine aw_callV X (pc := 3) (q1 := 0) (rest := []) (st' := [.int (a (300 + 6 * k + 4))]) (ws' := (mW q kc a w hs inn sp lone lt lz dr)) (c_X9_of l D q kc a w hs inn sp lone lt lz dr t 4 k 4 ht rfl (by omega)) rfl rfl [0, 1, 2, 3, 4, 5, 6, 7, 8] [0, 1, 2, 3, 4, 5, 6, 7] rfl rfl rfl rfl ⟨_, _, rfl⟩ rfl cf_X9_44 cd_X9_of dd_X9_of (by decide) (by decide) (by decide) rfl (Nat.le_of_ble_eq_true rfl) dX9_draw_3 rfl ?_
  refine aw_ldc X (pc := 6) ld_X9_110 dX9_draw_6 ?_
  refine aw_imul X (pc := 8) (z := (a (300 + 6 * k + 4)) * 1103515245) rfl  dX9_draw_8 ?_
  refine aw_sipush X (pc := 9) (v := 12345) dX9_draw_9 (by decide) ?_
  refine aw_iadd X (pc := 12) (z := ((a (300 + 6 * k + 4)) * 1103515245) + 12345) rfl  dX9_draw_12 ?_
  refine aw_istore_n X (pc := 13) (lv' := [(3, .int (((a (300 + 6 * k + 4)) * 1103515245) + 12345)), (0, .ref (q 0)), (1, .int t), (2, .int nn)]) rfl (by decide) rfl dX9_draw_13 ?_
  refine aw_aload_n X (pc := 14) 1 rfl rfl dX9_draw_14 ?_
  refine aw_iload_n X (pc := 15) 2 rfl rfl dX9_draw_15 ?_
  refine aw_iconst X (pc := 16) (v := 4) dX9_draw_16 (by decide) ?_
  refine aw_iload_n X (pc := 17) 0 rfl rfl dX9_draw_17 ?_
  refine aw_callV X (pc := 18) (q1 := 0) (rest := []) (st' := []) (ws' := (mW q kc (upd a (300 + 6 * k + 4) (((a (300 + 6 * k + 4)) * 1103515245) + 12345)) w hs inn sp lone lt lz dr)) (c_X9_sets l D q kc a w hs inn sp lone lt lz dr t 4 k 4 (((a (300 + 6 * k + 4)) * 1103515245) + 12345) ht rfl (by omega)) rfl rfl [0, 1, 2, 3, 4, 5, 6, 7, 8] [0, 1, 2, 3, 4, 5, 6, 7] rfl rfl rfl rfl ⟨_, _, rfl⟩ rfl cf_X9_52 cd_X9_sets dd_X9_sets (by decide) (by decide) (by decide) rfl (Nat.le_of_ble_eq_true rfl) dX9_draw_18 rfl ?_
  refine aw_iload_n X (pc := 21) 0 rfl rfl dX9_draw_21 ?_
  refine aw_bipush X (pc := 22) (v := 16) dX9_draw_22 (by decide) ?_
  refine aw_iushr X (pc := 24) (z := ((((a (300 + 6 * k + 4)) * 1103515245) + 12345).toUInt32 >>> (Int32.toUInt32 16 &&& Int32.toUInt32 31)).toInt32) rfl  dX9_draw_24 ?_
  refine aw_iload_n X (pc := 25) 3 rfl rfl dX9_draw_25 ?_
  refine aw_irem X (pc := 26) (z := (((((a (300 + 6 * k + 4)) * 1103515245) + 12345).toUInt32 >>> (Int32.toUInt32 16 &&& Int32.toUInt32 31)).toInt32) - (((((a (300 + 6 * k + 4)) * 1103515245) + 12345).toUInt32 >>> (Int32.toUInt32 16 &&& Int32.toUInt32 31)).toInt32) / nn * nn) rfl hnn dX9_draw_26 ?_
  exact aw_iret X (v := (((((a (300 + 6 * k + 4)) * 1103515245) + 12345).toUInt32 >>> (Int32.toUInt32 16 &&& Int32.toUInt32 31)).toInt32) - (((((a (300 + 6 * k + 4)) * 1103515245) + 12345).toUInt32 >>> (Int32.toUInt32 16 &&& Int32.toUInt32 31)).toInt32) / nn * nn) hQ rfl rfl dX9_draw_27

def u_X9_sleeps_a (a : Nat → Int32) (k : Nat) : Nat → Int32 := if a (300 + 6 * k + 0) = 4 then (upd a (300 + 6 * k + 2) 0) else a
abbrev rm_X9_sleeps : Room := { frames := 1, cells := 0, slots := 0, locals := 23 }
set_option maxHeartbeats 4000000 in
set_option maxRecDepth 100000 in
theorem c_X9_sleeps (l : Launch) (D : va_G) (q : Nat → Nat) (kc : Nat → ClassId) (a : Nat → Int32) (w : Nat → Int64) (hs : Nat → Int32) (inn : Nat → Int32) (sp : Nat → Int32) (lone : Int32) (lt : Nat → Int64) (lz : Nat → Int32) (dr : Nat → Int32) (t : Int32) (k : Nat) (ht : t = nI k) (hk : k < 40) : MW l D yX9_sleeps (Cond.code yX9_sleeps cX9_sleeps 2 none :: TT) rm_X9_sleeps [.ref (q 0), .int t] [(kc 1, .int), (kc 2, .long), (kc 3, .boolean), (kc 4, .boolean), (kc 5, .boolean), (kc 6, .long), (kc 7, .int), (kc 8, .int)] (mW q kc a w hs inn sp lone lt lz dr) none (mW q kc (u_X9_sleeps_a a k) w hs inn sp lone lt lz dr) := by
  refine MW.of (cc := cX9_sleeps) (nL := 2) (ret := none) (lv := [(0, .ref (q 0)), (1, .int t)]) (by decide) rfl rfl (Nat.le_of_ble_eq_true rfl) ?_
  intro p e s m args below meth c A Q hQ X
  refine aw_aload_n X (pc := 0) 0 rfl rfl dX9_sleeps_0 ?_
  refine aw_iload_n X (pc := 1) 1 rfl rfl dX9_sleeps_1 ?_
  refine aw_iconst X (pc := 2) (v := 0) dX9_sleeps_2 (by decide) ?_
  refine aw_callV X (pc := 3) (q1 := 0) (rest := []) (st' := [.int (a (300 + 6 * k + 0))]) (ws' := (mW q kc a w hs inn sp lone lt lz dr)) (c_X9_of l D q kc a w hs inn sp lone lt lz dr t 0 k 0 ht rfl (by omega)) rfl rfl [0, 1, 2, 3, 4, 5, 6, 7, 8] [0, 1, 2, 3, 4, 5, 6, 7] rfl rfl rfl rfl ⟨_, _, rfl⟩ rfl cf_X9_44 cd_X9_of dd_X9_of (by decide) (by decide) (by decide) rfl (Nat.le_of_ble_eq_true rfl) dX9_sleeps_3 rfl ?_
  refine aw_iconst X (pc := 6) (v := 4) dX9_sleeps_6 (by decide) ?_
  refine aw_icmp_ne X (pc := 7) (tgt := 17) (by decide) dX9_sleeps_7 (fun c1 => ?_) (fun c1 => ?_)
  · exact aw_vret X hQ rfl (by simp only [u_X9_sleeps_a, if_neg c1]) dX9_sleeps_17
  · refine aw_aload_n X (pc := 10) 0 rfl rfl dX9_sleeps_10 ?_
    refine aw_iload_n X (pc := 11) 1 rfl rfl dX9_sleeps_11 ?_
    refine aw_iconst X (pc := 12) (v := 2) dX9_sleeps_12 (by decide) ?_
    refine aw_iconst X (pc := 13) (v := 0) dX9_sleeps_13 (by decide) ?_
    refine aw_callV X (pc := 14) (q1 := 0) (rest := []) (st' := []) (ws' := (mW q kc (upd a (300 + 6 * k + 2) 0) w hs inn sp lone lt lz dr)) (c_X9_sets l D q kc a w hs inn sp lone lt lz dr t 2 k 2 0 ht rfl (by omega)) rfl rfl [0, 1, 2, 3, 4, 5, 6, 7, 8] [0, 1, 2, 3, 4, 5, 6, 7] rfl rfl rfl rfl ⟨_, _, rfl⟩ rfl cf_X9_52 cd_X9_sets dd_X9_sets (by decide) (by decide) (by decide) rfl (Nat.le_of_ble_eq_true rfl) dX9_sleeps_14 rfl ?_
    exact aw_vret X hQ rfl (by simp only [u_X9_sleeps_a, if_pos c1]) dX9_sleeps_17

def r_X9_heard (a : Nat → Int32) (what : Int32) : Int32 := if r_X9_isIn what 4 = 0 then (-1) else (a (7 + what.toNatClampNeg))
abbrev rm_X9_heard : Room := { frames := 1, cells := 0, slots := 0, locals := 21 }
set_option maxHeartbeats 4000000 in
set_option maxRecDepth 100000 in
theorem c_X9_heard (l : Launch) (D : va_G) (q : Nat → Nat) (kc : Nat → ClassId) (a : Nat → Int32) (w : Nat → Int64) (hs : Nat → Int32) (inn : Nat → Int32) (sp : Nat → Int32) (lone : Int32) (lt : Nat → Int64) (lz : Nat → Int32) (dr : Nat → Int32) (what : Int32)  : MW l D yX9_heard (Cond.code yX9_heard cX9_heard 2 (some .int) :: TT) rm_X9_heard [.ref (q 0), .int what] [(kc 1, .int), (kc 2, .long), (kc 3, .boolean), (kc 4, .boolean), (kc 5, .boolean), (kc 6, .long), (kc 7, .int), (kc 8, .int)] (mW q kc a w hs inn sp lone lt lz dr) (some (.int (r_X9_heard a what))) (mW q kc a w hs inn sp lone lt lz dr) := by
  refine MW.of (cc := cX9_heard) (nL := 2) (ret := (some .int)) (lv := [(0, .ref (q 0)), (1, .int what)]) (by decide) rfl rfl (Nat.le_of_ble_eq_true rfl) ?_
  intro p e s m args below meth c A Q hQ X
  refine aw_iload_n X (pc := 0) 1 rfl rfl dX9_heard_0 ?_
  refine aw_iconst X (pc := 1) (v := 4) dX9_heard_1 (by decide) ?_
  refine aw_callS X (pc := 2) (rest := []) (st' := [.int (r_X9_isIn what 4)]) (ws' := (mW q kc a w hs inn sp lone lt lz dr)) (c_X9_isIn l D what 4) rfl [] [] rfl rfl rfl rfl cf_X9_36 cd_X9_isIn dd_X9_isIn (by decide) (by decide) (by decide) rfl (Nat.le_of_ble_eq_true rfl) dX9_heard_2 rfl ?_
  refine aw_if_eq X (pc := 5) (tgt := 20) (by decide) dX9_heard_5 (fun c1 => ?_) (fun c1 => ?_)
  · refine aw_iconst X (pc := 20) (v := (-1)) dX9_heard_20 (by decide) ?_
    exact aw_iret X (v := (-1)) hQ (by simp only [r_X9_heard, if_pos c1]; try rfl) rfl dX9_heard_21
  · obtain ⟨ht2, hu3⟩ := isIn_nat (n := 4) rfl (by decide) c1
    refine aw_aload_n X (pc := 8) 0 rfl rfl dX9_heard_8 ?_
    refine aw_get X (pc := 9) iX9 0 0 rfl rfl (by decide) fl_X9_7 rfl dX9_heard_9 ?_
    refine aw_bipush X (pc := 12) (v := 7) dX9_heard_12 (by decide) ?_
    refine aw_iload_n X (pc := 14) 1 rfl rfl dX9_heard_14 ?_
    refine aw_iadd X (pc := 15) (z := nI (7 + what.toNatClampNeg)) (nn_add (a := 7) (b := what.toNatClampNeg) rfl ht2 (by first | rfl | omega))  dX9_heard_15 ?_
    refine aw_iald X (pc := 16) 1 0 (7 + what.toNatClampNeg) rfl rfl rfl (by decide) (by omega) dX9_heard_16 ?_
    refine aw_goto X (pc := 17) (tgt := 21) (by decide) dX9_heard_17 ?_
    exact aw_iret X (v := a (7 + what.toNatClampNeg)) hQ (by simp only [r_X9_heard, if_neg c1]; try rfl) rfl dX9_heard_21

def r_X9_found (a : Nat → Int32) (kk : Int32) : Int32 := if r_X9_isIn kk (a 15) = 0 then (-1) else (a (100 + kk.toNatClampNeg))
abbrev rm_X9_found : Room := { frames := 1, cells := 0, slots := 0, locals := 21 }
set_option maxHeartbeats 4000000 in
set_option maxRecDepth 100000 in
theorem c_X9_found (l : Launch) (D : va_G) (q : Nat → Nat) (kc : Nat → ClassId) (a : Nat → Int32) (w : Nat → Int64) (hs : Nat → Int32) (inn : Nat → Int32) (sp : Nat → Int32) (lone : Int32) (lt : Nat → Int64) (lz : Nat → Int32) (dr : Nat → Int32) (f : Nat) (kk : Int32) (ha15 : a 15 = nI f) (hf : f ≤ 200) : MW l D yX9_found (Cond.code yX9_found cX9_found 2 (some .int) :: TT) rm_X9_found [.ref (q 0), .int kk] [(kc 1, .int), (kc 2, .long), (kc 3, .boolean), (kc 4, .boolean), (kc 5, .boolean), (kc 6, .long), (kc 7, .int), (kc 8, .int)] (mW q kc a w hs inn sp lone lt lz dr) (some (.int (r_X9_found a kk))) (mW q kc a w hs inn sp lone lt lz dr) := by
  refine MW.of (cc := cX9_found) (nL := 2) (ret := (some .int)) (lv := [(0, .ref (q 0)), (1, .int kk)]) (by decide) rfl rfl (Nat.le_of_ble_eq_true rfl) ?_
  intro p e s m args below meth c A Q hQ X
  refine aw_iload_n X (pc := 0) 1 rfl rfl dX9_found_0 ?_
  refine aw_aload_n X (pc := 1) 0 rfl rfl dX9_found_1 ?_
  refine aw_get X (pc := 2) iX9 0 0 rfl rfl (by decide) fl_X9_7 rfl dX9_found_2 ?_
  refine aw_bipush X (pc := 5) (v := 15) dX9_found_5 (by decide) ?_
  refine aw_iald X (pc := 7) 1 0 15 rfl rfl rfl (by decide) (by omega) dX9_found_7 ?_
  refine aw_callS X (pc := 8) (rest := []) (st' := [.int (r_X9_isIn kk (a 15))]) (ws' := (mW q kc a w hs inn sp lone lt lz dr)) (c_X9_isIn l D kk (a 15)) rfl [] [] rfl rfl rfl rfl cf_X9_36 cd_X9_isIn dd_X9_isIn (by decide) (by decide) (by decide) rfl (Nat.le_of_ble_eq_true rfl) dX9_found_8 rfl ?_
  refine aw_if_eq X (pc := 11) (tgt := 26) (by decide) dX9_found_11 (fun c1 => ?_) (fun c1 => ?_)
  · refine aw_iconst X (pc := 26) (v := (-1)) dX9_found_26 (by decide) ?_
    exact aw_iret X (v := (-1)) hQ (by simp only [r_X9_found, if_pos c1]; try rfl) rfl dX9_found_27
  · obtain ⟨ht2, hu3⟩ := isIn_nat (n := f) ha15 (by omega) c1
    refine aw_aload_n X (pc := 14) 0 rfl rfl dX9_found_14 ?_
    refine aw_get X (pc := 15) iX9 0 0 rfl rfl (by decide) fl_X9_7 rfl dX9_found_15 ?_
    refine aw_bipush X (pc := 18) (v := 100) dX9_found_18 (by decide) ?_
    refine aw_iload_n X (pc := 20) 1 rfl rfl dX9_found_20 ?_
    refine aw_iadd X (pc := 21) (z := nI (100 + kk.toNatClampNeg)) (nn_add (a := 100) (b := kk.toNatClampNeg) rfl ht2 (by first | rfl | omega))  dX9_found_21 ?_
    refine aw_iald X (pc := 22) 1 0 (100 + kk.toNatClampNeg) rfl rfl rfl (by decide) (by omega) dX9_found_22 ?_
    refine aw_goto X (pc := 23) (tgt := 27) (by decide) dX9_found_23 ?_
    exact aw_iret X (v := a (100 + kk.toNatClampNeg)) hQ (by simp only [r_X9_found, if_neg c1]; try rfl) rfl dX9_found_27

def r_X9_cost (a : Nat → Int32) (what : Int32) : Int32 := if what = 4 then ((((a 11) + (a 12)) + (a 13)) + (a 14)) else (if r_X9_isIn what 4 = 0 then (-1) else (a (11 + what.toNatClampNeg)))
abbrev rm_X9_cost : Room := { frames := 1, cells := 0, slots := 0, locals := 21 }
set_option maxHeartbeats 4000000 in
set_option maxRecDepth 100000 in
theorem c_X9_cost (l : Launch) (D : va_G) (q : Nat → Nat) (kc : Nat → ClassId) (a : Nat → Int32) (w : Nat → Int64) (hs : Nat → Int32) (inn : Nat → Int32) (sp : Nat → Int32) (lone : Int32) (lt : Nat → Int64) (lz : Nat → Int32) (dr : Nat → Int32) (what : Int32)  : MW l D yX9_cost (Cond.code yX9_cost cX9_cost 2 (some .int) :: TT) rm_X9_cost [.ref (q 0), .int what] [(kc 1, .int), (kc 2, .long), (kc 3, .boolean), (kc 4, .boolean), (kc 5, .boolean), (kc 6, .long), (kc 7, .int), (kc 8, .int)] (mW q kc a w hs inn sp lone lt lz dr) (some (.int (r_X9_cost a what))) (mW q kc a w hs inn sp lone lt lz dr) := by
  refine MW.of (cc := cX9_cost) (nL := 2) (ret := (some .int)) (lv := [(0, .ref (q 0)), (1, .int what)]) (by decide) rfl rfl (Nat.le_of_ble_eq_true rfl) ?_
  intro p e s m args below meth c A Q hQ X
  refine aw_iload_n X (pc := 0) 1 rfl rfl dX9_cost_0 ?_
  refine aw_iconst X (pc := 1) (v := 4) dX9_cost_1 (by decide) ?_
  refine aw_icmp_ne X (pc := 2) (tgt := 37) (by decide) dX9_cost_2 (fun c1 => ?_) (fun c1 => ?_)
  · refine aw_iload_n X (pc := 37) 1 rfl rfl dX9_cost_37 ?_
    refine aw_iconst X (pc := 38) (v := 4) dX9_cost_38 (by decide) ?_
    refine aw_callS X (pc := 39) (rest := []) (st' := [.int (r_X9_isIn what 4)]) (ws' := (mW q kc a w hs inn sp lone lt lz dr)) (c_X9_isIn l D what 4) rfl [] [] rfl rfl rfl rfl cf_X9_36 cd_X9_isIn dd_X9_isIn (by decide) (by decide) (by decide) rfl (Nat.le_of_ble_eq_true rfl) dX9_cost_39 rfl ?_
    refine aw_if_eq X (pc := 42) (tgt := 57) (by decide) dX9_cost_42 (fun c2 => ?_) (fun c2 => ?_)
    · refine aw_iconst X (pc := 57) (v := (-1)) dX9_cost_57 (by decide) ?_
      exact aw_iret X (v := (-1)) hQ (by simp only [r_X9_cost, if_neg c1, if_pos c2]; try rfl) rfl dX9_cost_58
    · obtain ⟨ht3, hu4⟩ := isIn_nat (n := 4) rfl (by decide) c2
      refine aw_aload_n X (pc := 45) 0 rfl rfl dX9_cost_45 ?_
      refine aw_get X (pc := 46) iX9 0 0 rfl rfl (by decide) fl_X9_7 rfl dX9_cost_46 ?_
      refine aw_bipush X (pc := 49) (v := 11) dX9_cost_49 (by decide) ?_
      refine aw_iload_n X (pc := 51) 1 rfl rfl dX9_cost_51 ?_
      refine aw_iadd X (pc := 52) (z := nI (11 + what.toNatClampNeg)) (nn_add (a := 11) (b := what.toNatClampNeg) rfl ht3 (by first | rfl | omega))  dX9_cost_52 ?_
      refine aw_iald X (pc := 53) 1 0 (11 + what.toNatClampNeg) rfl rfl rfl (by decide) (by omega) dX9_cost_53 ?_
      refine aw_goto X (pc := 54) (tgt := 58) (by decide) dX9_cost_54 ?_
      exact aw_iret X (v := a (11 + what.toNatClampNeg)) hQ (by simp only [r_X9_cost, if_neg c1, if_neg c2]; try rfl) rfl dX9_cost_58
  · refine aw_aload_n X (pc := 5) 0 rfl rfl dX9_cost_5 ?_
    refine aw_get X (pc := 6) iX9 0 0 rfl rfl (by decide) fl_X9_7 rfl dX9_cost_6 ?_
    refine aw_bipush X (pc := 9) (v := 11) dX9_cost_9 (by decide) ?_
    refine aw_iald X (pc := 11) 1 0 11 rfl rfl rfl (by decide) (by omega) dX9_cost_11 ?_
    refine aw_aload_n X (pc := 12) 0 rfl rfl dX9_cost_12 ?_
    refine aw_get X (pc := 13) iX9 0 0 rfl rfl (by decide) fl_X9_7 rfl dX9_cost_13 ?_
    refine aw_bipush X (pc := 16) (v := 12) dX9_cost_16 (by decide) ?_
    refine aw_iald X (pc := 18) 1 0 12 rfl rfl rfl (by decide) (by omega) dX9_cost_18 ?_
    refine aw_iadd X (pc := 19) (z := (a 11) + (a 12)) rfl  dX9_cost_19 ?_
    refine aw_aload_n X (pc := 20) 0 rfl rfl dX9_cost_20 ?_
    refine aw_get X (pc := 21) iX9 0 0 rfl rfl (by decide) fl_X9_7 rfl dX9_cost_21 ?_
    refine aw_bipush X (pc := 24) (v := 13) dX9_cost_24 (by decide) ?_
    refine aw_iald X (pc := 26) 1 0 13 rfl rfl rfl (by decide) (by omega) dX9_cost_26 ?_
    refine aw_iadd X (pc := 27) (z := ((a 11) + (a 12)) + (a 13)) rfl  dX9_cost_27 ?_
    refine aw_aload_n X (pc := 28) 0 rfl rfl dX9_cost_28 ?_
    refine aw_get X (pc := 29) iX9 0 0 rfl rfl (by decide) fl_X9_7 rfl dX9_cost_29 ?_
    refine aw_bipush X (pc := 32) (v := 14) dX9_cost_32 (by decide) ?_
    refine aw_iald X (pc := 34) 1 0 14 rfl rfl rfl (by decide) (by omega) dX9_cost_34 ?_
    refine aw_iadd X (pc := 35) (z := (((a 11) + (a 12)) + (a 13)) + (a 14)) rfl  dX9_cost_35 ?_
    exact aw_iret X (v := (((a 11) + (a 12)) + (a 13)) + (a 14)) hQ (by simp only [r_X9_cost, if_pos c1]; try rfl) rfl dX9_cost_36

def r_X9_count (a : Nat → Int32) (w : Nat → Int64) (n : Nat) (what : Int32) : Int32 := if what = 0 then (a 0) else (if what = 1 then (lpF (b_X9_listening_4 a w) n 0 0) else (if what = 2 then (a 15) else (if what = 3 then (a 4) else (if what = 4 then (a 5) else (-1)))))
abbrev rm_X9_count : Room := { frames := 3, cells := 0, slots := 0, locals := 65 }
set_option maxHeartbeats 4000000 in
set_option maxRecDepth 100000 in
theorem c_X9_count (l : Launch) (D : va_G) (q : Nat → Nat) (kc : Nat → ClassId) (a : Nat → Int32) (w : Nat → Int64) (hs : Nat → Int32) (inn : Nat → Int32) (sp : Nat → Int32) (lone : Int32) (lt : Nat → Int64) (lz : Nat → Int32) (dr : Nat → Int32) (n : Nat) (what : Int32) (ha0 : a 0 = nI n) (hn : n ≤ 40) : MW l D yX9_count (Cond.code yX9_count cX9_count 2 (some .int) :: TT) rm_X9_count [.ref (q 0), .int what] [(kc 1, .int), (kc 2, .long), (kc 3, .boolean), (kc 4, .boolean), (kc 5, .boolean), (kc 6, .long), (kc 7, .int), (kc 8, .int)] (mW q kc a w hs inn sp lone lt lz dr) (some (.int (r_X9_count a w n what))) (mW q kc a w hs inn sp lone lt lz dr) := by
  refine MW.of (cc := cX9_count) (nL := 2) (ret := (some .int)) (lv := [(0, .ref (q 0)), (1, .int what)]) (by decide) rfl rfl (Nat.le_of_ble_eq_true rfl) ?_
  intro p e s m args below meth c A Q hQ X
  refine aw_iload_n X (pc := 0) 1 rfl rfl dX9_count_0 ?_
  by_cases c1 : what = 0
  · refine aw_tableIn X (pc := 1) (tgt := 36) (by rw [c1]; decide) (by rw [c1]; decide) (by rw [c1]; rfl) (by decide) dX9_count_1 ?_
    refine aw_aload_n X (pc := 36) 0 rfl rfl dX9_count_36 ?_
    refine aw_get X (pc := 37) iX9 0 0 rfl rfl (by decide) fl_X9_7 rfl dX9_count_37 ?_
    refine aw_iconst X (pc := 40) (v := 0) dX9_count_40 (by decide) ?_
    refine aw_iald X (pc := 41) 1 0 0 rfl rfl rfl (by decide) (by omega) dX9_count_41 ?_
    exact aw_iret X (v := a 0) hQ (by simp only [r_X9_count, if_pos c1]; try rfl) rfl dX9_count_42
  · by_cases c2 : what = 1
    · refine aw_tableIn X (pc := 1) (tgt := 43) (by rw [c2]; decide) (by rw [c2]; decide) (by rw [c2]; rfl) (by decide) dX9_count_1 ?_
      refine aw_aload_n X (pc := 43) 0 rfl rfl dX9_count_43 ?_
      refine aw_callV X (pc := 44) (q1 := 0) (rest := []) (st' := [.int (lpF (b_X9_listening_4 a w) n 0 0)]) (ws' := (mW q kc a w hs inn sp lone lt lz dr)) (c_X9_listening l D q kc a w hs inn sp lone lt lz dr n ha0 (by omega)) rfl rfl [0, 1, 2, 3, 4, 5, 6, 7, 8] [0, 1, 2, 3, 4, 5, 6, 7] rfl rfl rfl rfl ⟨_, _, rfl⟩ rfl cf_X9_65 cd_X9_listening dd_X9_listening (by decide) (by decide) (by decide) rfl (Nat.le_of_ble_eq_true rfl) dX9_count_44 rfl ?_
      exact aw_iret X (v := (lpF (b_X9_listening_4 a w) n 0 0)) hQ (by simp only [r_X9_count, if_neg c1, if_pos c2]; try rfl) rfl dX9_count_47
    · by_cases c3 : what = 2
      · refine aw_tableIn X (pc := 1) (tgt := 48) (by rw [c3]; decide) (by rw [c3]; decide) (by rw [c3]; rfl) (by decide) dX9_count_1 ?_
        refine aw_aload_n X (pc := 48) 0 rfl rfl dX9_count_48 ?_
        refine aw_get X (pc := 49) iX9 0 0 rfl rfl (by decide) fl_X9_7 rfl dX9_count_49 ?_
        refine aw_bipush X (pc := 52) (v := 15) dX9_count_52 (by decide) ?_
        refine aw_iald X (pc := 54) 1 0 15 rfl rfl rfl (by decide) (by omega) dX9_count_54 ?_
        exact aw_iret X (v := a 15) hQ (by simp only [r_X9_count, if_neg c1, if_neg c2, if_pos c3]; try rfl) rfl dX9_count_55
      · by_cases c4 : what = 3
        · refine aw_tableIn X (pc := 1) (tgt := 56) (by rw [c4]; decide) (by rw [c4]; decide) (by rw [c4]; rfl) (by decide) dX9_count_1 ?_
          refine aw_aload_n X (pc := 56) 0 rfl rfl dX9_count_56 ?_
          refine aw_get X (pc := 57) iX9 0 0 rfl rfl (by decide) fl_X9_7 rfl dX9_count_57 ?_
          refine aw_iconst X (pc := 60) (v := 4) dX9_count_60 (by decide) ?_
          refine aw_iald X (pc := 61) 1 0 4 rfl rfl rfl (by decide) (by omega) dX9_count_61 ?_
          exact aw_iret X (v := a 4) hQ (by simp only [r_X9_count, if_neg c1, if_neg c2, if_neg c3, if_pos c4]; try rfl) rfl dX9_count_62
        · by_cases c5 : what = 4
          · refine aw_tableIn X (pc := 1) (tgt := 63) (by rw [c5]; decide) (by rw [c5]; decide) (by rw [c5]; rfl) (by decide) dX9_count_1 ?_
            refine aw_aload_n X (pc := 63) 0 rfl rfl dX9_count_63 ?_
            refine aw_get X (pc := 64) iX9 0 0 rfl rfl (by decide) fl_X9_7 rfl dX9_count_64 ?_
            refine aw_iconst X (pc := 67) (v := 5) dX9_count_67 (by decide) ?_
            refine aw_iald X (pc := 68) 1 0 5 rfl rfl rfl (by decide) (by omega) dX9_count_68 ?_
            exact aw_iret X (v := a 5) hQ (by simp only [r_X9_count, if_neg c1, if_neg c2, if_neg c3, if_neg c4, if_pos c5]; try rfl) rfl dX9_count_69
          · refine aw_tableOut X (pc := 1) (tgt := 70) (tb_out4 c1 c2 c3 c4 c5) (by decide) dX9_count_1 ?_
            refine aw_iconst X (pc := 70) (v := (-1)) dX9_count_70 (by decide) ?_
            exact aw_iret X (v := (-1)) hQ (by simp only [r_X9_count, if_neg c1, if_neg c2, if_neg c3, if_neg c4, if_neg c5]; try rfl) rfl dX9_count_71

abbrev rm_X9_alone : Room := { frames := 0, cells := 0, slots := 0, locals := 0 }
set_option maxHeartbeats 4000000 in
set_option maxRecDepth 100000 in
theorem c_X9_alone (l : Launch) (D : va_G) (q : Nat → Nat) (kc : Nat → ClassId) (a : Nat → Int32) (w : Nat → Int64) (hs : Nat → Int32) (inn : Nat → Int32) (sp : Nat → Int32) (lone : Int32) (lt : Nat → Int64) (lz : Nat → Int32) (dr : Nat → Int32)  : MW l D yX9_alone (Cond.code yX9_alone cX9_alone 1 (some .int) :: TT) rm_X9_alone [.ref (q 0)] [(kc 1, .int), (kc 2, .long), (kc 3, .boolean), (kc 4, .boolean), (kc 5, .boolean), (kc 6, .long), (kc 7, .int), (kc 8, .int)] (mW q kc a w hs inn sp lone lt lz dr) (some (.int (a 6))) (mW q kc a w hs inn sp lone lt lz dr) := by
  refine MW.of (cc := cX9_alone) (nL := 1) (ret := (some .int)) (lv := [(0, .ref (q 0))]) (by decide) rfl rfl (Nat.le_of_ble_eq_true rfl) ?_
  intro p e s m args below meth c A Q hQ X
  refine aw_aload_n X (pc := 0) 0 rfl rfl dX9_alone_0 ?_
  refine aw_get X (pc := 1) iX9 0 0 rfl rfl (by decide) fl_X9_7 rfl dX9_alone_1 ?_
  refine aw_bipush X (pc := 4) (v := 6) dX9_alone_4 (by decide) ?_
  refine aw_iald X (pc := 6) 1 0 6 rfl rfl rfl (by decide) (by omega) dX9_alone_6 ?_
  exact aw_iret X (v := a 6) hQ rfl rfl dX9_alone_7
end
section
def b_X9_called_3 (a : Nat → Int32) (w : Nat → Int64) (bits : Int64) (m_ : Int32) (k : Nat) (σ : (Nat → Int32)) : (Nat → Int32) := if r_X9_listens a w k = 0 then (upd σ k 0) else (if a (300 + 6 * k + 0) < 1 then (upd σ k 0) else (if r_X9_begins (w (84 + k)) bits m_ = 0 then (upd σ k 0) else (upd σ k 1)))
abbrev rm_X9_called : Room := { frames := 2, cells := 0, slots := 0, locals := 43 }
set_option maxHeartbeats 4000000 in
set_option maxRecDepth 100000 in
theorem c_X9_called (l : Launch) (D : va_G) (q : Nat → Nat) (kc : Nat → ClassId) (a : Nat → Int32) (w : Nat → Int64) (hs : Nat → Int32) (inn : Nat → Int32) (sp : Nat → Int32) (lone : Int32) (lt : Nat → Int64) (lz : Nat → Int32) (dr : Nat → Int32) (n : Nat) (bits : Int64) (m_ : Int32) (ha0 : a 0 = nI n) (hn : n ≤ 40) : MW l D yX9_called (Cond.code yX9_called cX9_called 5 none :: TT) rm_X9_called [.ref (q 0), .long bits, .int m_] [(kc 1, .int), (kc 2, .long), (kc 3, .boolean), (kc 4, .boolean), (kc 5, .boolean), (kc 6, .long), (kc 7, .int), (kc 8, .int)] (mW q kc a w hs inn sp lone lt lz dr) none (mW q kc a w hs inn (lpF (b_X9_called_3 a w bits m_) n 0 sp) lone lt lz dr) := by
  refine MW.of (cc := cX9_called) (nL := 5) (ret := none) (lv := [(0, .ref (q 0)), (1, .long bits), (3, .int m_)]) (by decide) rfl rfl (Nat.le_of_ble_eq_true rfl) ?_
  intro p e s m args below meth c A Q hQ X
  refine aw_iconst X (pc := 0) (v := 0) dX9_called_0 (by decide) ?_
  refine aw_istore X (pc := 1) (lv' := [(4, .int 0), (0, .ref (q 0)), (1, .long bits), (3, .int m_)]) (by decide) rfl dX9_called_1 ?_
  have L1 : ∀ (n1 k : Nat) (sv : Nat → Int32), k + n1 = n → lpF (b_X9_called_3 a w bits m_) n1 k sv = lpF (b_X9_called_3 a w bits m_) n 0 sp → AW p l e rm_X9_called s m args below meth c D A 5 0 0 Q 3 [(4, .int (nI k)), (0, .ref (q 0)), (1, .long bits), (3, .int m_)] [] (mW q kc a w hs inn sv lone lt lz dr) := by
    intro n1; induction n1 with
    | zero =>
      intro k sv hk1  hf1
      have hf1 : sv = lpF (b_X9_called_3 a w bits m_) n 0 sp := hf1
      refine aw_iload X (pc := 3) 0 rfl dX9_called_3 ?_
      refine aw_aload_n X (pc := 5) 1 rfl rfl dX9_called_5 ?_
      refine aw_get X (pc := 6) iX9 0 0 rfl rfl (by decide) fl_X9_7 rfl dX9_called_6 ?_
      refine aw_iconst X (pc := 9) (v := 0) dX9_called_9 (by decide) ?_
      refine aw_iald X (pc := 10) 1 0 0 rfl rfl rfl (by decide) (by omega) dX9_called_10 ?_
      refine aw_icmp_ge X (pc := 11) (tgt := 70) (by decide) dX9_called_11 (fun c10 => ?_) (fun c10 => absurd (nn_le (a := n) (b := k) ha0 rfl (by omega) (by omega)) c10)
      exact aw_vret X hQ rfl (by simp only [← hf1]) dX9_called_70
    | succ n1 ih1 =>
      intro k sv hk1  hf1
      have hf1 : lpF (b_X9_called_3 a w bits m_) n1 (k + 1) (b_X9_called_3 a w bits m_ k sv) = lpF (b_X9_called_3 a w bits m_) n 0 sp := hf1
      refine aw_iload X (pc := 3) 0 rfl dX9_called_3 ?_
      refine aw_aload_n X (pc := 5) 1 rfl rfl dX9_called_5 ?_
      refine aw_get X (pc := 6) iX9 0 0 rfl rfl (by decide) fl_X9_7 rfl dX9_called_6 ?_
      refine aw_iconst X (pc := 9) (v := 0) dX9_called_9 (by decide) ?_
      refine aw_iald X (pc := 10) 1 0 0 rfl rfl rfl (by decide) (by omega) dX9_called_10 ?_
      refine aw_icmp_ge X (pc := 11) (tgt := 70) (by decide) dX9_called_11 (fun c2 => absurd c2 (nn_nle (a := n) (b := k) ha0 rfl (by omega) (by omega))) (fun c2 => ?_)
      refine aw_aload_n X (pc := 14) 1 rfl rfl dX9_called_14 ?_
      refine aw_get X (pc := 15) iX9 0 4 rfl rfl (by decide) fl_X9_24 rfl dX9_called_15 ?_
      refine aw_iload X (pc := 18) 0 rfl dX9_called_18 ?_
      refine aw_aload_n X (pc := 20) 1 rfl rfl dX9_called_20 ?_
      refine aw_iload X (pc := 21) 0 rfl dX9_called_21 ?_
      refine aw_callV X (pc := 23) (q1 := 0) (rest := [.int (nI k), .ref (q 5)]) (st' := [.int (r_X9_listens a w k), .int (nI k), .ref (q 5)]) (ws' := (mW q kc a w hs inn sv lone lt lz dr)) (c_X9_listens l D q kc a w hs inn sv lone lt lz dr (nI k) k rfl (by omega)) rfl rfl [0, 1, 2, 3, 4, 5, 6, 7, 8] [0, 1, 2, 3, 4, 5, 6, 7] rfl rfl rfl rfl ⟨_, _, rfl⟩ rfl cf_X9_62 cd_X9_listens dd_X9_listens (by decide) (by decide) (by decide) rfl (Nat.le_of_ble_eq_true rfl) dX9_called_23 rfl ?_
      refine aw_if_eq X (pc := 26) (tgt := 62) (by decide) dX9_called_26 (fun c3 => ?_) (fun c3 => ?_)
      · refine aw_iconst X (pc := 62) (v := 0) dX9_called_62 (by decide) ?_
        refine aw_zast X (pc := 63) 5 4 (ws' := (mW q kc a w hs inn (upd sv k 0) lone lt lz dr)) k rfl (by decide) rfl rfl (by decide) (by omega) rfl dX9_called_63 ?_
        refine aw_iinc X (pc := 64) (kx := 0) (v := nI (k + 1)) (lv' := [(4, .int (nI (k + 1))), (0, .ref (q 0)), (1, .long bits), (3, .int m_)]) rfl (nn_add (a := k) (b := 1) rfl rfl rfl) (by decide) rfl dX9_called_64 ?_
        refine aw_goto X (pc := 67) (tgt := 3) (by decide) dX9_called_67 ?_
        have e4 : b_X9_called_3 a w bits m_ k sv = upd sv k 0 := by simp only [b_X9_called_3, if_pos c3]
        exact aw_sub (lv' := [(4, .int (nI (k + 1))), (0, .ref (q 0)), (1, .long bits), (3, .int m_)]) [0, 1, 2, 3] rfl (ih1 (k + 1) (upd sv k 0) (by omega)  (by rw [← e4]; exact hf1))
      · refine aw_aload_n X (pc := 29) 1 rfl rfl dX9_called_29 ?_
        refine aw_iload X (pc := 30) 0 rfl dX9_called_30 ?_
        refine aw_iconst X (pc := 32) (v := 0) dX9_called_32 (by decide) ?_
        refine aw_callV X (pc := 33) (q1 := 0) (rest := [.int (nI k), .ref (q 5)]) (st' := [.int (a (300 + 6 * k + 0)), .int (nI k), .ref (q 5)]) (ws' := (mW q kc a w hs inn sv lone lt lz dr)) (c_X9_of l D q kc a w hs inn sv lone lt lz dr (nI k) 0 k 0 rfl rfl (by omega)) rfl rfl [0, 1, 2, 3, 4, 5, 6, 7, 8] [0, 1, 2, 3, 4, 5, 6, 7] rfl rfl rfl rfl ⟨_, _, rfl⟩ rfl cf_X9_44 cd_X9_of dd_X9_of (by decide) (by decide) (by decide) rfl (Nat.le_of_ble_eq_true rfl) dX9_called_33 rfl ?_
        refine aw_iconst X (pc := 36) (v := 1) dX9_called_36 (by decide) ?_
        refine aw_icmp_lt X (pc := 37) (tgt := 62) (by decide) dX9_called_37 (fun c5 => ?_) (fun c5 => ?_)
        · refine aw_iconst X (pc := 62) (v := 0) dX9_called_62 (by decide) ?_
          refine aw_zast X (pc := 63) 5 4 (ws' := (mW q kc a w hs inn (upd sv k 0) lone lt lz dr)) k rfl (by decide) rfl rfl (by decide) (by omega) rfl dX9_called_63 ?_
          refine aw_iinc X (pc := 64) (kx := 0) (v := nI (k + 1)) (lv' := [(4, .int (nI (k + 1))), (0, .ref (q 0)), (1, .long bits), (3, .int m_)]) rfl (nn_add (a := k) (b := 1) rfl rfl rfl) (by decide) rfl dX9_called_64 ?_
          refine aw_goto X (pc := 67) (tgt := 3) (by decide) dX9_called_67 ?_
          have e6 : b_X9_called_3 a w bits m_ k sv = upd sv k 0 := by simp only [b_X9_called_3, if_neg c3, if_pos c5]
          exact aw_sub (lv' := [(4, .int (nI (k + 1))), (0, .ref (q 0)), (1, .long bits), (3, .int m_)]) [0, 1, 2, 3] rfl (ih1 (k + 1) (upd sv k 0) (by omega)  (by rw [← e6]; exact hf1))
        · refine aw_aload_n X (pc := 40) 1 rfl rfl dX9_called_40 ?_
          refine aw_get X (pc := 41) iX9 0 1 rfl rfl (by decide) fl_X9_13 rfl dX9_called_41 ?_
          refine aw_bipush X (pc := 44) (v := 84) dX9_called_44 (by decide) ?_
          refine aw_iload X (pc := 46) 0 rfl dX9_called_46 ?_
          refine aw_iadd X (pc := 48) (z := nI (84 + k)) (nn_add (a := 84) (b := k) rfl rfl (by first | rfl | omega))  dX9_called_48 ?_
          refine aw_lald X (pc := 49) 2 1 (84 + k) rfl rfl rfl (by decide) (by omega) dX9_called_49 ?_
          refine aw_lload_n X (pc := 50) 2 rfl rfl dX9_called_50 ?_
          refine aw_iload_n X (pc := 51) 3 rfl rfl dX9_called_51 ?_
          refine aw_callS X (pc := 52) (rest := [.int (nI k), .ref (q 5)]) (st' := [.int (r_X9_begins (w (84 + k)) bits m_), .int (nI k), .ref (q 5)]) (ws' := (mW q kc a w hs inn sv lone lt lz dr)) (c_X9_begins l D (w (84 + k)) bits m_) rfl [] [] rfl rfl rfl rfl cf_X9_93 cd_X9_begins dd_X9_begins (by decide) (by decide) (by decide) rfl (Nat.le_of_ble_eq_true rfl) dX9_called_52 rfl ?_
          refine aw_if_eq X (pc := 55) (tgt := 62) (by decide) dX9_called_55 (fun c7 => ?_) (fun c7 => ?_)
          · refine aw_iconst X (pc := 62) (v := 0) dX9_called_62 (by decide) ?_
            refine aw_zast X (pc := 63) 5 4 (ws' := (mW q kc a w hs inn (upd sv k 0) lone lt lz dr)) k rfl (by decide) rfl rfl (by decide) (by omega) rfl dX9_called_63 ?_
            refine aw_iinc X (pc := 64) (kx := 0) (v := nI (k + 1)) (lv' := [(4, .int (nI (k + 1))), (0, .ref (q 0)), (1, .long bits), (3, .int m_)]) rfl (nn_add (a := k) (b := 1) rfl rfl rfl) (by decide) rfl dX9_called_64 ?_
            refine aw_goto X (pc := 67) (tgt := 3) (by decide) dX9_called_67 ?_
            have e8 : b_X9_called_3 a w bits m_ k sv = upd sv k 0 := by simp only [b_X9_called_3, if_neg c3, if_neg c5, if_pos c7]
            exact aw_sub (lv' := [(4, .int (nI (k + 1))), (0, .ref (q 0)), (1, .long bits), (3, .int m_)]) [0, 1, 2, 3] rfl (ih1 (k + 1) (upd sv k 0) (by omega)  (by rw [← e8]; exact hf1))
          · refine aw_iconst X (pc := 58) (v := 1) dX9_called_58 (by decide) ?_
            refine aw_goto X (pc := 59) (tgt := 63) (by decide) dX9_called_59 ?_
            refine aw_zast X (pc := 63) 5 4 (ws' := (mW q kc a w hs inn (upd sv k 1) lone lt lz dr)) k rfl (by decide) rfl rfl (by decide) (by omega) rfl dX9_called_63 ?_
            refine aw_iinc X (pc := 64) (kx := 0) (v := nI (k + 1)) (lv' := [(4, .int (nI (k + 1))), (0, .ref (q 0)), (1, .long bits), (3, .int m_)]) rfl (nn_add (a := k) (b := 1) rfl rfl rfl) (by decide) rfl dX9_called_64 ?_
            refine aw_goto X (pc := 67) (tgt := 3) (by decide) dX9_called_67 ?_
            have e9 : b_X9_called_3 a w bits m_ k sv = upd sv k 1 := by simp only [b_X9_called_3, if_neg c3, if_neg c5, if_neg c7]
            exact aw_sub (lv' := [(4, .int (nI (k + 1))), (0, .ref (q 0)), (1, .long bits), (3, .int m_)]) [0, 1, 2, 3] rfl (ih1 (k + 1) (upd sv k 1) (by omega)  (by rw [← e9]; exact hf1))
  exact aw_sub (lv' := [(4, .int 0), (0, .ref (q 0)), (1, .long bits), (3, .int m_)]) [0, 1, 2, 3] rfl (L1 n 0 sp (by omega)  rfl)

def b_X9_slot_9 (a : Nat → Int32) (sp : Nat → Int32) (k : Nat) (σ : Int32 × Int32 × Int32) : Int32 × Int32 × Int32 := if sp k = 0 then (σ.1, σ.2.1, σ.2.2) else (if a (300 + 6 * k + 0) = 5 then (if 0 ≤ σ.2.2 then (σ.1, σ.2.1 + 1, σ.2.2) else (σ.1, σ.2.1 + 1, nI k)) else (σ.1 + 1, σ.2.1, nI k))
def r_X9_slot (a : Nat → Int32) (sp : Nat → Int32) (n : Nat) : Nat := if ((lpF (b_X9_slot_9 a sp) n 0 (0, 0, (-1))).1) + ((lpF (b_X9_slot_9 a sp) n 0 (0, 0, (-1))).2.1) = 1 then (if ((lpF (b_X9_slot_9 a sp) n 0 (0, 0, (-1))).1) + ((lpF (b_X9_slot_9 a sp) n 0 (0, 0, (-1))).2.1) = 0 then 0 else (if ((lpF (b_X9_slot_9 a sp) n 0 (0, 0, (-1))).2.2) < 0 then 2 else 1)) else (if a 1 = 1 then (if ((lpF (b_X9_slot_9 a sp) n 0 (0, 0, (-1))).1) = 1 then (if ((lpF (b_X9_slot_9 a sp) n 0 (0, 0, (-1))).1) + ((lpF (b_X9_slot_9 a sp) n 0 (0, 0, (-1))).2.1) = 0 then 0 else (if ((lpF (b_X9_slot_9 a sp) n 0 (0, 0, (-1))).2.2) < 0 then 2 else 1)) else (if ((lpF (b_X9_slot_9 a sp) n 0 (0, 0, (-1))).1) + ((lpF (b_X9_slot_9 a sp) n 0 (0, 0, (-1))).2.1) = 0 then 0 else 2)) else (if ((lpF (b_X9_slot_9 a sp) n 0 (0, 0, (-1))).1) + ((lpF (b_X9_slot_9 a sp) n 0 (0, 0, (-1))).2.1) = 0 then 0 else 2))
def u_X9_slot_lone (a : Nat → Int32) (sp : Nat → Int32) (n : Nat) : Int32 := if ((lpF (b_X9_slot_9 a sp) n 0 (0, 0, (-1))).1) + ((lpF (b_X9_slot_9 a sp) n 0 (0, 0, (-1))).2.1) = 1 then ((lpF (b_X9_slot_9 a sp) n 0 (0, 0, (-1))).2.2) else (if a 1 = 1 then (if ((lpF (b_X9_slot_9 a sp) n 0 (0, 0, (-1))).1) = 1 then ((lpF (b_X9_slot_9 a sp) n 0 (0, 0, (-1))).2.2) else (-1)) else (-1))
abbrev rm_X9_slot : Room := { frames := 1, cells := 0, slots := 0, locals := 22 }
set_option maxHeartbeats 4000000 in
set_option maxRecDepth 100000 in
theorem c_X9_slot (l : Launch) (D : va_G) (q : Nat → Nat) (kc : Nat → ClassId) (a : Nat → Int32) (w : Nat → Int64) (hs : Nat → Int32) (inn : Nat → Int32) (sp : Nat → Int32) (lone : Int32) (lt : Nat → Int64) (lz : Nat → Int32) (dr : Nat → Int32) (n : Nat) (ha0 : a 0 = nI n) (hn : n ≤ 40) : MW l D yX9_slot (Cond.code yX9_slot cX9_slot 5 (some .int) :: TT) rm_X9_slot [.ref (q 0)] [(kc 1, .int), (kc 2, .long), (kc 3, .boolean), (kc 4, .boolean), (kc 5, .boolean), (kc 6, .long), (kc 7, .int), (kc 8, .int)] (mW q kc a w hs inn sp lone lt lz dr) (some (.int (nI (r_X9_slot a sp n)))) (mW q kc a w hs inn sp (u_X9_slot_lone a sp n) lt lz dr) := by
  refine MW.of (cc := cX9_slot) (nL := 5) (ret := (some .int)) (lv := [(0, .ref (q 0))]) (by decide) rfl rfl (Nat.le_of_ble_eq_true rfl) ?_
  intro p e s m args below meth c A Q hQ X
  refine aw_iconst X (pc := 0) (v := 0) dX9_slot_0 (by decide) ?_
  refine aw_istore_n X (pc := 1) (lv' := [(1, .int 0), (0, .ref (q 0))]) rfl (by decide) rfl dX9_slot_1 ?_
  refine aw_iconst X (pc := 2) (v := 0) dX9_slot_2 (by decide) ?_
  refine aw_istore_n X (pc := 3) (lv' := [(2, .int 0), (1, .int 0), (0, .ref (q 0))]) rfl (by decide) rfl dX9_slot_3 ?_
  refine aw_iconst X (pc := 4) (v := (-1)) dX9_slot_4 (by decide) ?_
  refine aw_istore_n X (pc := 5) (lv' := [(3, .int (-1)), (2, .int 0), (1, .int 0), (0, .ref (q 0))]) rfl (by decide) rfl dX9_slot_5 ?_
  refine aw_iconst X (pc := 6) (v := 0) dX9_slot_6 (by decide) ?_
  refine aw_istore X (pc := 7) (lv' := [(4, .int 0), (3, .int (-1)), (2, .int 0), (1, .int 0), (0, .ref (q 0))]) (by decide) rfl dX9_slot_7 ?_
  have L1 : ∀ (n1 k : Nat) (stg : Int32) (wk : Int32) (who : Int32), k + n1 = n → lpF (b_X9_slot_9 a sp) n1 k (stg, wk, who) = lpF (b_X9_slot_9 a sp) n 0 (0, 0, (-1)) → AW p l e rm_X9_slot s m args below meth c D A 5 0 0 Q 9 [(4, .int (nI k)), (3, .int who), (2, .int wk), (1, .int stg), (0, .ref (q 0))] [] (mW q kc a w hs inn sp lone lt lz dr) := by
    intro n1; induction n1 with
    | zero =>
      intro k stg wk who hk1  hf1
      have hf1 : (stg, wk, who) = lpF (b_X9_slot_9 a sp) n 0 (0, 0, (-1)) := hf1
      refine aw_iload X (pc := 9) 0 rfl dX9_slot_9 ?_
      refine aw_aload_n X (pc := 11) 4 rfl rfl dX9_slot_11 ?_
      refine aw_get X (pc := 12) iX9 0 0 rfl rfl (by decide) fl_X9_7 rfl dX9_slot_12 ?_
      refine aw_iconst X (pc := 15) (v := 0) dX9_slot_15 (by decide) ?_
      refine aw_iald X (pc := 16) 1 0 0 rfl rfl rfl (by decide) (by omega) dX9_slot_16 ?_
      refine aw_icmp_ge X (pc := 17) (tgt := 77) (by decide) dX9_slot_17 (fun c12 => ?_) (fun c12 => absurd (nn_le (a := n) (b := k) ha0 rfl (by omega) (by omega)) c12)
      refine aw_aload_n X (pc := 77) 4 rfl rfl dX9_slot_77 ?_
      refine aw_iload_n X (pc := 78) 3 rfl rfl dX9_slot_78 ?_
      refine aw_iload_n X (pc := 79) 2 rfl rfl dX9_slot_79 ?_
      refine aw_iadd X (pc := 80) (z := stg + wk) rfl  dX9_slot_80 ?_
      refine aw_iconst X (pc := 81) (v := 1) dX9_slot_81 (by decide) ?_
      refine aw_icmp_eq X (pc := 82) (tgt := 100) (by decide) dX9_slot_82 (fun c13 => ?_) (fun c13 => ?_)
      · refine aw_iload_n X (pc := 100) 1 rfl rfl dX9_slot_100 ?_
        refine aw_goto X (pc := 101) (tgt := 105) (by decide) dX9_slot_101 ?_
        refine aw_put X (pc := 105) (ws' := (mW q kc a w hs inn sp who lt lz dr)) tyX9 tyX9_ok nmX9 iX9 0 5 rfl rfl (by decide) fl_X9_86 rfl (tyX9_ok 5 (by decide)) rfl rfl (Nat.le_of_ble_eq_true rfl) rfl dX9_slot_105 ?_
        refine aw_iload_n X (pc := 108) 3 rfl rfl dX9_slot_108 ?_
        refine aw_iload_n X (pc := 109) 2 rfl rfl dX9_slot_109 ?_
        refine aw_iadd X (pc := 110) (z := stg + wk) rfl  dX9_slot_110 ?_
        refine aw_if_ne X (pc := 111) (tgt := 118) (by decide) dX9_slot_111 (fun c14 => ?_) (fun c14 => ?_)
        · refine aw_aload_n X (pc := 118) 4 rfl rfl dX9_slot_118 ?_
          refine aw_get X (pc := 119) iX9 0 5 rfl rfl (by decide) fl_X9_86 rfl dX9_slot_119 ?_
          refine aw_if_lt X (pc := 122) (tgt := 129) (by decide) dX9_slot_122 (fun c15 => ?_) (fun c15 => ?_)
          · refine aw_iconst X (pc := 129) (v := 2) dX9_slot_129 (by decide) ?_
            exact aw_iret X (v := 2) hQ (by simp only [r_X9_slot, if_pos c13, if_neg c14, if_pos c15, ← hf1]; try rfl) (by simp only [u_X9_slot_lone, if_pos c13, if_neg c14, if_pos c15, ← hf1]) dX9_slot_130
          · refine aw_iconst X (pc := 125) (v := 1) dX9_slot_125 (by decide) ?_
            refine aw_goto X (pc := 126) (tgt := 130) (by decide) dX9_slot_126 ?_
            exact aw_iret X (v := 1) hQ (by simp only [r_X9_slot, if_pos c13, if_neg c14, if_neg c15, ← hf1]; try rfl) (by simp only [u_X9_slot_lone, if_pos c13, if_neg c14, if_neg c15, ← hf1]) dX9_slot_130
        · refine aw_iconst X (pc := 114) (v := 0) dX9_slot_114 (by decide) ?_
          refine aw_goto X (pc := 115) (tgt := 130) (by decide) dX9_slot_115 ?_
          exact aw_iret X (v := 0) hQ (by simp only [r_X9_slot, if_pos c13, if_pos c14, ← hf1]; try rfl) (by simp only [u_X9_slot_lone, if_pos c13, if_pos c14, ← hf1]) dX9_slot_130
      · refine aw_aload_n X (pc := 85) 4 rfl rfl dX9_slot_85 ?_
        refine aw_get X (pc := 86) iX9 0 0 rfl rfl (by decide) fl_X9_7 rfl dX9_slot_86 ?_
        refine aw_iconst X (pc := 89) (v := 1) dX9_slot_89 (by decide) ?_
        refine aw_iald X (pc := 90) 1 0 1 rfl rfl rfl (by decide) (by omega) dX9_slot_90 ?_
        refine aw_iconst X (pc := 91) (v := 1) dX9_slot_91 (by decide) ?_
        refine aw_icmp_ne X (pc := 92) (tgt := 104) (by decide) dX9_slot_92 (fun c16 => ?_) (fun c16 => ?_)
        · refine aw_iconst X (pc := 104) (v := (-1)) dX9_slot_104 (by decide) ?_
          refine aw_put X (pc := 105) (ws' := (mW q kc a w hs inn sp (-1) lt lz dr)) tyX9 tyX9_ok nmX9 iX9 0 5 rfl rfl (by decide) fl_X9_86 rfl (tyX9_ok 5 (by decide)) rfl rfl (Nat.le_of_ble_eq_true rfl) rfl dX9_slot_105 ?_
          refine aw_iload_n X (pc := 108) 3 rfl rfl dX9_slot_108 ?_
          refine aw_iload_n X (pc := 109) 2 rfl rfl dX9_slot_109 ?_
          refine aw_iadd X (pc := 110) (z := stg + wk) rfl  dX9_slot_110 ?_
          refine aw_if_ne X (pc := 111) (tgt := 118) (by decide) dX9_slot_111 (fun c17 => ?_) (fun c17 => ?_)
          · refine aw_aload_n X (pc := 118) 4 rfl rfl dX9_slot_118 ?_
            refine aw_get X (pc := 119) iX9 0 5 rfl rfl (by decide) fl_X9_86 rfl dX9_slot_119 ?_
            refine aw_if_lt X (pc := 122) (tgt := 129) (by decide) dX9_slot_122 (fun c18 => ?_) (fun c18 => absurd (by decide) c18)
            refine aw_iconst X (pc := 129) (v := 2) dX9_slot_129 (by decide) ?_
            exact aw_iret X (v := 2) hQ (by simp only [r_X9_slot, if_neg c13, if_neg c16, if_neg c17, ← hf1]; try rfl) (by simp only [u_X9_slot_lone, if_neg c13, if_neg c16, if_neg c17, ← hf1]) dX9_slot_130
          · refine aw_iconst X (pc := 114) (v := 0) dX9_slot_114 (by decide) ?_
            refine aw_goto X (pc := 115) (tgt := 130) (by decide) dX9_slot_115 ?_
            exact aw_iret X (v := 0) hQ (by simp only [r_X9_slot, if_neg c13, if_neg c16, if_pos c17, ← hf1]; try rfl) (by simp only [u_X9_slot_lone, if_neg c13, if_neg c16, if_pos c17, ← hf1]) dX9_slot_130
        · refine aw_iload_n X (pc := 95) 3 rfl rfl dX9_slot_95 ?_
          refine aw_iconst X (pc := 96) (v := 1) dX9_slot_96 (by decide) ?_
          refine aw_icmp_ne X (pc := 97) (tgt := 104) (by decide) dX9_slot_97 (fun c19 => ?_) (fun c19 => ?_)
          · refine aw_iconst X (pc := 104) (v := (-1)) dX9_slot_104 (by decide) ?_
            refine aw_put X (pc := 105) (ws' := (mW q kc a w hs inn sp (-1) lt lz dr)) tyX9 tyX9_ok nmX9 iX9 0 5 rfl rfl (by decide) fl_X9_86 rfl (tyX9_ok 5 (by decide)) rfl rfl (Nat.le_of_ble_eq_true rfl) rfl dX9_slot_105 ?_
            refine aw_iload_n X (pc := 108) 3 rfl rfl dX9_slot_108 ?_
            refine aw_iload_n X (pc := 109) 2 rfl rfl dX9_slot_109 ?_
            refine aw_iadd X (pc := 110) (z := stg + wk) rfl  dX9_slot_110 ?_
            refine aw_if_ne X (pc := 111) (tgt := 118) (by decide) dX9_slot_111 (fun c20 => ?_) (fun c20 => ?_)
            · refine aw_aload_n X (pc := 118) 4 rfl rfl dX9_slot_118 ?_
              refine aw_get X (pc := 119) iX9 0 5 rfl rfl (by decide) fl_X9_86 rfl dX9_slot_119 ?_
              refine aw_if_lt X (pc := 122) (tgt := 129) (by decide) dX9_slot_122 (fun c21 => ?_) (fun c21 => absurd (by decide) c21)
              refine aw_iconst X (pc := 129) (v := 2) dX9_slot_129 (by decide) ?_
              exact aw_iret X (v := 2) hQ (by simp only [r_X9_slot, if_neg c13, if_pos c16, if_neg c19, if_neg c20, ← hf1]; try rfl) (by simp only [u_X9_slot_lone, if_neg c13, if_pos c16, if_neg c19, if_neg c20, ← hf1]) dX9_slot_130
            · refine aw_iconst X (pc := 114) (v := 0) dX9_slot_114 (by decide) ?_
              refine aw_goto X (pc := 115) (tgt := 130) (by decide) dX9_slot_115 ?_
              exact aw_iret X (v := 0) hQ (by simp only [r_X9_slot, if_neg c13, if_pos c16, if_neg c19, if_pos c20, ← hf1]; try rfl) (by simp only [u_X9_slot_lone, if_neg c13, if_pos c16, if_neg c19, if_pos c20, ← hf1]) dX9_slot_130
          · refine aw_iload_n X (pc := 100) 1 rfl rfl dX9_slot_100 ?_
            refine aw_goto X (pc := 101) (tgt := 105) (by decide) dX9_slot_101 ?_
            refine aw_put X (pc := 105) (ws' := (mW q kc a w hs inn sp who lt lz dr)) tyX9 tyX9_ok nmX9 iX9 0 5 rfl rfl (by decide) fl_X9_86 rfl (tyX9_ok 5 (by decide)) rfl rfl (Nat.le_of_ble_eq_true rfl) rfl dX9_slot_105 ?_
            refine aw_iload_n X (pc := 108) 3 rfl rfl dX9_slot_108 ?_
            refine aw_iload_n X (pc := 109) 2 rfl rfl dX9_slot_109 ?_
            refine aw_iadd X (pc := 110) (z := stg + wk) rfl  dX9_slot_110 ?_
            refine aw_if_ne X (pc := 111) (tgt := 118) (by decide) dX9_slot_111 (fun c22 => ?_) (fun c22 => ?_)
            · refine aw_aload_n X (pc := 118) 4 rfl rfl dX9_slot_118 ?_
              refine aw_get X (pc := 119) iX9 0 5 rfl rfl (by decide) fl_X9_86 rfl dX9_slot_119 ?_
              refine aw_if_lt X (pc := 122) (tgt := 129) (by decide) dX9_slot_122 (fun c23 => ?_) (fun c23 => ?_)
              · refine aw_iconst X (pc := 129) (v := 2) dX9_slot_129 (by decide) ?_
                exact aw_iret X (v := 2) hQ (by simp only [r_X9_slot, if_neg c13, if_pos c16, if_pos c19, if_neg c22, if_pos c23, ← hf1]; try rfl) (by simp only [u_X9_slot_lone, if_neg c13, if_pos c16, if_pos c19, if_neg c22, if_pos c23, ← hf1]) dX9_slot_130
              · refine aw_iconst X (pc := 125) (v := 1) dX9_slot_125 (by decide) ?_
                refine aw_goto X (pc := 126) (tgt := 130) (by decide) dX9_slot_126 ?_
                exact aw_iret X (v := 1) hQ (by simp only [r_X9_slot, if_neg c13, if_pos c16, if_pos c19, if_neg c22, if_neg c23, ← hf1]; try rfl) (by simp only [u_X9_slot_lone, if_neg c13, if_pos c16, if_pos c19, if_neg c22, if_neg c23, ← hf1]) dX9_slot_130
            · refine aw_iconst X (pc := 114) (v := 0) dX9_slot_114 (by decide) ?_
              refine aw_goto X (pc := 115) (tgt := 130) (by decide) dX9_slot_115 ?_
              exact aw_iret X (v := 0) hQ (by simp only [r_X9_slot, if_neg c13, if_pos c16, if_pos c19, if_pos c22, ← hf1]; try rfl) (by simp only [u_X9_slot_lone, if_neg c13, if_pos c16, if_pos c19, if_pos c22, ← hf1]) dX9_slot_130
    | succ n1 ih1 =>
      intro k stg wk who hk1  hf1
      have hf1 : lpF (b_X9_slot_9 a sp) n1 (k + 1) (b_X9_slot_9 a sp k (stg, wk, who)) = lpF (b_X9_slot_9 a sp) n 0 (0, 0, (-1)) := hf1
      refine aw_iload X (pc := 9) 0 rfl dX9_slot_9 ?_
      refine aw_aload_n X (pc := 11) 4 rfl rfl dX9_slot_11 ?_
      refine aw_get X (pc := 12) iX9 0 0 rfl rfl (by decide) fl_X9_7 rfl dX9_slot_12 ?_
      refine aw_iconst X (pc := 15) (v := 0) dX9_slot_15 (by decide) ?_
      refine aw_iald X (pc := 16) 1 0 0 rfl rfl rfl (by decide) (by omega) dX9_slot_16 ?_
      refine aw_icmp_ge X (pc := 17) (tgt := 77) (by decide) dX9_slot_17 (fun c2 => absurd c2 (nn_nle (a := n) (b := k) ha0 rfl (by omega) (by omega))) (fun c2 => ?_)
      refine aw_aload_n X (pc := 20) 4 rfl rfl dX9_slot_20 ?_
      refine aw_get X (pc := 21) iX9 0 4 rfl rfl (by decide) fl_X9_24 rfl dX9_slot_21 ?_
      refine aw_iload X (pc := 24) 0 rfl dX9_slot_24 ?_
      refine aw_zald X (pc := 26) 5 4 k rfl rfl rfl (by decide) (by omega) dX9_slot_26 ?_
      refine aw_if_ne X (pc := 27) (tgt := 33) (by decide) dX9_slot_27 (fun c3 => ?_) (fun c3 => ?_)
      · refine aw_aload_n X (pc := 33) 4 rfl rfl dX9_slot_33 ?_
        refine aw_iload X (pc := 34) 0 rfl dX9_slot_34 ?_
        refine aw_iconst X (pc := 36) (v := 0) dX9_slot_36 (by decide) ?_
        refine aw_callV X (pc := 37) (q1 := 0) (rest := []) (st' := [.int (a (300 + 6 * k + 0))]) (ws' := (mW q kc a w hs inn sp lone lt lz dr)) (c_X9_of l D q kc a w hs inn sp lone lt lz dr (nI k) 0 k 0 rfl rfl (by omega)) rfl rfl [0, 1, 2, 3, 4, 5, 6, 7, 8] [0, 1, 2, 3, 4, 5, 6, 7] rfl rfl rfl rfl ⟨_, _, rfl⟩ rfl cf_X9_44 cd_X9_of dd_X9_of (by decide) (by decide) (by decide) rfl (Nat.le_of_ble_eq_true rfl) dX9_slot_37 rfl ?_
        refine aw_iconst X (pc := 40) (v := 5) dX9_slot_40 (by decide) ?_
        refine aw_icmp_ne X (pc := 41) (tgt := 50) (by decide) dX9_slot_41 (fun c4 => ?_) (fun c4 => ?_)
        · refine aw_iinc X (pc := 50) (kx := 3) (v := stg + 1) (lv' := [(1, .int (stg + 1)), (4, .int (nI k)), (3, .int who), (2, .int wk), (0, .ref (q 0))]) rfl rfl (by decide) rfl dX9_slot_50 ?_
          refine aw_aload_n X (pc := 53) 4 rfl rfl dX9_slot_53 ?_
          refine aw_iload X (pc := 54) 1 rfl dX9_slot_54 ?_
          refine aw_iconst X (pc := 56) (v := 0) dX9_slot_56 (by decide) ?_
          refine aw_callV X (pc := 57) (q1 := 0) (rest := []) (st' := [.int (a (300 + 6 * k + 0))]) (ws' := (mW q kc a w hs inn sp lone lt lz dr)) (c_X9_of l D q kc a w hs inn sp lone lt lz dr (nI k) 0 k 0 rfl rfl (by omega)) rfl rfl [0, 1, 2, 3, 4, 5, 6, 7, 8] [0, 1, 2, 3, 4, 5, 6, 7] rfl rfl rfl rfl ⟨_, _, rfl⟩ rfl cf_X9_44 cd_X9_of dd_X9_of (by decide) (by decide) (by decide) rfl (Nat.le_of_ble_eq_true rfl) dX9_slot_57 rfl ?_
          refine aw_iconst X (pc := 60) (v := 5) dX9_slot_60 (by decide) ?_
          refine aw_icmp_ne X (pc := 61) (tgt := 68) (by decide) dX9_slot_61 (fun c5 => ?_) (fun c5 => absurd c5 c4)
          refine aw_iload X (pc := 68) 1 rfl dX9_slot_68 ?_
          refine aw_istore_n X (pc := 70) (lv' := [(3, .int (nI k)), (1, .int (stg + 1)), (4, .int (nI k)), (2, .int wk), (0, .ref (q 0))]) rfl (by decide) rfl dX9_slot_70 ?_
          refine aw_iinc X (pc := 71) (kx := 2) (v := nI (k + 1)) (lv' := [(4, .int (nI (k + 1))), (3, .int (nI k)), (1, .int (stg + 1)), (2, .int wk), (0, .ref (q 0))]) rfl (nn_add (a := k) (b := 1) rfl rfl rfl) (by decide) rfl dX9_slot_71 ?_
          refine aw_goto X (pc := 74) (tgt := 9) (by decide) dX9_slot_74 ?_
          have e6 : b_X9_slot_9 a sp k (stg, wk, who) = (stg + 1, wk, nI k) := by simp only [b_X9_slot_9, if_neg c3, if_neg c4]
          exact aw_sub (lv' := [(4, .int (nI (k + 1))), (3, .int (nI k)), (2, .int wk), (1, .int (stg + 1)), (0, .ref (q 0))]) [0, 1, 3, 2, 4] rfl (ih1 (k + 1) (stg + 1) wk (nI k) (by omega)  (by rw [← e6]; exact hf1))
        · refine aw_iinc X (pc := 44) (kx := 2) (v := wk + 1) (lv' := [(2, .int (wk + 1)), (4, .int (nI k)), (3, .int who), (1, .int stg), (0, .ref (q 0))]) rfl rfl (by decide) rfl dX9_slot_44 ?_
          refine aw_goto X (pc := 47) (tgt := 53) (by decide) dX9_slot_47 ?_
          refine aw_aload_n X (pc := 53) 4 rfl rfl dX9_slot_53 ?_
          refine aw_iload X (pc := 54) 1 rfl dX9_slot_54 ?_
          refine aw_iconst X (pc := 56) (v := 0) dX9_slot_56 (by decide) ?_
          refine aw_callV X (pc := 57) (q1 := 0) (rest := []) (st' := [.int (a (300 + 6 * k + 0))]) (ws' := (mW q kc a w hs inn sp lone lt lz dr)) (c_X9_of l D q kc a w hs inn sp lone lt lz dr (nI k) 0 k 0 rfl rfl (by omega)) rfl rfl [0, 1, 2, 3, 4, 5, 6, 7, 8] [0, 1, 2, 3, 4, 5, 6, 7] rfl rfl rfl rfl ⟨_, _, rfl⟩ rfl cf_X9_44 cd_X9_of dd_X9_of (by decide) (by decide) (by decide) rfl (Nat.le_of_ble_eq_true rfl) dX9_slot_57 rfl ?_
          refine aw_iconst X (pc := 60) (v := 5) dX9_slot_60 (by decide) ?_
          refine aw_icmp_ne X (pc := 61) (tgt := 68) (by decide) dX9_slot_61 (fun c7 => absurd c4 c7) (fun c7 => ?_)
          refine aw_iload_n X (pc := 64) 2 rfl rfl dX9_slot_64 ?_
          refine aw_if_ge X (pc := 65) (tgt := 71) (by decide) dX9_slot_65 (fun c8 => ?_) (fun c8 => ?_)
          · refine aw_iinc X (pc := 71) (kx := 1) (v := nI (k + 1)) (lv' := [(4, .int (nI (k + 1))), (2, .int (wk + 1)), (3, .int who), (1, .int stg), (0, .ref (q 0))]) rfl (nn_add (a := k) (b := 1) rfl rfl rfl) (by decide) rfl dX9_slot_71 ?_
            refine aw_goto X (pc := 74) (tgt := 9) (by decide) dX9_slot_74 ?_
            have e9 : b_X9_slot_9 a sp k (stg, wk, who) = (stg, wk + 1, who) := by simp only [b_X9_slot_9, if_neg c3, if_pos c4, if_pos c8]
            exact aw_sub (lv' := [(4, .int (nI (k + 1))), (3, .int who), (2, .int (wk + 1)), (1, .int stg), (0, .ref (q 0))]) [0, 2, 1, 3, 4] rfl (ih1 (k + 1) stg (wk + 1) who (by omega)  (by rw [← e9]; exact hf1))
          · refine aw_iload X (pc := 68) 1 rfl dX9_slot_68 ?_
            refine aw_istore_n X (pc := 70) (lv' := [(3, .int (nI k)), (2, .int (wk + 1)), (4, .int (nI k)), (1, .int stg), (0, .ref (q 0))]) rfl (by decide) rfl dX9_slot_70 ?_
            refine aw_iinc X (pc := 71) (kx := 2) (v := nI (k + 1)) (lv' := [(4, .int (nI (k + 1))), (3, .int (nI k)), (2, .int (wk + 1)), (1, .int stg), (0, .ref (q 0))]) rfl (nn_add (a := k) (b := 1) rfl rfl rfl) (by decide) rfl dX9_slot_71 ?_
            refine aw_goto X (pc := 74) (tgt := 9) (by decide) dX9_slot_74 ?_
            have e10 : b_X9_slot_9 a sp k (stg, wk, who) = (stg, wk + 1, nI k) := by simp only [b_X9_slot_9, if_neg c3, if_pos c4, if_neg c8]
            exact aw_sub (lv' := [(4, .int (nI (k + 1))), (3, .int (nI k)), (2, .int (wk + 1)), (1, .int stg), (0, .ref (q 0))]) [0, 1, 2, 3, 4] rfl (ih1 (k + 1) stg (wk + 1) (nI k) (by omega)  (by rw [← e10]; exact hf1))
      · refine aw_goto X (pc := 30) (tgt := 71) (by decide) dX9_slot_30 ?_
        refine aw_iinc X (pc := 71) (kx := 0) (v := nI (k + 1)) (lv' := [(4, .int (nI (k + 1))), (3, .int who), (2, .int wk), (1, .int stg), (0, .ref (q 0))]) rfl (nn_add (a := k) (b := 1) rfl rfl rfl) (by decide) rfl dX9_slot_71 ?_
        refine aw_goto X (pc := 74) (tgt := 9) (by decide) dX9_slot_74 ?_
        have e11 : b_X9_slot_9 a sp k (stg, wk, who) = (stg, wk, who) := by simp only [b_X9_slot_9, if_pos c3]
        exact aw_sub (lv' := [(4, .int (nI (k + 1))), (3, .int who), (2, .int wk), (1, .int stg), (0, .ref (q 0))]) [0, 1, 2, 3, 4] rfl (ih1 (k + 1) stg wk who (by omega)  (by rw [← e11]; exact hf1))
  exact aw_sub (lv' := [(4, .int 0), (3, .int (-1)), (2, .int 0), (1, .int 0), (0, .ref (q 0))]) [0, 1, 2, 3, 4] rfl (L1 n 0 0 0 (-1) (by omega)  rfl)

theorem le_X9_slot (a : Nat → Int32) (sp : Nat → Int32) (n : Nat) : r_X9_slot a sp n ≤ 2 := by
  unfold r_X9_slot
  repeat' split
  all_goals decide
theorem slot_who (a : Nat → Int32) (sp : Nat → Int32) (n : Nat) : (lpF (b_X9_slot_9 a sp) n 0 (0, 0, (-1))).2.2 = -1 ∨ ∃ j : Nat, j < n ∧ (lpF (b_X9_slot_9 a sp) n 0 (0, 0, (-1))).2.2 = nI j := by
  have h := lpF_inv (body := b_X9_slot_9 a sp) (fun k σ => σ.2.2 = -1 ∨ ∃ j : Nat, j < k ∧ σ.2.2 = nI j) n 0 (0, 0, (-1)) (Or.inl rfl) (fun j t _ _ h => by
    unfold b_X9_slot_9
    have h' : t.2.2 = -1 ∨ ∃ i : Nat, i < j + 1 ∧ t.2.2 = nI i := by
      rcases h with h | ⟨i, h1, h2⟩
      · exact Or.inl h
      · exact Or.inr ⟨i, by omega, h2⟩
    split
    · exact h'
    · split
      · split
        · exact h'
        · exact Or.inr ⟨j, by omega, rfl⟩
      · exact Or.inr ⟨j, by omega, rfl⟩)
  rw [Nat.zero_add] at h
  exact h
theorem slot_lone_or (a : Nat → Int32) (sp : Nat → Int32) (n : Nat) : u_X9_slot_lone a sp n = -1 ∨ ∃ j : Nat, j < n ∧ u_X9_slot_lone a sp n = nI j := by
  unfold u_X9_slot_lone
  have h := slot_who a sp n
  repeat' split
  all_goals first | exact h | exact Or.inl rfl
theorem slot_lone_1 {a : Nat → Int32} {sp : Nat → Int32} {n : Nat} (h : r_X9_slot a sp n = 1) : ¬ u_X9_slot_lone a sp n < 0 := by
  unfold r_X9_slot at h
  unfold u_X9_slot_lone
  generalize lpF (b_X9_slot_9 a sp) n 0 (0, 0, (-1)) = T at h ⊢
  by_cases h1 : T.1 + T.2.1 = 1
  · rw [if_pos h1] at h ⊢
    by_cases h2 : T.1 + T.2.1 = 0
    · rw [if_pos h2] at h; exact absurd h (by decide)
    · rw [if_neg h2] at h
      by_cases h3 : T.2.2 < 0
      · rw [if_pos h3] at h; exact absurd h (by decide)
      · exact h3
  · rw [if_neg h1] at h ⊢
    by_cases h2 : a 1 = 1
    · rw [if_pos h2] at h ⊢
      by_cases h4 : T.1 = 1
      · rw [if_pos h4] at h ⊢
        by_cases h2 : T.1 + T.2.1 = 0
        · rw [if_pos h2] at h; exact absurd h (by decide)
        · rw [if_neg h2] at h
          by_cases h3 : T.2.2 < 0
          · rw [if_pos h3] at h; exact absurd h (by decide)
          · exact h3
      · rw [if_neg h4] at h
        by_cases h2 : T.1 + T.2.1 = 0
        · rw [if_pos h2] at h; exact absurd h (by decide)
        · rw [if_neg h2] at h; exact absurd h (by decide)
    · rw [if_neg h2] at h
      by_cases h2 : T.1 + T.2.1 = 0
      · rw [if_pos h2] at h; exact absurd h (by decide)
      · rw [if_neg h2] at h; exact absurd h (by decide)
theorem slot_lone_nat {a : Nat → Int32} {sp : Nat → Int32} {n : Nat} (hn : n ≤ 40) (h : nI (r_X9_slot a sp n) = 1) : u_X9_slot_lone a sp n = nI (u_X9_slot_lone a sp n).toNatClampNeg ∧ (u_X9_slot_lone a sp n).toNatClampNeg < n := by
  have h0 : r_X9_slot a sp n = 1 := (nI_eq (Nat.lt_of_le_of_lt (le_X9_slot a sp n) (by decide)) (by decide)).mp h
  have h1 := slot_lone_1 h0
  rcases slot_lone_or a sp n with h2 | ⟨j, h2, h3⟩
  · rw [h2] at h1; exact absurd (by decide) h1
  · rw [h3, nI_clamp (by omega)]
    exact ⟨rfl, h2⟩

def r_X9_counted (a : Nat → Int32) (sp : Nat → Int32) (n : Nat) : Nat := r_X9_slot a sp n
def u_X9_counted_a (a : Nat → Int32) (sp : Nat → Int32) (n : Nat) : Nat → Int32 := upd a (11 + r_X9_slot a sp n) ((a (11 + r_X9_slot a sp n)) + 1)
abbrev rm_X9_counted : Room := { frames := 2, cells := 0, slots := 0, locals := 46 }
set_option maxHeartbeats 4000000 in
set_option maxRecDepth 100000 in
theorem c_X9_counted (l : Launch) (D : va_G) (q : Nat → Nat) (kc : Nat → ClassId) (a : Nat → Int32) (w : Nat → Int64) (hs : Nat → Int32) (inn : Nat → Int32) (sp : Nat → Int32) (lone : Int32) (lt : Nat → Int64) (lz : Nat → Int32) (dr : Nat → Int32) (n : Nat) (ha0 : a 0 = nI n) (hn : n ≤ 40) : MW l D yX9_counted (Cond.code yX9_counted cX9_counted 2 (some .int) :: TT) rm_X9_counted [.ref (q 0)] [(kc 1, .int), (kc 2, .long), (kc 3, .boolean), (kc 4, .boolean), (kc 5, .boolean), (kc 6, .long), (kc 7, .int), (kc 8, .int)] (mW q kc a w hs inn sp lone lt lz dr) (some (.int (nI (r_X9_counted a sp n)))) (mW q kc (u_X9_counted_a a sp n) w hs inn sp (u_X9_slot_lone a sp n) lt lz dr) := by
  refine MW.of (cc := cX9_counted) (nL := 2) (ret := (some .int)) (lv := [(0, .ref (q 0))]) (by decide) rfl rfl (Nat.le_of_ble_eq_true rfl) ?_
  intro p e s m args below meth c A Q hQ X
  refine aw_aload_n X (pc := 0) 0 rfl rfl dX9_counted_0 ?_
  refine aw_callV X (pc := 1) (q1 := 0) (rest := []) (st' := [.int (nI (r_X9_slot a sp n))]) (ws' := (mW q kc a w hs inn sp (u_X9_slot_lone a sp n) lt lz dr)) (c_X9_slot l D q kc a w hs inn sp lone lt lz dr n ha0 (by omega)) rfl rfl [0, 1, 2, 3, 4, 5, 6, 7, 8] [0, 1, 2, 3, 4, 5, 6, 7] rfl rfl rfl rfl ⟨_, _, rfl⟩ rfl cf_X9_90 cd_X9_slot dd_X9_slot (by decide) (by decide) (by decide) rfl (Nat.le_of_ble_eq_true rfl) dX9_counted_1 rfl ?_
  have hs1 : r_X9_slot a sp n ≤ 2 := le_X9_slot ..
  refine aw_istore_n X (pc := 4) (lv' := [(1, .int (nI (r_X9_slot a sp n))), (0, .ref (q 0))]) rfl (by decide) rfl dX9_counted_4 ?_
  refine aw_aload_n X (pc := 5) 1 rfl rfl dX9_counted_5 ?_
  refine aw_get X (pc := 6) iX9 0 0 rfl rfl (by decide) fl_X9_7 rfl dX9_counted_6 ?_
  refine aw_bipush X (pc := 9) (v := 11) dX9_counted_9 (by decide) ?_
  refine aw_iload_n X (pc := 11) 0 rfl rfl dX9_counted_11 ?_
  refine aw_iadd X (pc := 12) (z := nI (11 + r_X9_slot a sp n)) (nn_add (a := 11) (b := r_X9_slot a sp n) rfl rfl (by first | rfl | omega))  dX9_counted_12 ?_
  refine aw_dup2_11 X (pc := 13) dX9_counted_13 rfl rfl ?_
  refine aw_iald X (pc := 14) 1 0 (11 + r_X9_slot a sp n) rfl rfl rfl (by decide) (by omega) dX9_counted_14 ?_
  refine aw_iconst X (pc := 15) (v := 1) dX9_counted_15 (by decide) ?_
  refine aw_iadd X (pc := 16) (z := (a (11 + r_X9_slot a sp n)) + 1) rfl  dX9_counted_16 ?_
  refine aw_iast X (pc := 17) 1 0 (ws' := (mW q kc (upd a (11 + r_X9_slot a sp n) ((a (11 + r_X9_slot a sp n)) + 1)) w hs inn sp (u_X9_slot_lone a sp n) lt lz dr)) (11 + r_X9_slot a sp n) rfl  rfl rfl (by decide) (by omega) rfl dX9_counted_17 ?_
  have ha2 : (upd a (11 + r_X9_slot a sp n) ((a (11 + r_X9_slot a sp n)) + 1)) 0 = nI n := by rw [pk_un (by omega)]; exact ha0
  refine aw_iload_n X (pc := 18) 0 rfl rfl dX9_counted_18 ?_
  exact aw_iret X (v := nI (r_X9_slot a sp n)) hQ rfl rfl dX9_counted_19

theorem fr_X9_counted {a : Nat → Int32} {sp : Nat → Int32} {n j : Nat} (h : j < 11 ∨ 13 < j) : u_X9_counted_a a sp n j = a j := by
  unfold u_X9_counted_a
  have := le_X9_slot a sp n
  rw [pk_un (by omega)]

def r_X9_ask (a : Nat → Int32) (w : Nat → Int64) (sp : Nat → Int32) (n : Nat) (bits : Int64) (m_ : Int32) : Int32 := if m_ < 0 then (-1) else (if m_ ≤ 64 then (nI (r_X9_counted a (lpF (b_X9_called_3 a w bits m_) n 0 sp) n)) else (-1))
def u_X9_ask_a (a : Nat → Int32) (w : Nat → Int64) (sp : Nat → Int32) (n : Nat) (bits : Int64) (m_ : Int32) : Nat → Int32 := if m_ < 0 then a else (if m_ ≤ 64 then (upd (u_X9_counted_a a (lpF (b_X9_called_3 a w bits m_) n 0 sp) n) 6 (u_X9_slot_lone a (lpF (b_X9_called_3 a w bits m_) n 0 sp) n)) else a)
def u_X9_ask_sp (a : Nat → Int32) (w : Nat → Int64) (sp : Nat → Int32) (n : Nat) (bits : Int64) (m_ : Int32) : Nat → Int32 := if m_ < 0 then sp else (if m_ ≤ 64 then (lpF (b_X9_called_3 a w bits m_) n 0 sp) else sp)
def u_X9_ask_lone (a : Nat → Int32) (w : Nat → Int64) (sp : Nat → Int32) (lone : Int32) (n : Nat) (bits : Int64) (m_ : Int32) : Int32 := if m_ < 0 then lone else (if m_ ≤ 64 then (u_X9_slot_lone a (lpF (b_X9_called_3 a w bits m_) n 0 sp) n) else lone)
abbrev rm_X9_ask : Room := { frames := 3, cells := 0, slots := 0, locals := 67 }
set_option maxHeartbeats 4000000 in
set_option maxRecDepth 100000 in
theorem c_X9_ask (l : Launch) (D : va_G) (q : Nat → Nat) (kc : Nat → ClassId) (a : Nat → Int32) (w : Nat → Int64) (hs : Nat → Int32) (inn : Nat → Int32) (sp : Nat → Int32) (lone : Int32) (lt : Nat → Int64) (lz : Nat → Int32) (dr : Nat → Int32) (n : Nat) (bits : Int64) (m_ : Int32) (ha0 : a 0 = nI n) (hn : n ≤ 40) : MW l D yX9_ask (Cond.code yX9_ask cX9_ask 5 (some .int) :: TT) rm_X9_ask [.ref (q 0), .long bits, .int m_] [(kc 1, .int), (kc 2, .long), (kc 3, .boolean), (kc 4, .boolean), (kc 5, .boolean), (kc 6, .long), (kc 7, .int), (kc 8, .int)] (mW q kc a w hs inn sp lone lt lz dr) (some (.int (r_X9_ask a w sp n bits m_))) (mW q kc (u_X9_ask_a a w sp n bits m_) w hs inn (u_X9_ask_sp a w sp n bits m_) (u_X9_ask_lone a w sp lone n bits m_) lt lz dr) := by
  refine MW.of (cc := cX9_ask) (nL := 5) (ret := (some .int)) (lv := [(0, .ref (q 0)), (1, .long bits), (3, .int m_)]) (by decide) rfl rfl (Nat.le_of_ble_eq_true rfl) ?_
  intro p e s m args below meth c A Q hQ X
  refine aw_iload_n X (pc := 0) 2 rfl rfl dX9_ask_0 ?_
  refine aw_if_lt X (pc := 1) (tgt := 10) (by decide) dX9_ask_1 (fun c1 => ?_) (fun c1 => ?_)
  · refine aw_iconst X (pc := 10) (v := (-1)) dX9_ask_10 (by decide) ?_
    exact aw_iret X (v := (-1)) hQ (by simp only [r_X9_ask, if_pos c1]; try rfl) (by simp only [u_X9_ask_a, u_X9_ask_sp, u_X9_ask_lone, if_pos c1]) dX9_ask_11
  · refine aw_iload_n X (pc := 4) 2 rfl rfl dX9_ask_4 ?_
    refine aw_bipush X (pc := 5) (v := 64) dX9_ask_5 (by decide) ?_
    refine aw_icmp_le X (pc := 7) (tgt := 12) (by decide) dX9_ask_7 (fun c2 => ?_) (fun c2 => ?_)
    · refine aw_aload_n X (pc := 12) 0 rfl rfl dX9_ask_12 ?_
      refine aw_lload_n X (pc := 13) 1 rfl rfl dX9_ask_13 ?_
      refine aw_iload_n X (pc := 14) 2 rfl rfl dX9_ask_14 ?_
      refine aw_callV X (pc := 15) (q1 := 0) (rest := []) (st' := []) (ws' := (mW q kc a w hs inn (lpF (b_X9_called_3 a w bits m_) n 0 sp) lone lt lz dr)) (c_X9_called l D q kc a w hs inn sp lone lt lz dr n bits m_ ha0 (by omega)) rfl rfl [0, 1, 2, 3, 4, 5, 6, 7, 8] [0, 1, 2, 3, 4, 5, 6, 7] rfl rfl rfl rfl ⟨_, _, rfl⟩ rfl cf_X9_97 cd_X9_called dd_X9_called (by decide) (by decide) (by decide) rfl (Nat.le_of_ble_eq_true rfl) dX9_ask_15 rfl ?_
      refine aw_aload_n X (pc := 18) 0 rfl rfl dX9_ask_18 ?_
      refine aw_callV X (pc := 19) (q1 := 0) (rest := []) (st' := [.int (nI (r_X9_counted a (lpF (b_X9_called_3 a w bits m_) n 0 sp) n))]) (ws' := (mW q kc (u_X9_counted_a a (lpF (b_X9_called_3 a w bits m_) n 0 sp) n) w hs inn (lpF (b_X9_called_3 a w bits m_) n 0 sp) (u_X9_slot_lone a (lpF (b_X9_called_3 a w bits m_) n 0 sp) n) lt lz dr)) (c_X9_counted l D q kc a w hs inn (lpF (b_X9_called_3 a w bits m_) n 0 sp) lone lt lz dr n ha0 (by omega)) rfl rfl [0, 1, 2, 3, 4, 5, 6, 7, 8] [0, 1, 2, 3, 4, 5, 6, 7] rfl rfl rfl rfl ⟨_, _, rfl⟩ rfl cf_X9_101 cd_X9_counted dd_X9_counted (by decide) (by decide) (by decide) rfl (Nat.le_of_ble_eq_true rfl) dX9_ask_19 rfl ?_
      have hs3 : r_X9_counted a (lpF (b_X9_called_3 a w bits m_) n 0 sp) n ≤ 2 := le_X9_slot ..
      have ha4 : (u_X9_counted_a a (lpF (b_X9_called_3 a w bits m_) n 0 sp) n) 0 = nI n := (fr_X9_counted (by omega)).trans ha0
      refine aw_istore X (pc := 22) (lv' := [(4, .int (nI (r_X9_counted a (lpF (b_X9_called_3 a w bits m_) n 0 sp) n))), (0, .ref (q 0)), (1, .long bits), (3, .int m_)]) (by decide) rfl dX9_ask_22 ?_
      refine aw_aload_n X (pc := 24) 1 rfl rfl dX9_ask_24 ?_
      refine aw_get X (pc := 25) iX9 0 0 rfl rfl (by decide) fl_X9_7 rfl dX9_ask_25 ?_
      refine aw_bipush X (pc := 28) (v := 6) dX9_ask_28 (by decide) ?_
      refine aw_aload_n X (pc := 30) 1 rfl rfl dX9_ask_30 ?_
      refine aw_get X (pc := 31) iX9 0 5 rfl rfl (by decide) fl_X9_86 rfl dX9_ask_31 ?_
      refine aw_iast X (pc := 34) 1 0 (ws' := (mW q kc (upd (u_X9_counted_a a (lpF (b_X9_called_3 a w bits m_) n 0 sp) n) 6 (u_X9_slot_lone a (lpF (b_X9_called_3 a w bits m_) n 0 sp) n)) w hs inn (lpF (b_X9_called_3 a w bits m_) n 0 sp) (u_X9_slot_lone a (lpF (b_X9_called_3 a w bits m_) n 0 sp) n) lt lz dr)) 6 rfl  rfl rfl (by decide) (by omega) rfl dX9_ask_34 ?_
      have ha5 : (upd (u_X9_counted_a a (lpF (b_X9_called_3 a w bits m_) n 0 sp) n) 6 (u_X9_slot_lone a (lpF (b_X9_called_3 a w bits m_) n 0 sp) n)) 0 = nI n := by rw [pk_un (by omega)]; exact ha4
      refine aw_iload X (pc := 35) 0 rfl dX9_ask_35 ?_
      exact aw_iret X (v := nI (r_X9_counted a (lpF (b_X9_called_3 a w bits m_) n 0 sp) n)) hQ (by simp only [r_X9_ask, if_neg c1, if_pos c2]; try rfl) (by simp only [u_X9_ask_a, u_X9_ask_sp, u_X9_ask_lone, if_neg c1, if_pos c2]) dX9_ask_37
    · refine aw_iconst X (pc := 10) (v := (-1)) dX9_ask_10 (by decide) ?_
      exact aw_iret X (v := (-1)) hQ (by simp only [r_X9_ask, if_neg c1, if_neg c2]; try rfl) (by simp only [u_X9_ask_a, u_X9_ask_sp, u_X9_ask_lone, if_neg c1, if_neg c2]) dX9_ask_11

abbrev rm_X9_piles : Room := { frames := 0, cells := 0, slots := 0, locals := 0 }
set_option maxHeartbeats 4000000 in
set_option maxRecDepth 100000 in
theorem c_X9_piles (l : Launch) (D : va_G) (q : Nat → Nat) (kc : Nat → ClassId) (a : Nat → Int32) (w : Nat → Int64) (hs : Nat → Int32) (inn : Nat → Int32) (sp : Nat → Int32) (lone : Int32) (lt : Nat → Int64) (lz : Nat → Int32) (dr : Nat → Int32) (z : Nat) (bits : Int64) (m_ : Int32) (ha4 : a 4 = nI z) (hz : z ≤ 70) : MW l D yX9_piles (Cond.code yX9_piles cX9_piles 4 none :: TT) rm_X9_piles [.ref (q 0), .long bits, .int m_] [(kc 1, .int), (kc 2, .long), (kc 3, .boolean), (kc 4, .boolean), (kc 5, .boolean), (kc 6, .long), (kc 7, .int), (kc 8, .int)] (mW q kc a w hs inn sp lone lt lz dr) none (mW q kc (upd (upd a (20 + z) m_) 4 (nI (z + 1))) (vp_updL w (4 + z) bits) hs inn sp lone lt lz dr) := by
  refine MW.of (cc := cX9_piles) (nL := 4) (ret := none) (lv := [(0, .ref (q 0)), (1, .long bits), (3, .int m_)]) (by decide) rfl rfl (Nat.le_of_ble_eq_true rfl) ?_
  intro p e s m args below meth c A Q hQ X
  refine aw_aload_n X (pc := 0) 0 rfl rfl dX9_piles_0 ?_
  refine aw_get X (pc := 1) iX9 0 1 rfl rfl (by decide) fl_X9_13 rfl dX9_piles_1 ?_
  refine aw_iconst X (pc := 4) (v := 4) dX9_piles_4 (by decide) ?_
  refine aw_aload_n X (pc := 5) 0 rfl rfl dX9_piles_5 ?_
  refine aw_get X (pc := 6) iX9 0 0 rfl rfl (by decide) fl_X9_7 rfl dX9_piles_6 ?_
  refine aw_iconst X (pc := 9) (v := 4) dX9_piles_9 (by decide) ?_
  refine aw_iald X (pc := 10) 1 0 4 rfl rfl rfl (by decide) (by omega) dX9_piles_10 ?_
  refine aw_iadd X (pc := 11) (z := nI (4 + z)) (nn_add (a := 4) (b := z) rfl ha4 (by first | rfl | omega))  dX9_piles_11 ?_
  refine aw_lload_n X (pc := 12) 1 rfl rfl dX9_piles_12 ?_
  refine aw_last X (pc := 13) 2 1 (ws' := (mW q kc a (vp_updL w (4 + z) bits) hs inn sp lone lt lz dr)) (4 + z) rfl  rfl rfl (by decide) (by omega) rfl dX9_piles_13 ?_
  refine aw_aload_n X (pc := 14) 0 rfl rfl dX9_piles_14 ?_
  refine aw_get X (pc := 15) iX9 0 0 rfl rfl (by decide) fl_X9_7 rfl dX9_piles_15 ?_
  refine aw_bipush X (pc := 18) (v := 20) dX9_piles_18 (by decide) ?_
  refine aw_aload_n X (pc := 20) 0 rfl rfl dX9_piles_20 ?_
  refine aw_get X (pc := 21) iX9 0 0 rfl rfl (by decide) fl_X9_7 rfl dX9_piles_21 ?_
  refine aw_iconst X (pc := 24) (v := 4) dX9_piles_24 (by decide) ?_
  refine aw_iald X (pc := 25) 1 0 4 rfl rfl rfl (by decide) (by omega) dX9_piles_25 ?_
  refine aw_iadd X (pc := 26) (z := nI (20 + z)) (nn_add (a := 20) (b := z) rfl ha4 (by first | rfl | omega))  dX9_piles_26 ?_
  refine aw_iload_n X (pc := 27) 2 rfl rfl dX9_piles_27 ?_
  refine aw_iast X (pc := 28) 1 0 (ws' := (mW q kc (upd a (20 + z) m_) (vp_updL w (4 + z) bits) hs inn sp lone lt lz dr)) (20 + z) rfl  rfl rfl (by decide) (by omega) rfl dX9_piles_28 ?_
  have ha1 : (upd a (20 + z) m_) 4 = nI z := by rw [pk_un (by omega)]; exact ha4
  refine aw_aload_n X (pc := 29) 0 rfl rfl dX9_piles_29 ?_
  refine aw_get X (pc := 30) iX9 0 0 rfl rfl (by decide) fl_X9_7 rfl dX9_piles_30 ?_
  refine aw_iconst X (pc := 33) (v := 4) dX9_piles_33 (by decide) ?_
  refine aw_dup2_11 X (pc := 34) dX9_piles_34 rfl rfl ?_
  refine aw_iald X (pc := 35) 1 0 4 rfl rfl rfl (by decide) (by omega) dX9_piles_35 ?_
  refine aw_iconst X (pc := 36) (v := 1) dX9_piles_36 (by decide) ?_
  refine aw_iadd X (pc := 37) (z := nI (z + 1)) (nn_add (a := z) (b := 1) ha1 rfl (by first | rfl | omega))  dX9_piles_37 ?_
  refine aw_iast X (pc := 38) 1 0 (ws' := (mW q kc (upd (upd a (20 + z) m_) 4 (nI (z + 1))) (vp_updL w (4 + z) bits) hs inn sp lone lt lz dr)) 4 rfl  rfl rfl (by decide) (by omega) rfl dX9_piles_38 ?_
  have ha2 : (upd (upd a (20 + z) m_) 4 (nI (z + 1))) 4 = nI (z + 1) := pk_us.trans rfl
  exact aw_vret X hQ rfl rfl dX9_piles_39

theorem fr_X9_piles {a : Nat → Int32} {z : Nat} {x y : Int32} {j : Nat} (h : j < 4 ∨ (4 < j ∧ j < 20)) : upd (upd a (20 + z) x) 4 y j = a j := by rw [pk_un (by omega), pk_un (by omega)]

abbrev rm_X9_descend : Room := { frames := 1, cells := 0, slots := 0, locals := 23 }
set_option maxHeartbeats 4000000 in
set_option maxRecDepth 100000 in
theorem c_X9_descend (l : Launch) (D : va_G) (q : Nat → Nat) (kc : Nat → ClassId) (a : Nat → Int32) (w : Nat → Int64) (hs : Nat → Int32) (inn : Nat → Int32) (sp : Nat → Int32) (lone : Int32) (lt : Nat → Int64) (lz : Nat → Int32) (dr : Nat → Int32)  : MW l D yX9_descend (Cond.code yX9_descend cX9_descend 1 none :: TT) rm_X9_descend [.ref (q 0)] [(kc 1, .int), (kc 2, .long), (kc 3, .boolean), (kc 4, .boolean), (kc 5, .boolean), (kc 6, .long), (kc 7, .int), (kc 8, .int)] (mW q kc a w hs inn sp lone lt lz dr) none (mW q kc (upd (upd (upd a 4 0) (20 + 0) 0) 4 (nI (0 + 1))) (vp_updL w (4 + 0) 0) hs inn sp lone lt lz dr) := by
  refine MW.of (cc := cX9_descend) (nL := 1) (ret := none) (lv := [(0, .ref (q 0))]) (by decide) rfl rfl (Nat.le_of_ble_eq_true rfl) ?_
  intro p e s m args below meth c A Q hQ X
  refine aw_aload_n X (pc := 0) 0 rfl rfl dX9_descend_0 ?_
  refine aw_get X (pc := 1) iX9 0 0 rfl rfl (by decide) fl_X9_7 rfl dX9_descend_1 ?_
  refine aw_iconst X (pc := 4) (v := 4) dX9_descend_4 (by decide) ?_
  refine aw_iconst X (pc := 5) (v := 0) dX9_descend_5 (by decide) ?_
  refine aw_iast X (pc := 6) 1 0 (ws' := (mW q kc (upd a 4 0) w hs inn sp lone lt lz dr)) 4 rfl  rfl rfl (by decide) (by omega) rfl dX9_descend_6 ?_
  have ha1 : (upd a 4 0) 4 = nI 0 := pk_us.trans rfl
  refine aw_aload_n X (pc := 7) 0 rfl rfl dX9_descend_7 ?_
  refine aw_lconst X (pc := 8) (v := 0) dX9_descend_8 (by decide) ?_
  refine aw_iconst X (pc := 9) (v := 0) dX9_descend_9 (by decide) ?_
  refine aw_callV X (pc := 10) (q1 := 0) (rest := []) (st' := []) (ws' := (mW q kc (upd (upd (upd a 4 0) (20 + 0) 0) 4 (nI (0 + 1))) (vp_updL w (4 + 0) 0) hs inn sp lone lt lz dr)) (c_X9_piles l D q kc (upd a 4 0) w hs inn sp lone lt lz dr 0 0 0 ha1 (by omega)) rfl rfl [0, 1, 2, 3, 4, 5, 6, 7, 8] [0, 1, 2, 3, 4, 5, 6, 7] rfl rfl rfl rfl ⟨_, _, rfl⟩ rfl cf_X9_104 cd_X9_piles dd_X9_piles (by decide) (by decide) (by decide) rfl (Nat.le_of_ble_eq_true rfl) dX9_descend_10 rfl ?_
  have ha2 : (upd (upd (upd a 4 0) (20 + 0) 0) 4 (nI (0 + 1))) 4 = nI (0 + 1) := pk_us
  exact aw_vret X hQ rfl rfl dX9_descend_13
end
