-- ===== PART A: goes FIRST, ahead of the names: the tables' words, and 'selects' of the private methods out of them =====
/-- a private method of a class that the tables say can be made, by its rows of tables_1 -/
def lw_okq (q : MethodName × Nat) : Prop := (q.1.cls ≠ "java/lang/invoke/MethodHandle" ∧ q.1.cls ≠ "java/lang/invoke/VarHandle") ∧ Cond.instantiable q.1.cls q.2 ∈ tables_1 ∧ Cond.privateMethod q.1 ∈ tables_1 ∧ Cond.instanceMethod q.1 ∈ tables_1
theorem lw_p0 : lw_okq (⟨"CreditScroll$Course", "layOut", "()V"⟩, 9) := ⟨⟨by decide +kernel, by decide +kernel⟩, List.mem_of_getElem? (i := 18) (by decide +kernel), List.mem_of_getElem? (i := 219) (by decide +kernel), List.mem_of_getElem? (i := 220) (by decide +kernel)⟩
theorem lw_p1 : lw_okq (⟨"CreditScroll$Course", "pace", "()V"⟩, 9) := ⟨⟨by decide +kernel, by decide +kernel⟩, List.mem_of_getElem? (i := 18) (by decide +kernel), List.mem_of_getElem? (i := 227) (by decide +kernel), List.mem_of_getElem? (i := 228) (by decide +kernel)⟩
theorem lw_p2 : lw_okq (⟨"CreditScroll$Course", "begin", "(III)V"⟩, 9) := ⟨⟨by decide +kernel, by decide +kernel⟩, List.mem_of_getElem? (i := 18) (by decide +kernel), List.mem_of_getElem? (i := 231) (by decide +kernel), List.mem_of_getElem? (i := 232) (by decide +kernel)⟩
theorem lw_p3 : lw_okq (⟨"CreditScroll$Course", "changeSpeed", "(II)V"⟩, 9) := ⟨⟨by decide +kernel, by decide +kernel⟩, List.mem_of_getElem? (i := 18) (by decide +kernel), List.mem_of_getElem? (i := 235) (by decide +kernel), List.mem_of_getElem? (i := 236) (by decide +kernel)⟩
theorem lw_p4 : lw_okq (⟨"CreditScroll$Course", "ticksIn", "(II)I"⟩, 9) := ⟨⟨by decide +kernel, by decide +kernel⟩, List.mem_of_getElem? (i := 18) (by decide +kernel), List.mem_of_getElem? (i := 239) (by decide +kernel), List.mem_of_getElem? (i := 240) (by decide +kernel)⟩
theorem lw_p5 : lw_okq (⟨"CreditScroll$Course", "watch", "()V"⟩, 9) := ⟨⟨by decide +kernel, by decide +kernel⟩, List.mem_of_getElem? (i := 18) (by decide +kernel), List.mem_of_getElem? (i := 243) (by decide +kernel), List.mem_of_getElem? (i := 244) (by decide +kernel)⟩
theorem lw_p6 : lw_okq (⟨"CreditScroll$Course", "stretchReaching", "(II)I"⟩, 9) := ⟨⟨by decide +kernel, by decide +kernel⟩, List.mem_of_getElem? (i := 18) (by decide +kernel), List.mem_of_getElem? (i := 247) (by decide +kernel), List.mem_of_getElem? (i := 248) (by decide +kernel)⟩
theorem lw_p7 : lw_okq (⟨"CreditScroll$Course", "timeIn", "(II)I"⟩, 9) := ⟨⟨by decide +kernel, by decide +kernel⟩, List.mem_of_getElem? (i := 18) (by decide +kernel), List.mem_of_getElem? (i := 251) (by decide +kernel), List.mem_of_getElem? (i := 252) (by decide +kernel)⟩
theorem lw_p8 : lw_okq (⟨"CreditScroll$Credits", "exchange", "(II)V"⟩, 6) := ⟨⟨by decide +kernel, by decide +kernel⟩, List.mem_of_getElem? (i := 24) (by decide +kernel), List.mem_of_getElem? (i := 263) (by decide +kernel), List.mem_of_getElem? (i := 264) (by decide +kernel)⟩
theorem lw_p9 : lw_okq (⟨"CreditScroll$Course", "mostSeenOf", "(I)I"⟩, 9) := ⟨⟨by decide +kernel, by decide +kernel⟩, List.mem_of_getElem? (i := 18) (by decide +kernel), List.mem_of_getElem? (i := 300) (by decide +kernel), List.mem_of_getElem? (i := 301) (by decide +kernel)⟩
theorem lw_p10 : lw_okq (⟨"CreditScroll", "addAsChange", "(III)I"⟩, 7) := ⟨⟨by decide +kernel, by decide +kernel⟩, List.mem_of_getElem? (i := 10) (by decide +kernel), List.mem_of_getElem? (i := 342) (by decide +kernel), List.mem_of_getElem? (i := 343) (by decide +kernel)⟩
theorem lw_p11 : lw_okq (⟨"CreditScroll", "firstNumberOf", "(I)I"⟩, 7) := ⟨⟨by decide +kernel, by decide +kernel⟩, List.mem_of_getElem? (i := 10) (by decide +kernel), List.mem_of_getElem? (i := 377) (by decide +kernel), List.mem_of_getElem? (i := 378) (by decide +kernel)⟩
theorem lw_p12 : lw_okq (⟨"CreditScroll$Course", "isSeenAt", "(II)Z"⟩, 9) := ⟨⟨by decide +kernel, by decide +kernel⟩, List.mem_of_getElem? (i := 18) (by decide +kernel), List.mem_of_getElem? (i := 396) (by decide +kernel), List.mem_of_getElem? (i := 397) (by decide +kernel)⟩
theorem lw_p13 : lw_okq (⟨"CreditScroll$Course", "stretchAt", "(I)I"⟩, 9) := ⟨⟨by decide +kernel, by decide +kernel⟩, List.mem_of_getElem? (i := 18) (by decide +kernel), List.mem_of_getElem? (i := 412) (by decide +kernel), List.mem_of_getElem? (i := 413) (by decide +kernel)⟩
def lw_privs_1 : List (MethodName × Nat) := [(⟨"CreditScroll$Course", "layOut", "()V"⟩, 9), (⟨"CreditScroll$Course", "pace", "()V"⟩, 9), (⟨"CreditScroll$Course", "begin", "(III)V"⟩, 9), (⟨"CreditScroll$Course", "changeSpeed", "(II)V"⟩, 9), (⟨"CreditScroll$Course", "ticksIn", "(II)I"⟩, 9), (⟨"CreditScroll$Course", "watch", "()V"⟩, 9), (⟨"CreditScroll$Course", "stretchReaching", "(II)I"⟩, 9), (⟨"CreditScroll$Course", "timeIn", "(II)I"⟩, 9), (⟨"CreditScroll$Credits", "exchange", "(II)V"⟩, 6), (⟨"CreditScroll$Course", "mostSeenOf", "(I)I"⟩, 9), (⟨"CreditScroll", "addAsChange", "(III)I"⟩, 7), (⟨"CreditScroll", "firstNumberOf", "(I)I"⟩, 7), (⟨"CreditScroll$Course", "isSeenAt", "(II)Z"⟩, 9), (⟨"CreditScroll$Course", "stretchAt", "(I)I"⟩, 9)]
theorem lw_r1 : ∀ q ∈ lw_privs_1, lw_okq q := List.forall_mem_cons.mpr ⟨lw_p0, List.forall_mem_cons.mpr ⟨lw_p1, List.forall_mem_cons.mpr ⟨lw_p2, List.forall_mem_cons.mpr ⟨lw_p3, List.forall_mem_cons.mpr ⟨lw_p4, List.forall_mem_cons.mpr ⟨lw_p5, List.forall_mem_cons.mpr ⟨lw_p6, List.forall_mem_cons.mpr ⟨lw_p7, List.forall_mem_cons.mpr ⟨lw_p8, List.forall_mem_cons.mpr ⟨lw_p9, List.forall_mem_cons.mpr ⟨lw_p10, List.forall_mem_cons.mpr ⟨lw_p11, List.forall_mem_cons.mpr ⟨lw_p12, List.forall_mem_cons.mpr ⟨lw_p13, fun _ h => absurd h List.not_mem_nil⟩⟩⟩⟩⟩⟩⟩⟩⟩⟩⟩⟩⟩⟩
def lw_privs : List (MethodName × Nat) := lw_privs_1
def lw_tbl : List Cond := k2_sels lw_privs ++ tables_1
theorem lw_privs_ok : ∀ q ∈ lw_privs, lw_okq q := lw_r1
-- ===== names =====
def RX0 : String := "CreditScroll$Course"
def TX0 : u_T := fun k => match k with
  | 0 => ("CreditScroll$Course", "credits", "LCreditScroll$Credits;", true)
  | 1 => ("CreditScroll$Course", "tops", "[I", true)
  | 2 => ("CreditScroll$Course", "firsts", "[I", true)
  | 3 => ("CreditScroll$Course", "seen", "[I", true)
  | 4 => ("CreditScroll$Course", "rows", "I", false)
  | 5 => ("CreditScroll$Course", "times", "[I", true)
  | 6 => ("CreditScroll$Course", "heights", "[I", true)
  | 7 => ("CreditScroll$Course", "speeds", "[I", true)
  | _ => ("CreditScroll$Course", "stretches", "I", false)
def tyX0 : Nat → FieldType := fun k => match k with
  | 0 => .object "CreditScroll$Credits"
  | 1 => .array .int
  | 2 => .array .int
  | 3 => .array .int
  | 4 => .int
  | 5 => .array .int
  | 6 => .array .int
  | 7 => .array .int
  | _ => .int
abbrev wsX00 : List Cond := u_ws RX0 TX0 9
theorem nmX0 : ∀ a, a < 9 → ∀ b, b < 9 → a ≠ b → (TX0 a).2.1 ≠ (TX0 b).2.1 := by decide +kernel
theorem tyX0_ok : ∀ k, k < 9 → parseFieldDescriptor (TX0 k).2.2.1 = some (tyX0 k) := by decide +kernel
abbrev cX0_init : ByteArray := prog_2_method_1_code
def yX0_init : MethodName := ⟨RX0, "<init>", "()V"⟩
abbrev cX0_follow : ByteArray := prog_2_method_2_code
def yX0_follow : MethodName := ⟨RX0, "follow", "()V"⟩
abbrev cX0_layOut : ByteArray := prog_2_method_3_code
def yX0_layOut : MethodName := ⟨RX0, "layOut", "()V"⟩
abbrev cX0_pace : ByteArray := prog_2_method_4_code
def yX0_pace : MethodName := ⟨RX0, "pace", "()V"⟩
abbrev cX0_changeSpeed : ByteArray := prog_2_method_5_code
def yX0_changeSpeed : MethodName := ⟨RX0, "changeSpeed", "(II)V"⟩
abbrev cX0_begin : ByteArray := prog_2_method_6_code
def yX0_begin : MethodName := ⟨RX0, "begin", "(III)V"⟩
abbrev cX0_watch : ByteArray := prog_2_method_7_code
def yX0_watch : MethodName := ⟨RX0, "watch", "()V"⟩
abbrev cX0_stretchReaching : ByteArray := prog_2_method_8_code
def yX0_stretchReaching : MethodName := ⟨RX0, "stretchReaching", "(II)I"⟩
abbrev cX0_timeIn : ByteArray := prog_2_method_9_code
def yX0_timeIn : MethodName := ⟨RX0, "timeIn", "(II)I"⟩
abbrev cX0_ticksIn : ByteArray := prog_2_method_10_code
def yX0_ticksIn : MethodName := ⟨RX0, "ticksIn", "(II)I"⟩
abbrev cX0_ticksInAll : ByteArray := prog_2_method_11_code
def yX0_ticksInAll : MethodName := ⟨RX0, "ticksInAll", "()I"⟩
abbrev cX0_stretchAt : ByteArray := prog_2_method_12_code
def yX0_stretchAt : MethodName := ⟨RX0, "stretchAt", "(I)I"⟩
abbrev cX0_speedAt : ByteArray := prog_2_method_13_code
def yX0_speedAt : MethodName := ⟨RX0, "speedAt", "(I)I"⟩
abbrev cX0_movedAt : ByteArray := prog_2_method_14_code
def yX0_movedAt : MethodName := ⟨RX0, "movedAt", "(I)I"⟩
abbrev cX0_isSeenAt : ByteArray := prog_2_method_15_code
def yX0_isSeenAt : MethodName := ⟨RX0, "isSeenAt", "(II)Z"⟩
abbrev cX0_firstSeenAt : ByteArray := prog_2_method_16_code
def yX0_firstSeenAt : MethodName := ⟨RX0, "firstSeenAt", "(I)I"⟩
abbrev cX0_lastSeenAt : ByteArray := prog_2_method_17_code
def yX0_lastSeenAt : MethodName := ⟨RX0, "lastSeenAt", "(I)I"⟩
abbrev cX0_howManySeenAt : ByteArray := prog_2_method_18_code
def yX0_howManySeenAt : MethodName := ⟨RX0, "howManySeenAt", "(I)I"⟩
abbrev cX0_leastSeenLineOf : ByteArray := prog_2_method_19_code
def yX0_leastSeenLineOf : MethodName := ⟨RX0, "leastSeenLineOf", "(I)I"⟩
abbrev cX0_leastSeenOf : ByteArray := prog_2_method_20_code
def yX0_leastSeenOf : MethodName := ⟨RX0, "leastSeenOf", "(I)I"⟩
abbrev cX0_mostSeenOf : ByteArray := prog_2_method_21_code
def yX0_mostSeenOf : MethodName := ⟨RX0, "mostSeenOf", "(I)I"⟩
abbrev cX0_spreadOf : ByteArray := prog_2_method_22_code
def yX0_spreadOf : MethodName := ⟨RX0, "spreadOf", "(I)I"⟩
abbrev cX0_spreadsInAll : ByteArray := prog_2_method_23_code
def yX0_spreadsInAll : MethodName := ⟨RX0, "spreadsInAll", "()I"⟩
abbrev cX0_unequalGroups : ByteArray := prog_2_method_24_code
def yX0_unequalGroups : MethodName := ⟨RX0, "unequalGroups", "()I"⟩
abbrev cX0_neverSeenNames : ByteArray := prog_2_method_25_code
def yX0_neverSeenNames : MethodName := ⟨RX0, "neverSeenNames", "()I"⟩
abbrev cX0_showsNamesFor : ByteArray := prog_2_method_26_code
def yX0_showsNamesFor : MethodName := ⟨RX0, "showsNamesFor", "(I)Z"⟩
def RX1 : String := "CreditScroll$Credits"
def TX1 : u_T := fun k => match k with
  | 0 => ("CreditScroll$Credits", "settings", "[I", true)
  | 1 => ("CreditScroll$Credits", "kinds", "[I", true)
  | 2 => ("CreditScroll$Credits", "groups", "[I", true)
  | 3 => ("CreditScroll$Credits", "numbers", "[I", true)
  | 4 => ("CreditScroll$Credits", "cues", "[I", true)
  | _ => ("CreditScroll$Credits", "lines", "I", false)
def tyX1 : Nat → FieldType := fun k => match k with
  | 0 => .array .int
  | 1 => .array .int
  | 2 => .array .int
  | 3 => .array .int
  | 4 => .array .int
  | _ => .int
abbrev wsX10 : List Cond := u_ws RX1 TX1 6
theorem nmX1 : ∀ a, a < 6 → ∀ b, b < 6 → a ≠ b → (TX1 a).2.1 ≠ (TX1 b).2.1 := by decide +kernel
theorem tyX1_ok : ∀ k, k < 6 → parseFieldDescriptor (TX1 k).2.2.1 = some (tyX1 k) := by decide +kernel
abbrev cX1_init : ByteArray := prog_3_method_1_code
def yX1_init : MethodName := ⟨RX1, "<init>", "()V"⟩
abbrev cX1_takeFrom : ByteArray := prog_3_method_2_code
def yX1_takeFrom : MethodName := ⟨RX1, "takeFrom", "(LCreditScroll$Credits;)V"⟩
abbrev cX1_addAll : ByteArray := prog_3_method_3_code
def yX1_addAll : MethodName := ⟨RX1, "addAll", "(LCreditScroll$Credits;)V"⟩
abbrev cX1_add : ByteArray := prog_3_method_4_code
def yX1_add : MethodName := ⟨RX1, "add", "(IIII)V"⟩
abbrev cX1_holds : ByteArray := prog_3_method_5_code
def yX1_holds : MethodName := ⟨RX1, "holds", "(I)Z"⟩
abbrev cX1_heightOf : ByteArray := prog_3_method_6_code
def yX1_heightOf : MethodName := ⟨RX1, "heightOf", "(I)I"⟩
abbrev cX1_carry : ByteArray := prog_3_method_7_code
def yX1_carry : MethodName := ⟨RX1, "carry", "(II)V"⟩
abbrev cX1_remove : ByteArray := prog_3_method_8_code
def yX1_remove : MethodName := ⟨RX1, "remove", "(I)V"⟩
abbrev cX1_exchange : ByteArray := prog_3_method_9_code
def yX1_exchange : MethodName := ⟨RX1, "exchange", "(II)V"⟩
abbrev cX1_exchangeIn : ByteArray := prog_3_method_10_code
def yX1_exchangeIn : MethodName := ⟨RX1, "exchangeIn", "([III)V"⟩
abbrev cX1_firstNameOf : ByteArray := prog_3_method_12_code
def yX1_firstNameOf : MethodName := ⟨RX1, "firstNameOf", "(I)I"⟩
abbrev cX1_namesOf : ByteArray := prog_3_method_13_code
def yX1_namesOf : MethodName := ⟨RX1, "namesOf", "(I)I"⟩
abbrev cX1_namesInAll : ByteArray := prog_3_method_14_code
def yX1_namesInAll : MethodName := ⟨RX1, "namesInAll", "()I"⟩
abbrev cX1_cuesInAll : ByteArray := prog_3_method_15_code
def yX1_cuesInAll : MethodName := ⟨RX1, "cuesInAll", "()I"⟩
abbrev cX1_dropCues : ByteArray := prog_3_method_16_code
def yX1_dropCues : MethodName := ⟨RX1, "dropCues", "()V"⟩
def RX2 : String := "CreditScroll$History"
def TX2 : u_T := fun k => match k with
  | 0 => ("CreditScroll$History", "states", "[LCreditScroll$Credits;", true)
  | 1 => ("CreditScroll$History", "kept", "I", false)
  | _ => ("CreditScroll$History", "oldest", "I", false)
def tyX2 : Nat → FieldType := fun k => match k with
  | 0 => .array (.object "CreditScroll$Credits")
  | 1 => .int
  | _ => .int
abbrev wsX20 : List Cond := u_ws RX2 TX2 3
theorem nmX2 : ∀ a, a < 3 → ∀ b, b < 3 → a ≠ b → (TX2 a).2.1 ≠ (TX2 b).2.1 := by decide +kernel
theorem tyX2_ok : ∀ k, k < 3 → parseFieldDescriptor (TX2 k).2.2.1 = some (tyX2 k) := by decide +kernel
abbrev cX2_init : ByteArray := prog_4_method_1_code
def yX2_init : MethodName := ⟨RX2, "<init>", "()V"⟩
abbrev cX2_remember : ByteArray := prog_4_method_2_code
def yX2_remember : MethodName := ⟨RX2, "remember", "(LCreditScroll$Credits;)V"⟩
def RX3 : String := "CreditScroll$Pad"
def TX3 : u_T := fun k => match k with
  | 0 => ("CreditScroll$Pad", "characters", "[C", true)
  | 1 => ("CreditScroll$Pad", "length", "I", false)
  | _ => ("CreditScroll$Pad", "place", "I", false)
def tyX3 : Nat → FieldType := fun k => match k with
  | 0 => .array .char
  | 1 => .int
  | _ => .int
abbrev wsX30 : List Cond := u_ws RX3 TX3 3
theorem nmX3 : ∀ a, a < 3 → ∀ b, b < 3 → a ≠ b → (TX3 a).2.1 ≠ (TX3 b).2.1 := by decide +kernel
theorem tyX3_ok : ∀ k, k < 3 → parseFieldDescriptor (TX3 k).2.2.1 = some (tyX3 k) := by decide +kernel
abbrev cX3_init : ByteArray := prog_5_method_1_code
def yX3_init : MethodName := ⟨RX3, "<init>", "()V"⟩
def RX4 : String := "CreditScroll$Slots"
def TX4 : u_T := fun k => match k with
  | 0 => ("CreditScroll$Slots", "states", "[LCreditScroll$Credits;", true)
  | _ => ("CreditScroll$Slots", "filled", "[Z", true)
def tyX4 : Nat → FieldType := fun k => match k with
  | 0 => .array (.object "CreditScroll$Credits")
  | _ => .array .boolean
abbrev wsX40 : List Cond := u_ws RX4 TX4 2
theorem nmX4 : ∀ a, a < 2 → ∀ b, b < 2 → a ≠ b → (TX4 a).2.1 ≠ (TX4 b).2.1 := by decide +kernel
theorem tyX4_ok : ∀ k, k < 2 → parseFieldDescriptor (TX4 k).2.2.1 = some (tyX4 k) := by decide +kernel
abbrev cX4_init : ByteArray := prog_6_method_1_code
def yX4_init : MethodName := ⟨RX4, "<init>", "()V"⟩
def RX5 : String := "CreditScroll"
def TX5 : u_T := fun k => match k with
  | 0 => ("CreditScroll", "course", "LCreditScroll$Course;", true)
  | 1 => ("CreditScroll", "credits", "LCreditScroll$Credits;", true)
  | 2 => ("CreditScroll", "trialCourse", "LCreditScroll$Course;", true)
  | 3 => ("CreditScroll", "trial", "LCreditScroll$Credits;", true)
  | 4 => ("CreditScroll", "pad", "LCreditScroll$Pad;", true)
  | 5 => ("CreditScroll", "history", "LCreditScroll$History;", true)
  | _ => ("CreditScroll", "slots", "LCreditScroll$Slots;", true)
def tyX5 : Nat → FieldType := fun k => match k with
  | 0 => .object "CreditScroll$Course"
  | 1 => .object "CreditScroll$Credits"
  | 2 => .object "CreditScroll$Course"
  | 3 => .object "CreditScroll$Credits"
  | 4 => .object "CreditScroll$Pad"
  | 5 => .object "CreditScroll$History"
  | _ => .object "CreditScroll$Slots"
abbrev wsX50 : List Cond := u_ws RX5 TX5 7
theorem nmX5 : ∀ a, a < 7 → ∀ b, b < 7 → a ≠ b → (TX5 a).2.1 ≠ (TX5 b).2.1 := by decide +kernel
theorem tyX5_ok : ∀ k, k < 7 → parseFieldDescriptor (TX5 k).2.2.1 = some (tyX5 k) := by decide +kernel
abbrev cX5_init : ByteArray := prog_1_method_1_code
def yX5_init : MethodName := ⟨RX5, "<init>", "()V"⟩
abbrev cX5_set : ByteArray := prog_1_method_2_code
def yX5_set : MethodName := ⟨RX5, "set", "(II)I"⟩
abbrev cX5_name : ByteArray := prog_1_method_3_code
def yX5_name : MethodName := ⟨RX5, "name", "(II)I"⟩
abbrev cX5_line : ByteArray := prog_1_method_4_code
def yX5_line : MethodName := ⟨RX5, "line", "(I)I"⟩
abbrev cX5_cue : ByteArray := prog_1_method_5_code
def yX5_cue : MethodName := ⟨RX5, "cue", "(II)I"⟩
abbrev cX5_move : ByteArray := prog_1_method_6_code
def yX5_move : MethodName := ⟨RX5, "move", "(II)I"⟩
abbrev cX5_drop : ByteArray := prog_1_method_7_code
def yX5_drop : MethodName := ⟨RX5, "drop", "(I)I"⟩
abbrev cX5_of : ByteArray := prog_1_method_10_code
def yX5_of : MethodName := ⟨RX5, "of", "(II)I"⟩
abbrev cX5_group : ByteArray := prog_1_method_11_code
def yX5_group : MethodName := ⟨RX5, "group", "(II)I"⟩
abbrev cX5_at : ByteArray := prog_1_method_12_code
def yX5_at : MethodName := ⟨RX5, "at", "(II)I"⟩
abbrev cX5_count : ByteArray := prog_1_method_13_code
def yX5_count : MethodName := ⟨RX5, "count", "(I)I"⟩
abbrev cX5_blame : ByteArray := prog_1_method_14_code
def yX5_blame : MethodName := ⟨RX5, "blame", "(I)I"⟩
abbrev cX5_speedFor : ByteArray := prog_1_method_15_code
def yX5_speedFor : MethodName := ⟨RX5, "speedFor", "(I)I"⟩
abbrev cX5_seenIf : ByteArray := prog_1_method_16_code
def yX5_seenIf : MethodName := ⟨RX5, "seenIf", "(II)I"⟩
abbrev cX5_addAsChange : ByteArray := prog_1_method_24_code
def yX5_addAsChange : MethodName := ⟨RX5, "addAsChange", "(III)I"⟩
abbrev cX5_firstNumberOf : ByteArray := prog_1_method_25_code
def yX5_firstNumberOf : MethodName := ⟨RX5, "firstNumberOf", "(I)I"⟩
abbrev cX5_isWithin : ByteArray := prog_1_method_26_code
def yX5_isWithin : MethodName := ⟨RX5, "isWithin", "(III)Z"⟩
abbrev cX5_isGroup : ByteArray := prog_1_method_27_code
def yX5_isGroup : MethodName := ⟨RX5, "isGroup", "(I)Z"⟩
abbrev cX5_isSpeed : ByteArray := prog_1_method_28_code
def yX5_isSpeed : MethodName := ⟨RX5, "isSpeed", "(I)Z"⟩
def RX6 : String := "CreditScrollModel"
def TX6 : u_T := fun k => match k with
  | _ => ("", "", "", false)
def tyX6 : Nat → FieldType := fun k => match k with
  | _ => .int
abbrev wsX60 : List Cond := u_ws RX6 TX6 0
theorem nmX6 : ∀ a, a < 0 → ∀ b, b < 0 → a ≠ b → (TX6 a).2.1 ≠ (TX6 b).2.1 := by decide +kernel
theorem tyX6_ok : ∀ k, k < 0 → parseFieldDescriptor (TX6 k).2.2.1 = some (tyX6 k) := by decide +kernel
def RL : String := "CreditScrollLaw"
abbrev cL_cell : ByteArray := method_2_code
def yL_cell : MethodName := ⟨RL, "cell", "([II)I"⟩
abbrev cL_low : ByteArray := method_3_code
def yL_low : MethodName := ⟨RL, "low", "(II)I"⟩
abbrev cL_add : ByteArray := method_4_code
def yL_add : MethodName := ⟨RL, "add", "(LCreditScroll;I)Z"⟩
abbrev cL_settings : ByteArray := method_5_code
def yL_settings : MethodName := ⟨RL, "settings", "(LCreditScroll;I)Z"⟩
abbrev cL_run : ByteArray := method_6_code
def yL_run : MethodName := ⟨RL, "run", "([I[I[IIII[I[I[I)I"⟩
abbrev cL_lay : ByteArray := method_7_code
def yL_lay : MethodName := ⟨RL, "lay", "(LCreditScroll;[I[I[I[I)V"⟩
abbrev cL_tells : ByteArray := method_8_code
def yL_tells : MethodName := ⟨RL, "tells", "(LCreditScroll;I)Z"⟩
abbrev cL_groups : ByteArray := method_9_code
def yL_groups : MethodName := ⟨RL, "groups", "(LCreditScroll;[I[II)Z"⟩
abbrev cL_times : ByteArray := method_10_code
def yL_times : MethodName := ⟨RL, "times", "(LCreditScroll;[I[I[II)Z"⟩
abbrev cL_others : ByteArray := method_11_code
def yL_others : MethodName := ⟨RL, "others", "(LCreditScroll;[I[I[I[II)Z"⟩
abbrev cL_law : ByteArray := code
def yL_law : MethodName := ⟨RL, "law", "([I)Z"⟩
abbrev vwCl : List vw_C := [(RX0, TX0, 9), (RX1, TX1, 6), (RX2, TX2, 3), (RX3, TX3, 3), (RX4, TX4, 2), (RX5, TX5, 7)]
