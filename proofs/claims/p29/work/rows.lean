section
-- ===== PART A: goes FIRST, ahead of the names: the tables' words, and 'selects' of the private methods out of them =====
/-- a private method of a class that the tables say can be made, by its rows of tables_1 -/
def lw_okq (q : MethodName × Nat) : Prop := (q.1.cls ≠ "java/lang/invoke/MethodHandle" ∧ q.1.cls ≠ "java/lang/invoke/VarHandle") ∧ Cond.instantiable q.1.cls q.2 ∈ tables_1 ∧ Cond.privateMethod q.1 ∈ tables_1 ∧ Cond.instanceMethod q.1 ∈ tables_1
theorem lw_p0 : lw_okq (⟨"java/lang/Throwable", "fillInStackTrace", "(I)Ljava/lang/Throwable;"⟩, 6) := ⟨⟨by decide +kernel, by decide +kernel⟩, List.mem_of_getElem? (i := 269) (by decide +kernel), List.mem_of_getElem? (i := 267) (by decide +kernel), List.mem_of_getElem? (i := 268) (by decide +kernel)⟩
theorem lw_p1 : lw_okq (⟨"RollingFob", "counted", "(I)I"⟩, 4) := ⟨⟨by decide +kernel, by decide +kernel⟩, List.mem_of_getElem? (i := 20) (by decide +kernel), List.mem_of_getElem? (i := 359) (by decide +kernel), List.mem_of_getElem? (i := 360) (by decide +kernel)⟩
theorem lw_p2 : lw_okq (⟨"RollingFob", "tryNumber", "(LRollingFob$Door;I)I"⟩, 4) := ⟨⟨by decide +kernel, by decide +kernel⟩, List.mem_of_getElem? (i := 20) (by decide +kernel), List.mem_of_getElem? (i := 384) (by decide +kernel), List.mem_of_getElem? (i := 385) (by decide +kernel)⟩
theorem lw_p3 : lw_okq (⟨"RollingFob", "pressesToOpen", "(LRollingFob$Fob;LRollingFob$Door;)I"⟩, 4) := ⟨⟨by decide +kernel, by decide +kernel⟩, List.mem_of_getElem? (i := 20) (by decide +kernel), List.mem_of_getElem? (i := 414) (by decide +kernel), List.mem_of_getElem? (i := 415) (by decide +kernel)⟩
theorem lw_p4 : lw_okq (⟨"RollingFob", "mostUnheard", "(LRollingFob$Fob;LRollingFob$Door;)I"⟩, 4) := ⟨⟨by decide +kernel, by decide +kernel⟩, List.mem_of_getElem? (i := 20) (by decide +kernel), List.mem_of_getElem? (i := 427) (by decide +kernel), List.mem_of_getElem? (i := 428) (by decide +kernel)⟩
theorem lw_p5 : lw_okq (⟨"RollingFob", "firstUseful", "(LRollingFob$Door;)I"⟩, 4) := ⟨⟨by decide +kernel, by decide +kernel⟩, List.mem_of_getElem? (i := 20) (by decide +kernel), List.mem_of_getElem? (i := 452) (by decide +kernel), List.mem_of_getElem? (i := 453) (by decide +kernel)⟩
theorem lw_p6 : lw_okq (⟨"RollingFob$State", "send", "(II)I"⟩, 6) := ⟨⟨by decide +kernel, by decide +kernel⟩, List.mem_of_getElem? (i := 28) (by decide +kernel), List.mem_of_getElem? (i := 594) (by decide +kernel), List.mem_of_getElem? (i := 595) (by decide +kernel)⟩
def lw_privs_1 : List (MethodName × Nat) := [(⟨"java/lang/Throwable", "fillInStackTrace", "(I)Ljava/lang/Throwable;"⟩, 6), (⟨"RollingFob", "counted", "(I)I"⟩, 4), (⟨"RollingFob", "tryNumber", "(LRollingFob$Door;I)I"⟩, 4), (⟨"RollingFob", "pressesToOpen", "(LRollingFob$Fob;LRollingFob$Door;)I"⟩, 4), (⟨"RollingFob", "mostUnheard", "(LRollingFob$Fob;LRollingFob$Door;)I"⟩, 4), (⟨"RollingFob", "firstUseful", "(LRollingFob$Door;)I"⟩, 4), (⟨"RollingFob$State", "send", "(II)I"⟩, 6)]
theorem lw_r1 : ∀ q ∈ lw_privs_1, lw_okq q := List.forall_mem_cons.mpr ⟨lw_p0, List.forall_mem_cons.mpr ⟨lw_p1, List.forall_mem_cons.mpr ⟨lw_p2, List.forall_mem_cons.mpr ⟨lw_p3, List.forall_mem_cons.mpr ⟨lw_p4, List.forall_mem_cons.mpr ⟨lw_p5, List.forall_mem_cons.mpr ⟨lw_p6, fun _ h => absurd h List.not_mem_nil⟩⟩⟩⟩⟩⟩⟩
def lw_privs : List (MethodName × Nat) := lw_privs_1
def lw_tbl : List Cond := k2_sels lw_privs ++ tables_1
theorem lw_privs_ok : ∀ q ∈ lw_privs, lw_okq q := lw_r1
/-- the streams that the claim lets the run draw from -/
abbrev lw_cs : List Choice := [Jvm.Choice.named "NaN.bits"]
theorem lw_bits : nanBits ∈ lw_cs := by first | decide | exact List.mem_cons_self | simp [lw_cs, nanBits]
def RX0 : String := "RollingFob$Air"
def TX0 : u_T := fun k => match k with
  | 0 => ("RollingFob$Air", "numbers", "[I", true)
  | _ => ("RollingFob$Air", "length", "I", false)
def tyX0 : Nat → FieldType := fun k => match k with
  | 0 => .array .int
  | _ => .int
abbrev wsX00 : List Cond := u_ws RX0 TX0 2
theorem nmX0 : ∀ a, a < 2 → ∀ b, b < 2 → a ≠ b → (TX0 a).2.1 ≠ (TX0 b).2.1 := by decide +kernel
theorem tyX0_ok : ∀ k, k < 2 → parseFieldDescriptor (TX0 k).2.2.1 = some (tyX0 k) := by decide +kernel
abbrev cX0_init : ByteArray := prog_2_method_1_code
def yX0_init : MethodName := ⟨RX0, "<init>", "()V"⟩
abbrev cX0_copyFrom : ByteArray := prog_2_method_2_code
def yX0_copyFrom : MethodName := ⟨RX0, "copyFrom", "(LRollingFob$Air;)V"⟩
abbrev cX0_record : ByteArray := prog_2_method_3_code
def yX0_record : MethodName := ⟨RX0, "record", "(I)V"⟩
abbrev cX0_number : ByteArray := prog_2_method_4_code
def yX0_number : MethodName := ⟨RX0, "number", "(I)I"⟩
def RX1 : String := "RollingFob$Door"
def TX1 : u_T := fun k => match k with
  | 0 => ("RollingFob$Door", "slots", "[LRollingFob$Slot;", true)
  | 1 => ("RollingFob$Door", "open", "Z", false)
  | 2 => ("RollingFob$Door", "wrongInRow", "I", false)
  | 3 => ("RollingFob$Door", "opened", "I", false)
  | 4 => ("RollingFob$Door", "notes", "I", false)
  | 5 => ("RollingFob$Door", "wrongs", "I", false)
  | _ => ("RollingFob$Door", "heardLocked", "I", false)
def tyX1 : Nat → FieldType := fun k => match k with
  | 0 => .array (.object "RollingFob$Slot")
  | 1 => .boolean
  | 2 => .int
  | 3 => .int
  | 4 => .int
  | 5 => .int
  | _ => .int
abbrev wsX10 : List Cond := u_ws RX1 TX1 7
theorem nmX1 : ∀ a, a < 7 → ∀ b, b < 7 → a ≠ b → (TX1 a).2.1 ≠ (TX1 b).2.1 := by decide +kernel
theorem tyX1_ok : ∀ k, k < 7 → parseFieldDescriptor (TX1 k).2.2.1 = some (tyX1 k) := by decide +kernel
abbrev cX1_init : ByteArray := prog_3_method_1_code
def yX1_init : MethodName := ⟨RX1, "<init>", "()V"⟩
abbrev cX1_copyFrom : ByteArray := prog_3_method_2_code
def yX1_copyFrom : MethodName := ⟨RX1, "copyFrom", "(LRollingFob$Door;)V"⟩
abbrev cX1_isLocked : ByteArray := prog_3_method_3_code
def yX1_isLocked : MethodName := ⟨RX1, "isLocked", "(LRollingFob$Settings;)Z"⟩
abbrev cX1_learntSlots : ByteArray := prog_3_method_4_code
def yX1_learntSlots : MethodName := ⟨RX1, "learntSlots", "()I"⟩
abbrev cX1_hear : ByteArray := prog_3_method_5_code
def yX1_hear : MethodName := ⟨RX1, "hear", "(ILRollingFob$Settings;)I"⟩
abbrev cX1_look : ByteArray := prog_3_method_6_code
def yX1_look : MethodName := ⟨RX1, "look", "(ILRollingFob$Settings;)I"⟩
def RX2 : String := "RollingFob$Fob"
def TX2 : u_T := fun k => match k with
  | 0 => ("RollingFob$Fob", "secret", "I", false)
  | 1 => ("RollingFob$Fob", "counter", "I", false)
  | 2 => ("RollingFob$Fob", "battery", "I", false)
  | _ => ("RollingFob$Fob", "presses", "I", false)
def tyX2 : Nat → FieldType := fun k => match k with
  | 0 => .int
  | 1 => .int
  | 2 => .int
  | _ => .int
abbrev wsX20 : List Cond := u_ws RX2 TX2 4
theorem nmX2 : ∀ a, a < 4 → ∀ b, b < 4 → a ≠ b → (TX2 a).2.1 ≠ (TX2 b).2.1 := by decide +kernel
theorem tyX2_ok : ∀ k, k < 4 → parseFieldDescriptor (TX2 k).2.2.1 = some (tyX2 k) := by decide +kernel
abbrev cX2_init : ByteArray := prog_4_method_1_code
def yX2_init : MethodName := ⟨RX2, "<init>", "(I)V"⟩
abbrev cX2_copyFrom : ByteArray := prog_4_method_2_code
def yX2_copyFrom : MethodName := ⟨RX2, "copyFrom", "(LRollingFob$Fob;)V"⟩
abbrev cX2_sendNext : ByteArray := prog_4_method_3_code
def yX2_sendNext : MethodName := ⟨RX2, "sendNext", "()I"⟩
abbrev cX2_look : ByteArray := prog_4_method_4_code
def yX2_look : MethodName := ⟨RX2, "look", "(I)I"⟩
def RX3 : String := "RollingFob$History"
def TX3 : u_T := fun k => match k with
  | 0 => ("RollingFob$History", "saved", "[LRollingFob$State;", true)
  | 1 => ("RollingFob$History", "next", "I", false)
  | _ => ("RollingFob$History", "length", "I", false)
def tyX3 : Nat → FieldType := fun k => match k with
  | 0 => .array (.object "RollingFob$State")
  | 1 => .int
  | _ => .int
abbrev wsX30 : List Cond := u_ws RX3 TX3 3
theorem nmX3 : ∀ a, a < 3 → ∀ b, b < 3 → a ≠ b → (TX3 a).2.1 ≠ (TX3 b).2.1 := by decide +kernel
theorem tyX3_ok : ∀ k, k < 3 → parseFieldDescriptor (TX3 k).2.2.1 = some (tyX3 k) := by decide +kernel
abbrev cX3_init : ByteArray := prog_5_method_1_code
def yX3_init : MethodName := ⟨RX3, "<init>", "()V"⟩
abbrev cX3_keep : ByteArray := prog_5_method_2_code
def yX3_keep : MethodName := ⟨RX3, "keep", "(LRollingFob$State;)V"⟩
abbrev cX3_restore : ByteArray := prog_5_method_3_code
def yX3_restore : MethodName := ⟨RX3, "restore", "(LRollingFob$State;)V"⟩
def RX4 : String := "RollingFob$Settings"
def TX4 : u_T := fun k => match k with
  | 0 => ("RollingFob$Settings", "window", "I", false)
  | 1 => ("RollingFob$Settings", "wide", "I", false)
  | _ => ("RollingFob$Settings", "lock", "I", false)
def tyX4 : Nat → FieldType := fun k => match k with
  | 0 => .int
  | 1 => .int
  | _ => .int
abbrev wsX40 : List Cond := u_ws RX4 TX4 3
theorem nmX4 : ∀ a, a < 3 → ∀ b, b < 3 → a ≠ b → (TX4 a).2.1 ≠ (TX4 b).2.1 := by decide +kernel
theorem tyX4_ok : ∀ k, k < 3 → parseFieldDescriptor (TX4 k).2.2.1 = some (tyX4 k) := by decide +kernel
abbrev cX4_init : ByteArray := prog_6_method_1_code
def yX4_init : MethodName := ⟨RX4, "<init>", "()V"⟩
abbrev cX4_least : ByteArray := prog_6_method_2_code
def yX4_least : MethodName := ⟨RX4, "least", "(I)I"⟩
abbrev cX4_most : ByteArray := prog_6_method_3_code
def yX4_most : MethodName := ⟨RX4, "most", "(I)I"⟩
abbrev cX4_copyFrom : ByteArray := prog_6_method_4_code
def yX4_copyFrom : MethodName := ⟨RX4, "copyFrom", "(LRollingFob$Settings;)V"⟩
abbrev cX4_value : ByteArray := prog_6_method_5_code
def yX4_value : MethodName := ⟨RX4, "value", "(I)I"⟩
abbrev cX4_change : ByteArray := prog_6_method_6_code
def yX4_change : MethodName := ⟨RX4, "change", "(II)V"⟩
def RX5 : String := "RollingFob$Slot"
def TX5 : u_T := fun k => match k with
  | 0 => ("RollingFob$Slot", "learnt", "Z", false)
  | 1 => ("RollingFob$Slot", "secret", "I", false)
  | 2 => ("RollingFob$Slot", "last", "I", false)
  | _ => ("RollingFob$Slot", "noted", "I", false)
def tyX5 : Nat → FieldType := fun k => match k with
  | 0 => .boolean
  | 1 => .int
  | 2 => .int
  | _ => .int
abbrev wsX50 : List Cond := u_ws RX5 TX5 4
theorem nmX5 : ∀ a, a < 4 → ∀ b, b < 4 → a ≠ b → (TX5 a).2.1 ≠ (TX5 b).2.1 := by decide +kernel
theorem tyX5_ok : ∀ k, k < 4 → parseFieldDescriptor (TX5 k).2.2.1 = some (tyX5 k) := by decide +kernel
abbrev cX5_init : ByteArray := prog_7_method_1_code
def yX5_init : MethodName := ⟨RX5, "<init>", "()V"⟩
abbrev cX5_copyFrom : ByteArray := prog_7_method_2_code
def yX5_copyFrom : MethodName := ⟨RX5, "copyFrom", "(LRollingFob$Slot;)V"⟩
abbrev cX5_learnFrom : ByteArray := prog_7_method_3_code
def yX5_learnFrom : MethodName := ⟨RX5, "learnFrom", "(LRollingFob$Fob;)V"⟩
abbrev cX5_empty : ByteArray := prog_7_method_4_code
def yX5_empty : MethodName := ⟨RX5, "empty", "()V"⟩
abbrev cX5_stepsTo : ByteArray := prog_7_method_5_code
def yX5_stepsTo : MethodName := ⟨RX5, "stepsTo", "(II)I"⟩
abbrev cX5_take : ByteArray := prog_7_method_6_code
def yX5_take : MethodName := ⟨RX5, "take", "(II)Z"⟩
abbrev cX5_look : ByteArray := prog_7_method_7_code
def yX5_look : MethodName := ⟨RX5, "look", "(I)I"⟩
def RX6 : String := "RollingFob$State"
def TX6 : u_T := fun k => match k with
  | 0 => ("RollingFob$State", "fobs", "[LRollingFob$Fob;", true)
  | 1 => ("RollingFob$State", "doors", "[LRollingFob$Door;", true)
  | 2 => ("RollingFob$State", "air", "LRollingFob$Air;", true)
  | 3 => ("RollingFob$State", "settings", "LRollingFob$Settings;", true)
  | 4 => ("RollingFob$State", "sentAgain", "I", false)
  | _ => ("RollingFob$State", "openedAgain", "I", false)
def tyX6 : Nat → FieldType := fun k => match k with
  | 0 => .array (.object "RollingFob$Fob")
  | 1 => .array (.object "RollingFob$Door")
  | 2 => .object "RollingFob$Air"
  | 3 => .object "RollingFob$Settings"
  | 4 => .int
  | _ => .int
abbrev wsX60 : List Cond := u_ws RX6 TX6 6
theorem nmX6 : ∀ a, a < 6 → ∀ b, b < 6 → a ≠ b → (TX6 a).2.1 ≠ (TX6 b).2.1 := by decide +kernel
theorem tyX6_ok : ∀ k, k < 6 → parseFieldDescriptor (TX6 k).2.2.1 = some (tyX6 k) := by decide +kernel
abbrev cX6_init : ByteArray := prog_8_method_1_code
def yX6_init : MethodName := ⟨RX6, "<init>", "()V"⟩
abbrev cX6_copyFrom : ByteArray := prog_8_method_2_code
def yX6_copyFrom : MethodName := ⟨RX6, "copyFrom", "(LRollingFob$State;)V"⟩
abbrev cX6_canPress : ByteArray := prog_8_method_3_code
def yX6_canPress : MethodName := ⟨RX6, "canPress", "(I)Z"⟩
abbrev cX6_canSendAgain : ByteArray := prog_8_method_4_code
def yX6_canSendAgain : MethodName := ⟨RX6, "canSendAgain", "(I)Z"⟩
abbrev cX6_pressFob : ByteArray := prog_8_method_5_code
def yX6_pressFob : MethodName := ⟨RX6, "pressFob", "(II)I"⟩
abbrev cX6_sendAgain : ByteArray := prog_8_method_6_code
def yX6_sendAgain : MethodName := ⟨RX6, "sendAgain", "(II)I"⟩
abbrev cX6_send : ByteArray := prog_8_method_7_code
def yX6_send : MethodName := ⟨RX6, "send", "(II)I"⟩
abbrev cX6_presses : ByteArray := prog_8_method_9_code
def yX6_presses : MethodName := ⟨RX6, "presses", "()I"⟩
abbrev cX6_timesOpened : ByteArray := prog_8_method_10_code
def yX6_timesOpened : MethodName := ⟨RX6, "timesOpened", "()I"⟩
abbrev cX6_wrongNumbers : ByteArray := prog_8_method_11_code
def yX6_wrongNumbers : MethodName := ⟨RX6, "wrongNumbers", "()I"⟩
abbrev cX6_openDoors : ByteArray := prog_8_method_12_code
def yX6_openDoors : MethodName := ⟨RX6, "openDoors", "()I"⟩
abbrev cX6_lockedDoors : ByteArray := prog_8_method_13_code
def yX6_lockedDoors : MethodName := ⟨RX6, "lockedDoors", "()I"⟩
def RX7 : String := "RollingFob$Text"
def TX7 : u_T := fun k => match k with
  | 0 => ("RollingFob$Text", "codes", "[I", true)
  | _ => ("RollingFob$Text", "length", "I", false)
def tyX7 : Nat → FieldType := fun k => match k with
  | 0 => .array .int
  | _ => .int
abbrev wsX70 : List Cond := u_ws RX7 TX7 2
theorem nmX7 : ∀ a, a < 2 → ∀ b, b < 2 → a ≠ b → (TX7 a).2.1 ≠ (TX7 b).2.1 := by decide +kernel
theorem tyX7_ok : ∀ k, k < 2 → parseFieldDescriptor (TX7 k).2.2.1 = some (tyX7 k) := by decide +kernel
abbrev cX7_init : ByteArray := prog_9_method_1_code
def yX7_init : MethodName := ⟨RX7, "<init>", "()V"⟩
def RX8 : String := "RollingFob"
def TX8 : u_T := fun k => match k with
  | 0 => ("RollingFob", "state", "LRollingFob$State;", true)
  | 1 => ("RollingFob", "history", "LRollingFob$History;", true)
  | 2 => ("RollingFob", "text", "LRollingFob$Text;", true)
  | _ => ("RollingFob", "trial", "LRollingFob$Door;", true)
def tyX8 : Nat → FieldType := fun k => match k with
  | 0 => .object "RollingFob$State"
  | 1 => .object "RollingFob$History"
  | 2 => .object "RollingFob$Text"
  | _ => .object "RollingFob$Door"
abbrev wsX80 : List Cond := u_ws RX8 TX8 4
theorem nmX8 : ∀ a, a < 4 → ∀ b, b < 4 → a ≠ b → (TX8 a).2.1 ≠ (TX8 b).2.1 := by decide +kernel
theorem tyX8_ok : ∀ k, k < 4 → parseFieldDescriptor (TX8 k).2.2.1 = some (tyX8 k) := by decide +kernel
abbrev cX8_init : ByteArray := prog_1_method_1_code
def yX8_init : MethodName := ⟨RX8, "<init>", "()V"⟩
abbrev cX8_make : ByteArray := prog_1_method_2_code
def yX8_make : MethodName := ⟨RX8, "make", "(III)I"⟩
abbrev cX8_battery : ByteArray := prog_1_method_3_code
def yX8_battery : MethodName := ⟨RX8, "battery", "(II)I"⟩
abbrev cX8_press : ByteArray := prog_1_method_4_code
def yX8_press : MethodName := ⟨RX8, "press", "(II)I"⟩
abbrev cX8_again : ByteArray := prog_1_method_5_code
def yX8_again : MethodName := ⟨RX8, "again", "(II)I"⟩
abbrev cX8_learn : ByteArray := prog_1_method_6_code
def yX8_learn : MethodName := ⟨RX8, "learn", "(III)I"⟩
abbrev cX8_forget : ByteArray := prog_1_method_7_code
def yX8_forget : MethodName := ⟨RX8, "forget", "(II)I"⟩
abbrev cX8_shut : ByteArray := prog_1_method_8_code
def yX8_shut : MethodName := ⟨RX8, "shut", "(I)I"⟩
abbrev cX8_unlock : ByteArray := prog_1_method_9_code
def yX8_unlock : MethodName := ⟨RX8, "unlock", "(I)I"⟩
abbrev cX8_set : ByteArray := prog_1_method_10_code
def yX8_set : MethodName := ⟨RX8, "set", "(II)I"⟩
abbrev cX8_undo : ByteArray := prog_1_method_15_code
def yX8_undo : MethodName := ⟨RX8, "undo", "()I"⟩
abbrev cX8_fob : ByteArray := prog_1_method_16_code
def yX8_fob : MethodName := ⟨RX8, "fob", "(II)I"⟩
abbrev cX8_slot : ByteArray := prog_1_method_17_code
def yX8_slot : MethodName := ⟨RX8, "slot", "(III)I"⟩
abbrev cX8_door : ByteArray := prog_1_method_18_code
def yX8_door : MethodName := ⟨RX8, "door", "(II)I"⟩
abbrev cX8_air : ByteArray := prog_1_method_19_code
def yX8_air : MethodName := ⟨RX8, "air", "(I)I"⟩
abbrev cX8_count : ByteArray := prog_1_method_20_code
def yX8_count : MethodName := ⟨RX8, "count", "(I)I"⟩
abbrev cX8_setting : ByteArray := prog_1_method_21_code
def yX8_setting : MethodName := ⟨RX8, "setting", "(I)I"⟩
abbrev cX8_ifHeard : ByteArray := prog_1_method_22_code
def yX8_ifHeard : MethodName := ⟨RX8, "ifHeard", "(II)I"⟩
abbrev cX8_opensIn : ByteArray := prog_1_method_23_code
def yX8_opensIn : MethodName := ⟨RX8, "opensIn", "(II)I"⟩
abbrev cX8_unheard : ByteArray := prog_1_method_24_code
def yX8_unheard : MethodName := ⟨RX8, "unheard", "(II)I"⟩
abbrev cX8_useful : ByteArray := prog_1_method_25_code
def yX8_useful : MethodName := ⟨RX8, "useful", "(I)I"⟩
abbrev cX8_openShare : ByteArray := prog_1_method_26_code
def yX8_openShare : MethodName := ⟨RX8, "openShare", "()D"⟩
abbrev cX8_needIndex : ByteArray := prog_1_method_28_code
def yX8_needIndex : MethodName := ⟨RX8, "needIndex", "(II)V"⟩
abbrev cX8_needRange : ByteArray := prog_1_method_29_code
def yX8_needRange : MethodName := ⟨RX8, "needRange", "(III)V"⟩
abbrev cX8_needArgument : ByteArray := prog_1_method_30_code
def yX8_needArgument : MethodName := ⟨RX8, "needArgument", "(Z)V"⟩
abbrev cX8_needState : ByteArray := prog_1_method_31_code
def yX8_needState : MethodName := ⟨RX8, "needState", "(Z)V"⟩
abbrev cX8_numberOf : ByteArray := prog_1_method_32_code
def yX8_numberOf : MethodName := ⟨RX8, "numberOf", "(II)I"⟩
abbrev cX8_counterBehind : ByteArray := prog_1_method_33_code
def yX8_counterBehind : MethodName := ⟨RX8, "counterBehind", "(I)I"⟩
abbrev cX8_counted : ByteArray := prog_1_method_35_code
def yX8_counted : MethodName := ⟨RX8, "counted", "(I)I"⟩
abbrev cX8_tryNumber : ByteArray := prog_1_method_36_code
def yX8_tryNumber : MethodName := ⟨RX8, "tryNumber", "(LRollingFob$Door;I)I"⟩
abbrev cX8_pressesToOpen : ByteArray := prog_1_method_37_code
def yX8_pressesToOpen : MethodName := ⟨RX8, "pressesToOpen", "(LRollingFob$Fob;LRollingFob$Door;)I"⟩
abbrev cX8_mostUnheard : ByteArray := prog_1_method_38_code
def yX8_mostUnheard : MethodName := ⟨RX8, "mostUnheard", "(LRollingFob$Fob;LRollingFob$Door;)I"⟩
abbrev cX8_firstUseful : ByteArray := prog_1_method_39_code
def yX8_firstUseful : MethodName := ⟨RX8, "firstUseful", "(LRollingFob$Door;)I"⟩
def RX9 : String := "RollingFobModel"
def TX9 : u_T := fun k => match k with
  | _ => ("", "", "", false)
def tyX9 : Nat → FieldType := fun k => match k with
  | _ => .int
abbrev wsX90 : List Cond := u_ws RX9 TX9 0
theorem nmX9 : ∀ a, a < 0 → ∀ b, b < 0 → a ≠ b → (TX9 a).2.1 ≠ (TX9 b).2.1 := by decide +kernel
theorem tyX9_ok : ∀ k, k < 0 → parseFieldDescriptor (TX9 k).2.2.1 = some (tyX9 k) := by decide +kernel
def RJ6 : String := "java/lang/Integer"
def TJ6 : u_T := fun k => match k with
  | _ => ("", "", "", false)
def tyJ6 : Nat → FieldType := fun k => match k with
  | _ => .int
abbrev wsJ60 : List Cond := u_ws RJ6 TJ6 0
theorem nmJ6 : ∀ a, a < 0 → ∀ b, b < 0 → a ≠ b → (TJ6 a).2.1 ≠ (TJ6 b).2.1 := by decide +kernel
theorem tyJ6_ok : ∀ k, k < 0 → parseFieldDescriptor (TJ6 k).2.2.1 = some (tyJ6 k) := by decide +kernel
abbrev cJ6_bitCount_0f7a4 : ByteArray := prog_16_method_49_code
def yJ6_bitCount_0f7a4 : MethodName := ⟨RJ6, "bitCount", "(I)I"⟩
def RJ9 : String := "java/lang/Math"
def TJ9 : u_T := fun k => match k with
  | _ => ("", "", "", false)
def tyJ9 : Nat → FieldType := fun k => match k with
  | _ => .int
abbrev wsJ90 : List Cond := u_ws RJ9 TJ9 0
theorem nmJ9 : ∀ a, a < 0 → ∀ b, b < 0 → a ≠ b → (TJ9 a).2.1 ≠ (TJ9 b).2.1 := by decide +kernel
theorem tyJ9_ok : ∀ k, k < 0 → parseFieldDescriptor (TJ9 k).2.2.1 = some (tyJ9 k) := by decide +kernel
abbrev cJ9_floorMod_7cf53 : ByteArray := prog_17_method_50_code
def yJ9_floorMod_7cf53 : MethodName := ⟨RJ9, "floorMod", "(II)I"⟩
abbrev cJ9_min_7cf53 : ByteArray := prog_17_method_69_code
def yJ9_min_7cf53 : MethodName := ⟨RJ9, "min", "(II)I"⟩
def RJ10 : String := "java/lang/System"
def TJ10 : u_T := fun k => match k with
  | _ => ("", "", "", false)
def tyJ10 : Nat → FieldType := fun k => match k with
  | _ => .int
abbrev wsJ100 : List Cond := u_ws RJ10 TJ10 0
theorem nmJ10 : ∀ a, a < 0 → ∀ b, b < 0 → a ≠ b → (TJ10 a).2.1 ≠ (TJ10 b).2.1 := by decide +kernel
theorem tyJ10_ok : ∀ k, k < 0 → parseFieldDescriptor (TJ10 k).2.2.1 = some (tyJ10 k) := by decide +kernel
def RL : String := "RollingFobLaw"
abbrev cL_low : ByteArray := method_2_code
def yL_low : MethodName := ⟨RL, "low", "(II)I"⟩
abbrev cL_cell : ByteArray := method_3_code
def yL_cell : MethodName := ⟨RL, "cell", "([II)I"⟩
abbrev cL_press : ByteArray := method_4_code
def yL_press : MethodName := ⟨RL, "press", "(LRollingFob;II)I"⟩
abbrev cL_again : ByteArray := method_5_code
def yL_again : MethodName := ⟨RL, "again", "(LRollingFob;II)I"⟩
abbrev cL_undo : ByteArray := method_6_code
def yL_undo : MethodName := ⟨RL, "undo", "(LRollingFob;)I"⟩
abbrev cL_yard : ByteArray := method_7_code
def yL_yard : MethodName := ⟨RL, "yard", "(LRollingFob;)Z"⟩
abbrev cL_act : ByteArray := method_8_code
def yL_act : MethodName := ⟨RL, "act", "(LRollingFob;[II)I"⟩
abbrev cL_law : ByteArray := code
def yL_law : MethodName := ⟨RL, "law", "([I)Z"⟩
abbrev vwCl : List vw_C := [(RX0, TX0, 2), (RX1, TX1, 7), (RX2, TX2, 4), (RX3, TX3, 3), (RX4, TX4, 3), (RX5, TX5, 4), (RX6, TX6, 6), (RX7, TX7, 2), (RX8, TX8, 4)]
end
section
/-! ===== BEGIN words of one list among another's, by their places ===== -/
theorem goodIn_r {big : List Cond} (ws : List Cond) (ps : List Nat) (hp : ws = ps.filterMap (fun i => big[i]?)) (h : ws.all goodWord = true) : GoodIn big ws := by
  intro w hw
  have h1 := List.all_eq_true.mp h w hw
  rw [hp] at hw
  obtain ⟨i, -, hi⟩ := List.mem_filterMap.mp hw
  have hm : w ∈ big := by first | exact List.mem_of_getElem? hi | exact List.getElem?_mem hi
  exact ⟨hm, good_of_word h1⟩
theorem goodIn_app {big a b : List Cond} (ha : GoodIn big a) (hb : GoodIn big b) : GoodIn big (a ++ b) := fun w h => (List.mem_append.mp h).elim (ha w) (hb w)
theorem goodIn_ca {big a b : List Cond} {c : Cond} (ha : GoodIn big (c :: a)) (hb : GoodIn big b) : GoodIn big (c :: (a ++ b)) := fun w h => (List.mem_cons.mp h).elim (fun e => ha w (List.mem_cons.mpr (Or.inl e))) (fun h => (List.mem_append.mp h).elim (fun h => ha w (List.mem_cons.mpr (Or.inr h))) (hb w))
theorem goodIn_sub {big ws : List Cond} (hm : ∀ w ∈ ws, w ∈ big) (h : ws.all goodWord = true) : GoodIn big ws := fun w hw => ⟨hm w hw, good_of_word (List.all_eq_true.mp h w hw)⟩
/-! ===== END ===== -/

/-! ===== BEGIN exceptions that leave a method, and their catching by the caller (launches without stack traces) ===== -/
section VXA
/-! The laws vx_back, vx_callV, vx_callS, vx_callSW, vx_throw0, vx_throwS follow proofs of the library, with one case more: JvmDerived/Free/Laws.lean (Back.of_free), Shelf42/LK1.lean (callV, callS), Shelf/KitTraced.lean (throwNew0V, throwNewS). -/
/-- where a method has thrown q: the class by its name, the cell, what was written, the world -/
def vx_T (XC : String → State → State → Prop) (st : State) (q : Addr) (t : State) (mc ms : Nat) (free : Addr → Prop) : Prop :=
  ∃ (E : String) (ce : Cell) (L : List Loc), XC E st t ∧ t.heap[q]? = some ce ∧ ce.vm = .none ∧ st.vm.findClass E = some ce.cls ∧ st.WarmedH t.vm ∧ st.sameButNew ({ t with vm := st.vm } : State) L mc ms ∧ ∀ z ∈ L, free z.base
def vx_Q (Qc : Array Value → State → Outcome → State → Prop) (XC : String → State → State → Prop) (mc ms : Nat) (free : Addr → Prop) : Array Value → State → Outcome → State → Prop := fun a st o t =>
  (Qc a st o t ∧ ∃ L, FrameEnd st o t L mc ms ∧ ∀ q ∈ L, free q.base) ∨ ∃ q, o = .threw q ∧ vx_T XC st q t mc ms free
/-- a callee that returns or throws -/
def vx_Met (l : Launch) (y : MethodName) (ws : List Cond) (rm : Room) (Pc : Array Value → State → Prop) (Qc : Array Value → State → Outcome → State → Prop) (XC : String → State → State → Prop) (mc ms : Nat) (free : Addr → Prop) : Prop :=
  MetFree l y (headSpec ws rm) Pc (fun _ _ _ _ _ => True) (vx_Q Qc XC mc ms free)
def vx_Post (XC : String → State → State → Prop) (mc ms : Nat) (free : Addr → Prop) : Pt → Array Value → Addr → Pt → Prop := fun A a q B =>
  ∃ (g : JFrame) (mk : MethodId) (t : State) (L : List Loc) (E : String) (ce : Cell), B.U.heap = t.heap ∧ B.U.vm = t.vm ∧ XC E (A.U.calling g mk a) t ∧ t.heap[q]? = some ce ∧ ce.vm = .none ∧ A.U.vm.findClass E = some ce.cls ∧ B.locs = A.locs ++ L ∧ (∀ z ∈ L, free z.base) ∧ B.cells = A.cells + mc ∧ B.slots = A.slots + ms
def vx_Back (l : Launch) (R : Room) (p : Program) (e : Env) (below : List Frame) (s : State) (sargs : Array Value) (y : MethodName) (len W9 : Nat)
    (Pre : Pt → Array Value → Prop) (Post : Pt → Array Value → Option Value → Pt → Prop) (PostX : Pt → Array Value → Addr → Pt → Prop) : Prop :=
  ∀ (m : MethodId) (meth : Method) (c : Code) (A : Pt) (g : JFrame) (ig : Instr) (mk : MethodId) (a : Array Value),
    Stand p l e R s m sargs below meth c A.U A.locs A.cells A.slots → g.method = m → g.locals.size = c.maxLocals → decode c.code g.pc = .ok (ig, len) →
    2 * g.monitorRoom + (g.stack.map fun v => v.category).sum ≤ W9 → A.U.methodNamed? y = some mk → Pre A a →
    (∃ (v : Option Value) (B : Pt), Stand p l e R s m sargs below meth c B.U B.locs B.cells B.slots ∧ Post A a v B ∧
      Steps p.tables e below (doInvoke e (A.U.setTop g) [] mk a).1 (B.U.setTop { g with pc := g.pc + len, stack := v.toList ++ g.stack })) ∨
    (∃ (q : Addr) (B : Pt), Stand p l e R s m sargs below meth c B.U B.locs B.cells B.slots ∧ PostX A a q B ∧
      Steps p.tables e below (doInvoke e (A.U.setTop g) [] mk a).1 ((B.U.setTop g).pushFrame (.throwing q)))
section Payer
variable {l : Launch} {R : Room} {p : Program} {e : Env} {below : List Frame} {s : State} {sargs : Array Value} {y : MethodName} {len W9 : Nat}
theorem vx_back {ws : List Cond} {rm : Room} {Pc : Array Value → State → Prop} {Qc : Array Value → State → Outcome → State → Prop} {XC : String → State → State → Prop} {mc ms : Nat} {free : Addr → Prop} {bytes : ByteArray} {maxL : Nat} {ret : Option FieldType}
    (hM : vx_Met l y ws rm Pc Qc XC mc ms free) (hblind : FrameBlind Pc) (hrc : rm.cells = mc) (hrs : rm.slots = ms)
    (hframes : rm.frames + 1 ≤ R.frames) (hlocals : W9 + (maxL + 11) + rm.locals ≤ R.locals)
    (hws : ∀ w ∈ ws, ∀ a' U, s.WarmedH U.vm → w.before a' U = true) (hcode : Cond.code y bytes maxL ret ∈ ws) (hinit : ∀ a' U, s.WarmedH U.vm → (Cond.initialized y.cls).before a' U = true) :
    vx_Back l R p e below s sargs y len W9 (PreOf R mc ms Pc) (PostOf Qc mc ms free) (vx_Post XC mc ms free) := by
  intro m meth c A g ig mk a X hg hsize hdg hW hn hp
  have h1 : (headSpec ws rm).pre.before a A.U = true := atoms_intro fun w hw => hws w hw _ _ X.warmed
  have h2 : (Cond.code y bytes maxL ret).before a A.U = true := hws _ hcode _ _ X.warmed
  have h3 : (Cond.initialized y.cls).before a A.U = true := hinit _ _ X.warmed
  have h4 : A.cells + (headSpec ws rm).room.cells ≤ R.cells := by rw [show (headSpec ws rm).room.cells = mc from hrc]; exact hp.1
  have h5 : A.slots + (headSpec ws rm).room.slots ≤ R.slots := by rw [show (headSpec ws rm).room.slots = ms from hrs]; exact hp.2.1
  have hPc : Pc a (A.U.calling g mk a) := hblind _ _ _ _ hp.2.2
  obtain ⟨U, Ls, c0, s0⟩ := A
  dsimp only [Pt.U, Pt.locs, Pt.cells, Pt.slots] at h1 h2 h3 h4 h5 X hn hPc ⊢
  obtain ⟨methY, cY, hmY, hcY, -, hlY, -, -, -, -⟩ := Cond.code_spec hn h2
  obtain ⟨kY, hkY, -⟩ := className_of_methodNamed hn
  have hinitY : kY.init = .initialized := Cond.initialized_spec (findClass_of_methodNamed hn) hkY h3
  have h : At U g.method c below := by rw [hg]; exact X.here
  have hlocals9 : W9 + (maxL + 11) + (headSpec ws rm).room.locals ≤ R.locals := hlocals
  have happ : (headSpec ws rm).appliesLoose y e.platform (U.calling g mk a) = true :=
    Spec.appliesLoose_calling (g := g) h hdg hn hkY hinitY
      (X.room_calling (g := g) (R' := (headSpec ws rm).room) hsize hmY hcY hframes (by rw [hlY]; omega) h4 h5) h1
  obtain ⟨mid, hmid⟩ := h.above
  have hfr : (U.setTop g).frames = (.java g :: mid) ++ below := by rw [State.frames_setTop' g h.top, hmid]; rfl
  obtain ⟨o, s₂, hsteps, -, hend, hq⟩ := Steps.callFree hM p X.admits X.cas X.clock (acts := []) hfr happ hPc trivial
  have hq' : vx_Q Qc XC mc ms free a (U.calling g mk a) o s₂ := hq
  rw [State.frames_setTop' g h.top] at hend
  obtain ⟨g₀, hg0⟩ := Option.isSome_iff_exists.mp h.top
  obtain ⟨r, hr⟩ := State.topJava?_eq_some.mp hg0
  have hr' : (({ U with heap := s₂.heap, slotsUsed := s₂.slotsUsed } : State).setVm s₂.vm).frames = .java g₀ :: r := hr
  rcases hq' with ⟨hqc, L, hfe, hL⟩ | ⟨q, rfl, E, ce, L, hx, hce, hcv, hcl, hW₂, hsm, hL⟩
  · obtain ⟨⟨v, rfl⟩, hW₂, e2, q2, q3, q4, q5, q6⟩ := id hfe
    have e3 : s₂ = ({ (U.calling g mk a).setFrames s₂.frames with heap := s₂.heap, slotsUsed := s₂.slotsUsed } : State).setVm s₂.vm := by
      have : s₂ = ({ s₂ with vm := (U.calling g mk a).vm } : State).setVm s₂.vm := rfl
      rw [e2] at this
      exact this
    obtain ⟨c₂, i₂, len₂, hc₂, hd₂, hf₂⟩ := hend
    have hW' : U.WarmedH s₂.vm := hW₂
    have hcc : c₂ = c := by
      have h1 : s₂.code? g.method = U.code? g.method := by
        rw [State.code?_eq, State.code?_eq, hW'.alike.method?]
      exact Option.some.inj (hc₂.symm.trans (h1.trans h.code))
    subst hcc
    have hlen : len₂ = len := by rw [hdg] at hd₂; cases hd₂; rfl
    subst hlen
    have hs₂ : s₂ = (({ U with heap := s₂.heap, slotsUsed := s₂.slotsUsed } : State).setVm s₂.vm).setTop { g with pc := g.pc + len₂, stack := v.toList ++ g.stack } := by
      refine e3.trans ?_
      rw [hf₂, State.calling_eq h.top, State.setFrames_setFrames, State.setTop_of_frames _ hr', hr]
      rfl
    have hsame : U.sameButNew ({ U with heap := s₂.heap, slotsUsed := s₂.slotsUsed } : State) L mc ms := by
      refine ⟨?_, q2, q3, q4, q5, q6⟩
      obtain ⟨t, ht, -⟩ := State.frames_cons hr
      show ({ U with heap := s₂.heap, slotsUsed := s₂.slotsUsed } : State) = { U.setFrames U.frames with heap := s₂.heap, slotsUsed := s₂.slotsUsed }
      rw [State.setFrames_self ht]
    subst hg
    refine Or.inl ⟨v, ⟨(({ U with heap := s₂.heap, slotsUsed := s₂.slotsUsed } : State).setVm s₂.vm), Ls ++ L, c0 + mc, s0 + ms⟩,
      ⟨X.admits, X.cas, X.clock, X.frames, X.room, X.hears, X.method, X.code, (X.here.setHeapUsed s₂.heap s₂.slotsUsed).setVm hW'.alike, X.tail, State.WarmedH.trans X.warmed hW', X.limits, X.bytes, X.same.trans (hsame.setVm s.vm)⟩,
      ⟨g, mk, s₂, L, rfl, rfl, hqc, rfl, hL, rfl, rfl⟩, ?_⟩
    show Steps p.tables e below _ ((({ U with heap := s₂.heap, slotsUsed := s₂.slotsUsed } : State).setVm s₂.vm).setTop { g with pc := g.pc + len₂, stack := v.toList ++ g.stack })
    rw [← hs₂]
    exact hsteps
  · obtain ⟨e2, q2, q3, q4, q5, q6⟩ := id hsm
    have e3 : s₂ = ({ (U.calling g mk a).setFrames s₂.frames with heap := s₂.heap, slotsUsed := s₂.slotsUsed } : State).setVm s₂.vm := by
      have : s₂ = ({ s₂ with vm := (U.calling g mk a).vm } : State).setVm s₂.vm := rfl
      rw [e2] at this
      exact this
    have hf₂ : s₂.frames = .throwing q :: .java g :: U.frames.tail := hend
    have hW' : U.WarmedH s₂.vm := hW₂
    have hs₂ : s₂ = ((({ U with heap := s₂.heap, slotsUsed := s₂.slotsUsed } : State).setVm s₂.vm).setTop g).pushFrame (.throwing q) := by
      refine e3.trans ?_
      rw [hf₂, State.calling_eq h.top, State.setFrames_setFrames, State.pushFrame, State.frames_setTop _ hr', State.setTop_of_frames _ hr', State.setFrames_setFrames, hr]
      rfl
    have hsame : U.sameButNew ({ U with heap := s₂.heap, slotsUsed := s₂.slotsUsed } : State) L mc ms := by
      refine ⟨?_, q2, q3, q4, q5, q6⟩
      obtain ⟨t, ht, -⟩ := State.frames_cons hr
      show ({ U with heap := s₂.heap, slotsUsed := s₂.slotsUsed } : State) = { U.setFrames U.frames with heap := s₂.heap, slotsUsed := s₂.slotsUsed }
      rw [State.setFrames_self ht]
    subst hg
    refine Or.inr ⟨q, ⟨(({ U with heap := s₂.heap, slotsUsed := s₂.slotsUsed } : State).setVm s₂.vm), Ls ++ L, c0 + mc, s0 + ms⟩,
      ⟨X.admits, X.cas, X.clock, X.frames, X.room, X.hears, X.method, X.code, (X.here.setHeapUsed s₂.heap s₂.slotsUsed).setVm hW'.alike, X.tail, State.WarmedH.trans X.warmed hW', X.limits, X.bytes, X.same.trans (hsame.setVm s.vm)⟩,
      ⟨g, mk, s₂, L, E, ce, rfl, rfl, hx, hce, hcv, hcl, rfl, hL, rfl, rfl⟩, ?_⟩
    show Steps p.tables e below _ (((({ U with heap := s₂.heap, slotsUsed := s₂.slotsUsed } : State).setVm s₂.vm).setTop g).pushFrame (.throwing q))
    rw [← hs₂]
    exact hsteps
end Payer
section Calls
variable {p : Program} {l : Launch} {e : Env} {R : Room} {s : State} {m : MethodId} {args : Array Value} {below : List Frame} {meth : Method} {c : Code} {T : State} {locs : List Loc} {cells slots : Nat}
theorem vx_callV (X : Stand p l e R s m args below meth c T locs cells slots) (hexec : p.tables.exec = Jvm.exec) {own C : String} {index : Nat} {y : MethodName} {bytes : ByteArray} {maxL : Nat} {ret : Option FieldType}
    (hown : s.vm.findClass own = some m.cls) (hlink : (Cond.methodLink own index y).before args s = true) (hinst : (Cond.instanceMethod y).before args s = true) (hsel : (Cond.selects C y y).before args s = true)
    (hcode : (Cond.code y bytes maxL ret).before args s = true) (hy : y.cls ≠ "java/lang/invoke/MethodHandle" ∧ y.cls ≠ "java/lang/invoke/VarHandle")
    {W9 : Nat} {Pre : Pt → Array Value → Prop} {Post : Pt → Array Value → Option Value → Pt → Prop} {PostX : Pt → Array Value → Addr → Pt → Prop} (hK : vx_Back l R p e below s args y 3 W9 Pre Post PostX)
    {b : Addr} {cellB : Cell} (hcell : T.heap[b]? = some cellB) (hobj : cellB.vm.isStatics = false) (hcls : s.vm.findClass C = some cellB.cls)
    {g : JFrame} (hg : g.method = m) (hsize : g.locals.size = c.maxLocals) {argsL rest : List Value} (hlen : ∀ sig, parseMethodDescriptor y.desc = some sig → argsL.length = sig.parameters.length)
    (hstack : g.stack = argsL.reverse ++ .ref b :: rest) (hW : 2 * g.monitorRoom + (rest.map fun v => v.category).sum ≤ W9) (hdg : decode c.code g.pc = .ok (.invokevirtual index, 3))
    (hpre : ∀ vm₁, s.WarmedH vm₁ → Pre ⟨T.setVm vm₁, locs, cells, slots⟩ (Value.ref b :: argsL).toArray) :
    (∃ (v : Option Value) (vm₁ : Vm) (B : Pt), s.WarmedH vm₁ ∧ Stand p l e R s m args below meth c B.U B.locs B.cells B.slots ∧ Post ⟨T.setVm vm₁, locs, cells, slots⟩ (Value.ref b :: argsL).toArray v B ∧
      ∀ target, Steps p.tables e below (B.U.setTop { g with pc := g.pc + 3, stack := v.toList ++ rest }) target → Steps p.tables e below (T.setTop g) target) ∨
    (∃ (q : Addr) (vm₁ : Vm) (B : Pt), s.WarmedH vm₁ ∧ Stand p l e R s m args below meth c B.U B.locs B.cells B.slots ∧ PostX ⟨T.setVm vm₁, locs, cells, slots⟩ (Value.ref b :: argsL).toArray q B ∧
      Steps p.tables e below (T.setTop g) ((B.U.setTop { g with stack := rest }).pushFrame (.throwing q))) := by
  obtain ⟨mk, methM, hnamed, hmethM, hstM, habM⟩ := Cond.instanceMethod_spec hinst
  obtain ⟨methM', cM, hmethM', -, -, -, -, -, -, hsigM⟩ := Cond.code_spec hnamed hcode
  cases hmethM.symm.trans hmethM'
  obtain ⟨c2, r2, m2, q1, q2, q3, q4, kP, hkP, hkPi⟩ := Cond.selects_spec hsel
  cases hcls.symm.trans q1
  cases (State.methodFound?_of_named hnamed hy).symm.trans q2
  cases hnamed.symm.trans q3
  have hselP : selectMethod e.platform s.vm cellB.cls mk = .method mk := by rw [Launch.admits_selectMethod X.admits]; exact q4
  obtain ⟨vm₁, X₁, hstep₁⟩ := X.invokevirtual hexec hown hlink hnamed hmethM hstM hkP hkPi hy (a := b) (cell := cellB) hcell
    (fun z h => by rw [h] at hobj; cases hobj) hselP hmethM habM hkP hkPi (g := g) hg (argsL := argsL) (rest := rest) (hlen _ hsigM) hstack hdg
  rcases hK m meth c ⟨T.setVm vm₁, locs, cells, slots⟩ { g with stack := rest } (.invokevirtual index) mk (Value.ref b :: argsL).toArray X₁ hg hsize hdg hW (X₁.named hnamed) (hpre vm₁ X₁.warmed) with ⟨v, B, X', hpost, hsteps⟩ | ⟨q, B, X', hpost, hsteps⟩
  · exact Or.inl ⟨v, vm₁, B, X₁.warmed, X', hpost, fun target h => hstep₁ _ fun acts => by rw [doInvoke_state]; exact hsteps.trans h⟩
  · exact Or.inr ⟨q, vm₁, B, X₁.warmed, X', hpost, hstep₁ _ fun acts => by rw [doInvoke_state]; exact hsteps⟩
theorem vx_callS (X : Stand p l e R s m args below meth c T locs cells slots) (hexec : p.tables.exec = Jvm.exec) {own : String} {index : Nat} {y : MethodName} {bytes : ByteArray} {maxL : Nat} {ret : Option FieldType}
    (hown : s.vm.findClass own = some m.cls) (hlink : (Cond.methodLink own index y).before args s = true) (hstat : (Cond.static y).before args s = true) (hinit : (Cond.initialized y.cls).before args s = true)
    (hcode : (Cond.code y bytes maxL ret).before args s = true) (hy : y.cls ≠ "java/lang/invoke/MethodHandle" ∧ y.cls ≠ "java/lang/invoke/VarHandle")
    {W9 : Nat} {Pre : Pt → Array Value → Prop} {Post : Pt → Array Value → Option Value → Pt → Prop} {PostX : Pt → Array Value → Addr → Pt → Prop} (hK : vx_Back l R p e below s args y 3 W9 Pre Post PostX)
    {g : JFrame} (hg : g.method = m) (hsize : g.locals.size = c.maxLocals) {argsL rest : List Value} (hlen : ∀ sig, parseMethodDescriptor y.desc = some sig → argsL.length = sig.parameters.length)
    (hstack : g.stack = argsL.reverse ++ rest) (hW : 2 * g.monitorRoom + (rest.map fun v => v.category).sum ≤ W9) (hdg : decode c.code g.pc = .ok (.invokestatic index, 3))
    (hpre : ∀ vm₁, s.WarmedH vm₁ → Pre ⟨T.setVm vm₁, locs, cells, slots⟩ argsL.toArray) :
    (∃ (v : Option Value) (vm₁ : Vm) (B : Pt), s.WarmedH vm₁ ∧ Stand p l e R s m args below meth c B.U B.locs B.cells B.slots ∧ Post ⟨T.setVm vm₁, locs, cells, slots⟩ argsL.toArray v B ∧
      ∀ target, Steps p.tables e below (B.U.setTop { g with pc := g.pc + 3, stack := v.toList ++ rest }) target → Steps p.tables e below (T.setTop g) target) ∨
    (∃ (q : Addr) (vm₁ : Vm) (B : Pt), s.WarmedH vm₁ ∧ Stand p l e R s m args below meth c B.U B.locs B.cells B.slots ∧ PostX ⟨T.setVm vm₁, locs, cells, slots⟩ argsL.toArray q B ∧
      Steps p.tables e below (T.setTop g) ((B.U.setTop { g with stack := rest }).pushFrame (.throwing q))) := by
  obtain ⟨mk, hnamed⟩ := Cond.code_named hcode
  obtain ⟨methM, cM, hmethM, -, -, -, -, -, -, hsigM⟩ := Cond.code_spec hnamed hcode
  have hstatic : methM.isStatic = true := Cond.static_spec hnamed hmethM hstat
  obtain ⟨kP, hkP, -⟩ := className_of_methodNamed hnamed
  have hinitP : kP.init = .initialized := Cond.initialized_spec (findClass_of_methodNamed hnamed) hkP hinit
  obtain ⟨vm₁, X₁, hstep₁⟩ := X.invokestatic hexec hown hlink hnamed hmethM hstatic hkP hinitP hy (g := g) hg (argsL := argsL) (rest := rest) (hlen _ hsigM) hstack hdg
  rcases hK m meth c ⟨T.setVm vm₁, locs, cells, slots⟩ { g with stack := rest } (.invokestatic index) mk argsL.toArray X₁ hg hsize hdg hW (X₁.named hnamed) (hpre vm₁ X₁.warmed) with ⟨v, B, X', hpost, hsteps⟩ | ⟨q, B, X', hpost, hsteps⟩
  · exact Or.inl ⟨v, vm₁, B, X₁.warmed, X', hpost, fun target h => hstep₁ _ fun acts => by rw [doInvoke_state]; exact hsteps.trans h⟩
  · exact Or.inr ⟨q, vm₁, B, X₁.warmed, X', hpost, hstep₁ _ fun acts => by rw [doInvoke_state]; exact hsteps⟩
end Calls
theorem vx_cls {s : State} {T : State} {vm₁ : Vm} {E : String} {k : ClassId} (hW : s.WarmedH vm₁) (h : (T.setVm vm₁).vm.findClass E = some k) : s.vm.findClass E = some k := by
  have h1 : vm₁.findClass E = some k := h
  rw [hW.alike.findClass] at h1
  exact h1
/-- the method's frame g, with q thrown over it -/
def vx_W (p : Program) (l : Launch) (e : Env) (R : Room) (s : State) (m : MethodId) (args : Array Value) (below : List Frame) (meth : Method) (c : Code) (H : Heap) (locs : List Loc) (cells slots : Nat) (Q : State → Prop) (g : JFrame) (q : Addr) : Prop :=
  ∀ T : State, T.heap = H → Stand p l e R s m args below meth c T locs cells slots → ∃ t, Steps p.tables e below ((T.setTop g).pushFrame (.throwing q)) t ∧ Q t
def vx_Run (p : Program) (l : Launch) (e : Env) (R : Room) (s : State) (m : MethodId) (args : Array Value) (below : List Frame) (meth : Method) (c : Code) (H : Heap) (locs : List Loc) (cells slots mc ms : Nat) (g : JFrame) (rest : List Value) (Qa : State → Outcome → State → Prop) (XC : String → State → State → Prop) (free : Addr → Prop) : Prop :=
  ∀ T : State, T.heap = H → Stand p l e R s m args below meth c T locs cells slots →
    (∃ (v : Option Value) (st₀ t T' : State) (L : List Loc), st₀.heap = H ∧ Stand p l e R s m args below meth c T' (locs ++ L) (cells + mc) (slots + ms) ∧ (∀ q ∈ L, free q.base) ∧ T'.heap = t.heap ∧ T'.vm = t.vm ∧ Qa st₀ (.returned v) t ∧
      Goes p e below T g T' { g with pc := g.pc + 3, stack := v.toList ++ rest }) ∨
    (∃ (q : Addr) (st₀ t T' : State) (L : List Loc) (E : String) (ce : Cell), st₀.heap = H ∧ Stand p l e R s m args below meth c T' (locs ++ L) (cells + mc) (slots + ms) ∧ (∀ z ∈ L, free z.base) ∧ T'.heap = t.heap ∧ T'.vm = t.vm ∧ XC E st₀ t ∧ t.heap[q]? = some ce ∧ ce.vm = .none ∧ s.vm.findClass E = some ce.cls ∧
      Steps p.tables e below (T.setTop g) ((T'.setTop { g with stack := rest }).pushFrame (.throwing q)))
def vx_X {S : Type} (px : S → Prop) (B : String → S → State → Prop) (A : Nat → Prop) : String → State → State → Prop := fun E st t => ∃ u : S, px u ∧ B E u t ∧ va_F A st t
section Runs
variable {p : Program} {l : Launch} {e : Env} {R : Room} {s : State} {m : MethodId} {args : Array Value} {below : List Frame} {meth : Method} {c : Code} {H : Heap} {locs : List Loc} {cells slots : Nat}
variable {y : MethodName} {bytes cc : ByteArray} {maxL nL mc ms n index : Nat} {ret : Option FieldType} {ws : List Cond} {rm : Room} {Pc : Array Value → State → Prop} {Qc : Array Value → State → Outcome → State → Prop} {XC : String → State → State → Prop} {free : Addr → Prop} {Ts : List Cond} {own C : String} {b : Addr} {As rest : List Value} {g : JFrame}
theorem vx_callBack (cb : CallB R s args own index y bytes maxL ret ws rm mc ms n) (hM : vx_Met l y ws rm Pc Qc XC mc ms free) (hbl : FrameBlind Pc) : vx_Back l R p e below s args y 3 8 (PreOf R mc ms Pc) (PostOf Qc mc ms free) (vx_Post XC mc ms free) := by
  obtain ⟨hrc, hrs, hfr, hlo, hws, hcw, -, hini, -⟩ := cb
  exact vx_back (bytes := bytes) (maxL := maxL) (ret := ret) hM hbl hrc hrs hfr hlo hws hcw (fun a' U hW => word_at hW (Or.inl (by first | rfl | simp [Cond.onTables, Cond.keeps, Cond.steady])) hini)
theorem vx_runV (S : CallFix p m c cc nL s args Ts own) (hM : vx_Met l y ws rm Pc Qc XC mc ms free) (cw : CallW R s args own C index y bytes maxL ret ws rm mc ms n) (hp : PreV s H C b Pc As)
    (hg : g.method = m) (hn : As.length = n) (hsize : g.locals.size = nL) (hstack : g.stack = As.reverse ++ .ref b :: rest) (hW : 2 * g.monitorRoom + (rest.map fun v => v.category).sum ≤ 8) (hdg : decode cc g.pc = .ok (.invokevirtual index, 3)) (hf : cells + mc ≤ R.cells ∧ slots + ms ≤ R.slots) :
    vx_Run p l e R s m args below meth c H locs cells slots mc ms g rest (Qc (Value.ref b :: As).toArray) XC free := by
  have hK : vx_Back l R p e below s args y 3 8 (PreOf R mc ms Pc) (PostOf Qc mc ms free) (vx_Post XC mc ms free) := vx_callBack cw.1 hM hp.1
  obtain ⟨⟨-, -, -, -, -, -, hcode, -, hy, hlen, hl⟩, hin, hse⟩ := cw
  obtain ⟨hx, hb, hml, ho, -⟩ := S
  obtain ⟨-, ⟨cellB, hcB, hoB, hclB⟩, hPc⟩ := hp
  intro T hT X
  rcases vx_callV X hx (C := C) (bytes := bytes) (maxL := maxL) (ret := ret) ho hl hin hse hcode hy hK (by rw [hT]; exact hcB) hoB hclB hg (hsize.trans hml.symm) (argsL := As) (rest := rest) (fun sig h => hn.trans (hlen sig h)) hstack hW (by rw [hb]; exact hdg)
    (fun vm₁ hW₁ => ⟨hf.1, hf.2, hPc (T.setVm vm₁) hT hW₁⟩) with ⟨v, vm₁, ⟨U', l2, c2, s2⟩, hW₁, X', ⟨g', mk, t, L, e1, e2, hq, h1, hL, h2, h3⟩, st⟩ | ⟨q, vm₁, ⟨U', l2, c2, s2⟩, hW₁, X', ⟨g', mk, t, L, E, ce, e1, e2, hq, hce, hcv, hcl, h1, hL, h2, h3⟩, st⟩
  · dsimp only [Pt.U, Pt.locs, Pt.cells, Pt.slots] at X' e1 e2 h1 h2 h3 st
    subst h1; subst h2; subst h3
    exact Or.inl ⟨v, (T.setVm vm₁).calling g' mk (Value.ref b :: As).toArray, t, U', L, hT, X', hL, e1, e2, hq, st⟩
  · dsimp only [Pt.U, Pt.locs, Pt.cells, Pt.slots] at X' e1 e2 h1 h2 h3 st hcl
    subst h1; subst h2; subst h3
    exact Or.inr ⟨q, (T.setVm vm₁).calling g' mk (Value.ref b :: As).toArray, t, U', L, E, ce, hT, X', hL, e1, e2, hq, hce, hcv, vx_cls hW₁ hcl, st⟩
theorem vx_runS (S : CallFix p m c cc nL s args Ts own) (hM : vx_Met l y ws rm Pc Qc XC mc ms free) (cw : CallB R s args own index y bytes maxL ret ws rm mc ms n ∧ (Cond.static y).before args s = true) (hp : PreS s H Pc As)
    (hg : g.method = m) (hn : As.length = n) (hsize : g.locals.size = nL) (hstack : g.stack = As.reverse ++ rest) (hW : 2 * g.monitorRoom + (rest.map fun v => v.category).sum ≤ 8) (hdg : decode cc g.pc = .ok (.invokestatic index, 3)) (hf : cells + mc ≤ R.cells ∧ slots + ms ≤ R.slots) :
    vx_Run p l e R s m args below meth c H locs cells slots mc ms g rest (Qc As.toArray) XC free := by
  have hK : vx_Back l R p e below s args y 3 8 (PreOf R mc ms Pc) (PostOf Qc mc ms free) (vx_Post XC mc ms free) := vx_callBack cw.1 hM hp.1
  obtain ⟨⟨-, -, -, -, -, -, hcode, hini, hy, hlen, hl⟩, hstt⟩ := cw
  obtain ⟨hx, hb, hml, ho, -⟩ := S
  intro T hT X
  rcases vx_callS X hx (bytes := bytes) (maxL := maxL) (ret := ret) ho hl hstt hini hcode hy hK hg (hsize.trans hml.symm) (argsL := As) (rest := rest) (fun sig h => hn.trans (hlen sig h)) hstack hW (by rw [hb]; exact hdg)
    (fun vm₁ hW₁ => ⟨hf.1, hf.2, hp.2 (T.setVm vm₁) hT hW₁⟩) with ⟨v, vm₁, ⟨U', l2, c2, s2⟩, hW₁, X', ⟨g', mk, t, L, e1, e2, hq, h1, hL, h2, h3⟩, st⟩ | ⟨q, vm₁, ⟨U', l2, c2, s2⟩, hW₁, X', ⟨g', mk, t, L, E, ce, e1, e2, hq, hce, hcv, hcl, h1, hL, h2, h3⟩, st⟩
  · dsimp only [Pt.U, Pt.locs, Pt.cells, Pt.slots] at X' e1 e2 h1 h2 h3 st
    subst h1; subst h2; subst h3
    exact Or.inl ⟨v, (T.setVm vm₁).calling g' mk As.toArray, t, U', L, hT, X', hL, e1, e2, hq, st⟩
  · dsimp only [Pt.U, Pt.locs, Pt.cells, Pt.slots] at X' e1 e2 h1 h2 h3 st hcl
    subst h1; subst h2; subst h3
    exact Or.inr ⟨q, (T.setVm vm₁).calling g' mk As.toArray, t, U', L, E, ce, hT, X', hL, e1, e2, hq, hce, hcv, vx_cls hW₁ hcl, st⟩
end Runs
section Rows
variable {p : Program} {l : Launch} {e : Env} {R : Room} {s : State} {m : MethodId} {args : Array Value} {below : List Frame} {meth : Method} {c : Code} {H : Heap} {locs : List Loc} {cells slots : Nat} {Q : State → Prop}
variable {mc ms : Nat} {free : Addr → Prop} {A0 A1 : Nat → Prop} {H0 : Heap} {a : Array Value} {pc : Nat} {ls : Array Slot} {st0 rest : List Value}
theorem vx_keep {st₀ t T' : State} {L : List Loc} (h0 : st₀.heap = H) (e1 : T'.heap = t.heap) (hS : va_S A0 H0 H locs) (hA : ∀ q, q < H.size → A1 q → A0 q) (hf : ∀ q, free q → A0 q) (hL : ∀ q ∈ L, free q.base) (hF : va_F A1 st₀ t) :
    H.size ≤ T'.heap.size ∧ (∀ q : Nat, q < H.size → ¬ A1 q → T'.heap[q]? = H[q]?) ∧ va_S A0 H0 T'.heap (locs ++ L) := by
  obtain ⟨hz, hk⟩ := hF
  rw [h0] at hz hk
  exact ⟨by rw [e1]; exact hz, fun q h1 h2 => by rw [e1]; exact hk q h1 h2,
    ⟨Nat.le_trans hS.1 (by rw [e1]; exact hz), fun q h1 h2 => by rw [e1, hk q (Nat.lt_of_lt_of_le h1 hS.1) (fun z => h2 (hA q (Nat.lt_of_lt_of_le h1 hS.1) z))]; exact hS.2.1 q h1 h2, fun q hq => by
      rcases List.mem_append.mp hq with h | h
      · exact hS.2.2 q h
      · exact hf _ (hL q h)⟩⟩
theorem vx_calli {S SX : Type} {post : Int32 → S → Prop} {px : SX → Prop} {B : S → State → Prop} {BX : String → SX → State → Prop} {AX : Nat → Prop} (hr : vx_Run p l e R s m args below meth c H locs cells slots mc ms (F0 m pc ls st0) rest (va_Qi post B A1 a) (vx_X px BX AX) free) (hS : va_S A0 H0 H locs) (hA : ∀ q, q < H.size → A1 q → A0 q) (hf : ∀ q, free q → A0 q) (hAX : ∀ q, q < H.size → AX q → A0 q)
    (kx : ∀ (E : String) (ce : Cell) (q9 : Addr) (u : SX) (t : State) (H1 : Heap) (locs1 : List Loc), t.heap = H1 → s.vm.Alike t.vm → px u → BX E u t → H.size ≤ H1.size → (∀ q : Nat, q < H.size → ¬ AX q → H1[q]? = H[q]?) → va_S A0 H0 H1 locs1 → H1[q9]? = some ce → ce.vm = .none → s.vm.findClass E = some ce.cls → vx_W p l e R s m args below meth c H1 locs1 (cells + mc) (slots + ms) Q (F0 m pc ls rest) q9)
    (kk : ∀ (r : Int32) (u : S) (t : State) (H1 : Heap) (locs1 : List Loc), t.heap = H1 → s.vm.Alike t.vm → post r u → B u t → H.size ≤ H1.size → (∀ q : Nat, q < H.size → ¬ A1 q → H1[q]? = H[q]?) → va_S A0 H0 H1 locs1 → W p l e R s m args below meth c H1 locs1 (cells + mc) (slots + ms) Q (F0 m (pc + 3) ls (.int r :: rest))) : W p l e R s m args below meth c H locs cells slots Q (F0 m pc ls st0) := by
  intro T hT X
  rcases hr T hT X with ⟨v, st₀, t, T', L, h0, X', hL, e1, e2, ⟨⟨r, u, hv, hp, hb⟩, hF⟩, st⟩ | ⟨q, st₀, t, T', L, E, ce, h0, X', hL, e1, e2, ⟨u, hp, hb, hF⟩, hce, hcv, hcl, st⟩
  · cases hv
    obtain ⟨k1, k2, k3⟩ := vx_keep h0 e1 hS hA hf hL hF
    obtain ⟨t2, a1, b1⟩ := kk r u t T'.heap (locs ++ L) e1.symm (by rw [← e2]; exact X'.warmed.alike) hp hb k1 k2 k3 T' rfl X'
    exact ⟨t2, st t2 a1, b1⟩
  · obtain ⟨k1, k2, k3⟩ := vx_keep h0 e1 hS hAX hf hL hF
    obtain ⟨t2, a1, b1⟩ := kx E ce q u t T'.heap (locs ++ L) e1.symm (by rw [← e2]; exact X'.warmed.alike) hp hb k1 k2 k3 (by rw [e1]; exact hce) hcv hcl T' rfl X'
    exact ⟨t2, st.trans a1, b1⟩
theorem vx_calll {S SX : Type} {post : Int64 → S → Prop} {px : SX → Prop} {B : S → State → Prop} {BX : String → SX → State → Prop} {AX : Nat → Prop} (hr : vx_Run p l e R s m args below meth c H locs cells slots mc ms (F0 m pc ls st0) rest (va_Ql post B A1 a) (vx_X px BX AX) free) (hS : va_S A0 H0 H locs) (hA : ∀ q, q < H.size → A1 q → A0 q) (hf : ∀ q, free q → A0 q) (hAX : ∀ q, q < H.size → AX q → A0 q)
    (kx : ∀ (E : String) (ce : Cell) (q9 : Addr) (u : SX) (t : State) (H1 : Heap) (locs1 : List Loc), t.heap = H1 → s.vm.Alike t.vm → px u → BX E u t → H.size ≤ H1.size → (∀ q : Nat, q < H.size → ¬ AX q → H1[q]? = H[q]?) → va_S A0 H0 H1 locs1 → H1[q9]? = some ce → ce.vm = .none → s.vm.findClass E = some ce.cls → vx_W p l e R s m args below meth c H1 locs1 (cells + mc) (slots + ms) Q (F0 m pc ls rest) q9)
    (kk : ∀ (r : Int64) (u : S) (t : State) (H1 : Heap) (locs1 : List Loc), t.heap = H1 → s.vm.Alike t.vm → post r u → B u t → H.size ≤ H1.size → (∀ q : Nat, q < H.size → ¬ A1 q → H1[q]? = H[q]?) → va_S A0 H0 H1 locs1 → W p l e R s m args below meth c H1 locs1 (cells + mc) (slots + ms) Q (F0 m (pc + 3) ls (.long r :: rest))) : W p l e R s m args below meth c H locs cells slots Q (F0 m pc ls st0) := by
  intro T hT X
  rcases hr T hT X with ⟨v, st₀, t, T', L, h0, X', hL, e1, e2, ⟨⟨r, u, hv, hp, hb⟩, hF⟩, st⟩ | ⟨q, st₀, t, T', L, E, ce, h0, X', hL, e1, e2, ⟨u, hp, hb, hF⟩, hce, hcv, hcl, st⟩
  · cases hv
    obtain ⟨k1, k2, k3⟩ := vx_keep h0 e1 hS hA hf hL hF
    obtain ⟨t2, a1, b1⟩ := kk r u t T'.heap (locs ++ L) e1.symm (by rw [← e2]; exact X'.warmed.alike) hp hb k1 k2 k3 T' rfl X'
    exact ⟨t2, st t2 a1, b1⟩
  · obtain ⟨k1, k2, k3⟩ := vx_keep h0 e1 hS hAX hf hL hF
    obtain ⟨t2, a1, b1⟩ := kx E ce q u t T'.heap (locs ++ L) e1.symm (by rw [← e2]; exact X'.warmed.alike) hp hb k1 k2 k3 (by rw [e1]; exact hce) hcv hcl T' rfl X'
    exact ⟨t2, st.trans a1, b1⟩
theorem vx_callf {S SX : Type} {post : UInt32 → S → Prop} {px : SX → Prop} {B : S → State → Prop} {BX : String → SX → State → Prop} {AX : Nat → Prop} (hr : vx_Run p l e R s m args below meth c H locs cells slots mc ms (F0 m pc ls st0) rest (va_Qf post B A1 a) (vx_X px BX AX) free) (hS : va_S A0 H0 H locs) (hA : ∀ q, q < H.size → A1 q → A0 q) (hf : ∀ q, free q → A0 q) (hAX : ∀ q, q < H.size → AX q → A0 q)
    (kx : ∀ (E : String) (ce : Cell) (q9 : Addr) (u : SX) (t : State) (H1 : Heap) (locs1 : List Loc), t.heap = H1 → s.vm.Alike t.vm → px u → BX E u t → H.size ≤ H1.size → (∀ q : Nat, q < H.size → ¬ AX q → H1[q]? = H[q]?) → va_S A0 H0 H1 locs1 → H1[q9]? = some ce → ce.vm = .none → s.vm.findClass E = some ce.cls → vx_W p l e R s m args below meth c H1 locs1 (cells + mc) (slots + ms) Q (F0 m pc ls rest) q9)
    (kk : ∀ (r : UInt32) (u : S) (t : State) (H1 : Heap) (locs1 : List Loc), t.heap = H1 → s.vm.Alike t.vm → post r u → B u t → H.size ≤ H1.size → (∀ q : Nat, q < H.size → ¬ A1 q → H1[q]? = H[q]?) → va_S A0 H0 H1 locs1 → W p l e R s m args below meth c H1 locs1 (cells + mc) (slots + ms) Q (F0 m (pc + 3) ls (.float r :: rest))) : W p l e R s m args below meth c H locs cells slots Q (F0 m pc ls st0) := by
  intro T hT X
  rcases hr T hT X with ⟨v, st₀, t, T', L, h0, X', hL, e1, e2, ⟨⟨r, u, hv, hp, hb⟩, hF⟩, st⟩ | ⟨q, st₀, t, T', L, E, ce, h0, X', hL, e1, e2, ⟨u, hp, hb, hF⟩, hce, hcv, hcl, st⟩
  · cases hv
    obtain ⟨k1, k2, k3⟩ := vx_keep h0 e1 hS hA hf hL hF
    obtain ⟨t2, a1, b1⟩ := kk r u t T'.heap (locs ++ L) e1.symm (by rw [← e2]; exact X'.warmed.alike) hp hb k1 k2 k3 T' rfl X'
    exact ⟨t2, st t2 a1, b1⟩
  · obtain ⟨k1, k2, k3⟩ := vx_keep h0 e1 hS hAX hf hL hF
    obtain ⟨t2, a1, b1⟩ := kx E ce q u t T'.heap (locs ++ L) e1.symm (by rw [← e2]; exact X'.warmed.alike) hp hb k1 k2 k3 (by rw [e1]; exact hce) hcv hcl T' rfl X'
    exact ⟨t2, st.trans a1, b1⟩
theorem vx_calld {S SX : Type} {post : UInt64 → S → Prop} {px : SX → Prop} {B : S → State → Prop} {BX : String → SX → State → Prop} {AX : Nat → Prop} (hr : vx_Run p l e R s m args below meth c H locs cells slots mc ms (F0 m pc ls st0) rest (va_Qd post B A1 a) (vx_X px BX AX) free) (hS : va_S A0 H0 H locs) (hA : ∀ q, q < H.size → A1 q → A0 q) (hf : ∀ q, free q → A0 q) (hAX : ∀ q, q < H.size → AX q → A0 q)
    (kx : ∀ (E : String) (ce : Cell) (q9 : Addr) (u : SX) (t : State) (H1 : Heap) (locs1 : List Loc), t.heap = H1 → s.vm.Alike t.vm → px u → BX E u t → H.size ≤ H1.size → (∀ q : Nat, q < H.size → ¬ AX q → H1[q]? = H[q]?) → va_S A0 H0 H1 locs1 → H1[q9]? = some ce → ce.vm = .none → s.vm.findClass E = some ce.cls → vx_W p l e R s m args below meth c H1 locs1 (cells + mc) (slots + ms) Q (F0 m pc ls rest) q9)
    (kk : ∀ (r : UInt64) (u : S) (t : State) (H1 : Heap) (locs1 : List Loc), t.heap = H1 → s.vm.Alike t.vm → post r u → B u t → H.size ≤ H1.size → (∀ q : Nat, q < H.size → ¬ A1 q → H1[q]? = H[q]?) → va_S A0 H0 H1 locs1 → W p l e R s m args below meth c H1 locs1 (cells + mc) (slots + ms) Q (F0 m (pc + 3) ls (.double r :: rest))) : W p l e R s m args below meth c H locs cells slots Q (F0 m pc ls st0) := by
  intro T hT X
  rcases hr T hT X with ⟨v, st₀, t, T', L, h0, X', hL, e1, e2, ⟨⟨r, u, hv, hp, hb⟩, hF⟩, st⟩ | ⟨q, st₀, t, T', L, E, ce, h0, X', hL, e1, e2, ⟨u, hp, hb, hF⟩, hce, hcv, hcl, st⟩
  · cases hv
    obtain ⟨k1, k2, k3⟩ := vx_keep h0 e1 hS hA hf hL hF
    obtain ⟨t2, a1, b1⟩ := kk r u t T'.heap (locs ++ L) e1.symm (by rw [← e2]; exact X'.warmed.alike) hp hb k1 k2 k3 T' rfl X'
    exact ⟨t2, st t2 a1, b1⟩
  · obtain ⟨k1, k2, k3⟩ := vx_keep h0 e1 hS hAX hf hL hF
    obtain ⟨t2, a1, b1⟩ := kx E ce q u t T'.heap (locs ++ L) e1.symm (by rw [← e2]; exact X'.warmed.alike) hp hb k1 k2 k3 (by rw [e1]; exact hce) hcv hcl T' rfl X'
    exact ⟨t2, st.trans a1, b1⟩
theorem vx_callv {S SX : Type} {post : S → Prop} {px : SX → Prop} {B : S → State → Prop} {BX : String → SX → State → Prop} {AX : Nat → Prop} (hr : vx_Run p l e R s m args below meth c H locs cells slots mc ms (F0 m pc ls st0) rest (va_Qv post B A1 a) (vx_X px BX AX) free) (hS : va_S A0 H0 H locs) (hA : ∀ q, q < H.size → A1 q → A0 q) (hf : ∀ q, free q → A0 q) (hAX : ∀ q, q < H.size → AX q → A0 q)
    (kx : ∀ (E : String) (ce : Cell) (q9 : Addr) (u : SX) (t : State) (H1 : Heap) (locs1 : List Loc), t.heap = H1 → s.vm.Alike t.vm → px u → BX E u t → H.size ≤ H1.size → (∀ q : Nat, q < H.size → ¬ AX q → H1[q]? = H[q]?) → va_S A0 H0 H1 locs1 → H1[q9]? = some ce → ce.vm = .none → s.vm.findClass E = some ce.cls → vx_W p l e R s m args below meth c H1 locs1 (cells + mc) (slots + ms) Q (F0 m pc ls rest) q9)
    (kk : ∀ (u : S) (t : State) (H1 : Heap) (locs1 : List Loc), t.heap = H1 → s.vm.Alike t.vm → post u → B u t → H.size ≤ H1.size → (∀ q : Nat, q < H.size → ¬ A1 q → H1[q]? = H[q]?) → va_S A0 H0 H1 locs1 → W p l e R s m args below meth c H1 locs1 (cells + mc) (slots + ms) Q (F0 m (pc + 3) ls (rest))) : W p l e R s m args below meth c H locs cells slots Q (F0 m pc ls st0) := by
  intro T hT X
  rcases hr T hT X with ⟨v, st₀, t, T', L, h0, X', hL, e1, e2, ⟨⟨u, hv, hp, hb⟩, hF⟩, st⟩ | ⟨q, st₀, t, T', L, E, ce, h0, X', hL, e1, e2, ⟨u, hp, hb, hF⟩, hce, hcv, hcl, st⟩
  · cases hv
    obtain ⟨k1, k2, k3⟩ := vx_keep h0 e1 hS hA hf hL hF
    obtain ⟨t2, a1, b1⟩ := kk u t T'.heap (locs ++ L) e1.symm (by rw [← e2]; exact X'.warmed.alike) hp hb k1 k2 k3 T' rfl X'
    exact ⟨t2, st t2 a1, b1⟩
  · obtain ⟨k1, k2, k3⟩ := vx_keep h0 e1 hS hAX hf hL hF
    obtain ⟨t2, a1, b1⟩ := kx E ce q u t T'.heap (locs ++ L) e1.symm (by rw [← e2]; exact X'.warmed.alike) hp hb k1 k2 k3 (by rw [e1]; exact hce) hcv hcl T' rfl X'
    exact ⟨t2, st.trans a1, b1⟩
/-- caught by the row x of this method's table; the rows ahead don't take it -/
theorem vx_catch {own name : String} {E : String} {ce : Cell} {q : Addr} (hown : s.vm.findClass own = some m.cls) (pre : List ExceptionTableEntry) (x : ExceptionTableEntry) (suf : List ExceptionTableEntry) (hsplit : c.exceptionTable.toList = pre ++ x :: suf)
    (hpass : ∀ z ∈ pre, covers z pc = false ∨ (z.catchType ≠ 0 ∧ ∃ nm : String, (Cond.classLink own z.catchType nm).before args s = true ∧ va_Nc E nm s)) (hx : covers x pc = true) (h0 : x.catchType ≠ 0)
    (hlink : (Cond.classLink own x.catchType name).before args s = true) (hcast : (Cond.castable E name).before args s = true) (hcell : H[q]? = some ce) (hv : ce.vm = .none) (hcl : s.vm.findClass E = some ce.cls)
    (kk : W p l e R s m args below meth c H locs cells slots Q (F0 m x.handlerPc ls [.ref q])) : vx_W p l e R s m args below meth c H locs cells slots Q (F0 m pc ls rest) q := by
  intro T hT X
  have hpl : e.platform.magicAccessors = ({} : Platform).magicAccessors := by rw [X.admits.platform]
  obtain ⟨c3, c4, hc3, hc4, hasg⟩ := Cond.castable_spec hcast
  cases Option.some.inj (hc3.symm.trans hcl)
  obtain ⟨c5, hc5, hcl5⟩ := Cond.classLink_spec hown hlink e.platform hpl
  cases Option.some.inj (hc4.symm.trans hc5)
  obtain ⟨vm', X', st⟩ := X.thenCaughtThrough q (g := F0 m pc ls rest) rfl (Steps.refl _) (by rw [hT]; exact hcell) (by rw [hv]; rfl) (by obtain ⟨k9, h9, -⟩ := Vm.findClass_spec hcl; exact ⟨k9, h9⟩) pre x suf hsplit
    (fun z hz => by
      rcases hpass z hz with h | ⟨hz0, nm, hl1, hn1⟩
      · exact Or.inl h
      · obtain ⟨c6, hc6, hcl6⟩ := Cond.classLink_spec hown hl1 e.platform hpl
        obtain ⟨a8, b8, h1, h2, h3⟩ := hn1
        cases Option.some.inj (h1.symm.trans hcl)
        cases Option.some.inj (h2.symm.trans hc6)
        exact Or.inr ⟨hz0, _, hcl6, h3⟩) hx (Or.inr ⟨h0, c4, hcl5, hasg⟩)
  obtain ⟨t, a1, b1⟩ := kk (T.setVm vm') hT X'
  exact ⟨t, st.trans a1, b1⟩
end Rows
section Ends
variable {p : Program} {l : Launch} {e : Env} {R : Room} {s : State} {m : MethodId} {args : Array Value} {below : List Frame} {meth : Method} {c : Code} {H : Heap} {locs : List Loc} {cells slots : Nat} {Q : State → Prop}
variable {mc ms : Nat} {free : Addr → Prop} {A0 A1 : Nat → Prop} {H0 : Heap} {a : Array Value} {ls : Array Slot} {st0 rest : List Value}
variable {Qc : Array Value → State → Outcome → State → Prop} {XC : String → State → State → Prop}
/-- what a body that may throw owes at its end -/
def vx_MQ (below : List Frame) (Qc : Array Value → State → Outcome → State → Prop) (XC : String → State → State → Prop) (a : Array Value) (s : State) (mc ms : Nat) (free : Addr → Prop) : State → Prop := fun t =>
  ∃ o, t.status = .running ∧ Ended t below o ∧ vx_Q Qc XC mc ms free a s o t
theorem vx_ret {g : JFrame} {mc ms : Nat} (k : W p l e R s m args below meth c H locs cells slots (MQ below Qc args s mc ms free) g) : W p l e R s m args below meth c H locs cells slots (vx_MQ below Qc XC args s mc ms free) g := by
  intro T hT X
  obtain ⟨t, a1, o, b1, b2, b3, b4⟩ := k T hT X
  exact ⟨t, a1, o, b1, b2, Or.inl ⟨b3, b4⟩⟩
/-- not caught here: it goes on to the caller -/
theorem vx_widen {g : JFrame} {q : Addr} {k n : Nat} (h1 : cells ≤ k) (h2 : slots ≤ n) (kk : vx_W p l e R s m args below meth c H locs k n Q g q) : vx_W p l e R s m args below meth c H locs cells slots Q g q := fun T hT X => kk T hT (stand_widen X h1 h2)
theorem vx_out {pc : Nat} {E : String} {ce : Cell} {q : Addr} {mc ms : Nat} (hout : ∀ x ∈ c.exceptionTable.toList, covers x pc = false) (hlocks : meth.locks = false) (hcell : H[q]? = some ce) (hv : ce.vm = .none) (hcl : s.vm.findClass E = some ce.cls)
    (hx : ∀ t : State, t.heap = H → s.vm.Alike t.vm → XC E s t) (hf : ∀ z ∈ locs, free z.base) (hc : cells ≤ mc) (hs : slots ≤ ms) :
    vx_W p l e R s m args below meth c H locs cells slots (vx_MQ below Qc XC args s mc ms free) (F0 m pc ls rest) q := by
  intro T hT X
  obtain ⟨st1, hrun, hend, hW, hsm⟩ := X.leaveThrown q (g := F0 m pc ls rest) rfl rfl rfl hout hlocks
  have hcell9 : (T.setFrames (.throwing q :: below)).heap[q]? = some ce := by
    show T.heap[q]? = some ce
    rw [hT]; exact hcell
  exact ⟨_, st1, .threw q, hrun, hend, Or.inr ⟨q, rfl, E, ce, locs, hx _ hT hW.alike, hcell9, hv, hcl, hW, hsm.mono hc hs, hf⟩⟩
theorem vx_frame {U : State} {k n : Nat} (h : s.sameButNew ({ U with vm := s.vm } : State) locs k n) : s.heap.size ≤ U.heap.size ∧ ∀ q : Nat, q < s.heap.size → (∀ z ∈ locs, z.base ≠ q) → U.heap[q]? = s.heap[q]? := by
  obtain ⟨-, h2, -, -, -, h6⟩ := h
  refine ⟨h2, fun q hq hz => ?_⟩
  obtain ⟨c9, e1, e2, e3, e4⟩ := h6 q _ (Array.getElem?_eq_getElem hq)
  have hs : c9.slots = (s.heap[q]).slots := Array.ext_getElem? fun i => e4 i fun hm => hz _ hm rfl
  have h9 : c9 = s.heap[q] := by
    rw [hs] at e2
    exact e2
  have e5 : U.heap[q]? = some c9 := e1
  rw [e5, h9, Array.getElem?_eq_getElem hq]
/-- the words of a throw but the four that speak of the heap -/
def vx_no (w : Cond) : Bool := decide (w ≠ .isRef (.static Bundle.tN "UNASSIGNED_STACK" Bundle.steD)) && decide (w ≠ .isRef (.static Bundle.tN "SUPPRESSED_SENTINEL" Bundle.listD)) && decide (w ≠ .laysStatic Bundle.tN "UNASSIGNED_STACK" Bundle.steD) && decide (w ≠ .laysStatic Bundle.tN "SUPPRESSED_SENTINEL" Bundle.listD)
def vx_at0 (own : String) (ic : Nat) (X : String) (names : List String) : List Cond := (Bundle.ownAtoms0 own ic X names).filter vx_no
def vx_atS (own : String) (ic : Nat) (X : String) (names : List String) : List Cond := (Bundle.ownAtoms own ic X names).filter vx_no
/-- a word that the tables alone decide, or a good one -/
def vx_ot (w : Cond) : Bool := w.onTables || goodWord w
theorem vx_ot_at {args a' : Array Value} {s U : State} {w : Cond} (hW : s.WarmedH U.vm) (hvm : s.vm = U.vm) (hg : vx_ot w = true) (h : w.before args s = true) : w.before a' U = true := by
  simp only [vx_ot, Bool.or_eq_true] at hg
  rcases hg with hg | hg
  · exact va_tabs hg hvm h
  · exact word_at hW (good_of_word hg) h
/-- a list's words: the good ones out of the method's own list, the others by premises of their own -/
theorem vx_hat {args : Array Value} {s : State} {L B : List Cond} (h1 : ∀ w ∈ L.filter goodWord, w.before args s = true) (h2 : ∀ w ∈ L.filter (fun w => !goodWord w), w ∈ B) (h3 : ∀ w ∈ B, w.before args s = true) : ∀ w ∈ L, w.before args s = true := by
  intro w hw
  by_cases g : goodWord w = true
  · exact h1 w (List.mem_filter.mpr ⟨hw, g⟩)
  · refine h3 w (h2 w (List.mem_filter.mpr ⟨hw, ?_⟩))
    show (!goodWord w) = true
    cases hgw : goodWord w
    · rfl
    · exact absurd hgw g
theorem vx_c {args : Array Value} {s : State} {w : Cond} {B : List Cond} (h : w.before args s = true) (t : ∀ w ∈ B, w.before args s = true) : ∀ w' ∈ w :: B, w'.before args s = true := fun w' h' => (List.mem_cons.mp h').elim (fun e => by rw [e]; exact h) (t w')
theorem vx_n {args : Array Value} {s : State} : ∀ w ∈ ([] : List Cond), w.before args s = true := fun _ h => nomatch h
theorem vx_own {args : Array Value} {s : State} {L : List Cond} (h1 : ∀ w ∈ L.filter vx_no, w.before args s = true)
    (hU : (Cond.isRef (.static Bundle.tN "UNASSIGNED_STACK" Bundle.steD)).before args s = true) (hN : (Cond.isRef (.static Bundle.tN "SUPPRESSED_SENTINEL" Bundle.listD)).before args s = true)
    (lU : (Cond.laysStatic Bundle.tN "UNASSIGNED_STACK" Bundle.steD).before args s = true) (lN : (Cond.laysStatic Bundle.tN "SUPPRESSED_SENTINEL" Bundle.listD).before args s = true) : ∀ w ∈ L, w.before args s = true := by
  intro w hw
  by_cases e1 : w = .isRef (.static Bundle.tN "UNASSIGNED_STACK" Bundle.steD)
  · rw [e1]; exact hU
  · by_cases e2 : w = .isRef (.static Bundle.tN "SUPPRESSED_SENTINEL" Bundle.listD)
    · rw [e2]; exact hN
    · by_cases e3 : w = .laysStatic Bundle.tN "UNASSIGNED_STACK" Bundle.steD
      · rw [e3]; exact lU
      · by_cases e4 : w = .laysStatic Bundle.tN "SUPPRESSED_SENTINEL" Bundle.listD
        · rw [e4]; exact lN
        · exact h1 w (List.mem_filter.mpr ⟨hw, by unfold vx_no; rw [decide_eq_true e1, decide_eq_true e2, decide_eq_true e3, decide_eq_true e4]; rfl⟩)
/-- where a static field lies, its class's statics cell in H -/
def vx_L (C n d : String) (A : Nat → Prop) (U : State) (H : Heap) : Prop := ∃ (c : ClassId) (k : Class) (i : Nat) (f : Field) (a : Nat) (cell : Cell), U.vm.findClass C = some c ∧ U.fieldFound? C n d = some (c, k, i, f) ∧ f.isStatic = true ∧ k.statics = some a ∧ H[a]? = some cell ∧ cell.vm.isStatics = true ∧ cell.cls = c ∧ f.slot < cell.slots.size ∧ k.staticTypes[f.slot]? = some f.type ∧ ¬ A a
theorem vx_L.moved {C n d : String} {A : Nat → Prop} {u U : State} {H : Heap} (hvm : u.vm.Alike U.vm) (h : vx_L C n d A u H) : vx_L C n d A U H := by
  obtain ⟨c, k, i, f, a, cell, h1, h2, h3, h4, h5, h6, h7, h8, h9, h10⟩ := h
  obtain ⟨k', hi', he⟩ := State.fieldFound?_setVm hvm h2
  exact ⟨c, k', i, f, a, cell, by rw [hvm.findClass]; exact h1, hi', h3, by rw [he]; exact h4, h5, h6, h7, h8, by rw [he]; exact h9, h10⟩
theorem vx_L.kept {C n d : String} {A : Nat → Prop} {U : State} {H H1 : Heap} (h : vx_L C n d A U H) (hq : ∀ a : Nat, a < H.size → ¬ A a → H1[a]? = H[a]?) : vx_L C n d A U H1 := by
  obtain ⟨c, k, i, f, a, cell, h1, h2, h3, h4, h5, h6, h7, h8, h9, h10⟩ := h
  exact ⟨c, k, i, f, a, cell, h1, h2, h3, h4, by rw [hq a (Array.getElem?_eq_some_iff.mp h5).1 h10]; exact h5, h6, h7, h8, h9, h10⟩
theorem vx_L.narrow {C n d : String} {A B : Nat → Prop} {U : State} {H : Heap} (h : vx_L C n d A U H) (hAB : ∀ q, B q → A q) : vx_L C n d B U H := by
  obtain ⟨c, k, i, f, a, cell, h1, h2, h3, h4, h5, h6, h7, h8, h9, h10⟩ := h
  exact ⟨c, k, i, f, a, cell, h1, h2, h3, h4, h5, h6, h7, h8, h9, fun z => h10 (hAB _ z)⟩
theorem vx_L.word {C n d : String} {A : Nat → Prop} {s : State} {args : Array Value} (h : vx_L C n d A s s.heap) : (Cond.laysStatic C n d).before args s = true := by
  obtain ⟨c, k, i, f, a, cell, h1, h2, h3, h4, h5, h6, h7, h8, h9, -⟩ := h
  show (Cond.laysStatic C n d).holds args s none s [] = true
  exact Cond.laysStatic_of h1 h2 h3 h4 h5 h6 h7 h8 h9
/-- .. and what it holds: null or some reference -/
def vx_Zq (C n d : String) (A : Nat → Prop) (U : State) (H : Heap) : Prop := va_Zq C n d A U H ∧ vx_L C n d A U H
theorem vx_Zq.moved {C n d : String} {A : Nat → Prop} {u U : State} {H : Heap} (hvm : u.vm.Alike U.vm) (h : vx_Zq C n d A u H) : vx_Zq C n d A U H := ⟨va_Zq.moved hvm h.1, vx_L.moved hvm h.2⟩
theorem vx_Zq.kept {C n d : String} {A : Nat → Prop} {U : State} {H H1 : Heap} (h : vx_Zq C n d A U H) (hq : ∀ a : Nat, a < H.size → ¬ A a → H1[a]? = H[a]?) : vx_Zq C n d A U H1 := ⟨va_Zq.kept h.1 hq, vx_L.kept h.2 hq⟩
theorem vx_Zq.narrow {C n d : String} {A B : Nat → Prop} {U : State} {H : Heap} (h : vx_Zq C n d A U H) (hAB : ∀ q, B q → A q) : vx_Zq C n d B U H := ⟨va_Zq.narrow h.1 hAB, vx_L.narrow h.2 hAB⟩
theorem vx_Zqof {args : Array Value} {s : State} {C n d : String} {A : Nat → Prop} (hl : (Cond.laysStatic C n d).before args s = true) (hini : (Cond.initialized C).before args s = true) (h : (Cond.isRef (.static C n d)).before args s = true) (hA : ∀ a : Nat, a < s.heap.size → ¬ A a) : vx_Zq C n d A s s.heap := by
  refine ⟨va_Zqof hl hini h hA, ?_⟩
  obtain ⟨c, k, i, f, a, cell, h1, h2, h3, h4, h5, h6, h7, h8, h9⟩ := Cond.laysStatic_spec hl
  exact ⟨c, k, i, f, a, cell, h1, h2, h3, h4, h5, h6, h7, h8, h9, hA a (Array.getElem?_eq_some_iff.mp h5).1⟩
theorem vx_isRef {C n d : String} {v : Value} {A : Nat → Prop} {s : State} {args : Array Value} (h : va_Z C n d v A s s.heap) (hv : v.isRef = true) : (Cond.isRef (.static C n d)).before args s = true := by
  obtain ⟨cf, kf, fi, f, a, cell, h1, h2, h3, h4, h5, h6, h7, -⟩ := h
  have he : (Term.static C n d).eval args s none [] s = some v := by
    simp [Term.eval, State.fieldNamed?, h1, h2, h4, h5, h6, h7]
  simp only [Cond.before, Cond.holds, Cond.value, he]
  cases v <;> simp_all [Value.isRef]
theorem vx_isRefq {C n d : String} {A : Nat → Prop} {s : State} {args : Array Value} (h : va_Zq C n d A s s.heap) : (Cond.isRef (.static C n d)).before args s = true := by
  rcases h with h | ⟨t, h⟩
  · exact vx_isRef h rfl
  · exact vx_isRef h rfl
/-- the same frame, seen from here: as if the method were called anew in this heap -/
theorem vx_rebase {T : State} (X : Stand p l e R s m args below meth c T locs cells slots) {R' : Room} (hf : R'.frames ≤ R.frames) (hl : R'.locals ≤ R.locals) (hc : cells + R'.cells ≤ R.cells) (hs : slots + R'.slots ≤ R.slots) :
    Stand p l e R' ((T.setVm s.vm).setFrames (.invoking m args :: below)) m args below meth c T [] 0 0 := by
  have htop : (T.setVm s.vm).topJava?.isSome := X.here.top
  have hF : ((T.setVm s.vm).setFrames (.invoking m args :: below)).frames = .invoking m args :: below := State.frames_setFrames _ (State.cur_lt_of_top htop)
  obtain ⟨g₀, hg0⟩ := Option.isSome_iff_exists.mp htop
  obtain ⟨r, hr⟩ := State.topJava?_eq_some.mp hg0
  have hl9 : e.platform.stackLimits (T.setVm s.vm).me = e.platform.stackLimits s.me := X.limits
  have hb9 : (T.setVm s.vm).me.stackBytes = s.me.stackBytes := X.bytes
  refine ⟨X.admits, X.cas, X.clock, hF, ?_, X.hears, X.method, X.code, X.here, X.tail, X.warmed, ?_, ?_, ?_⟩
  · have h := X.room
    have hU : ((T.setVm s.vm).setFrames (.invoking m args :: below)).localsInUse = s.localsInUse := by
      rw [State.localsInUse_invoking hF (meth := meth) (c := c) X.method X.code, State.localsInUse_invoking X.frames X.method X.code]
    simp only [State.hasRoom, Bool.and_eq_true, decide_eq_true_eq] at h ⊢
    obtain ⟨⟨⟨⟨h1, h2, h3, h4, h5, h6⟩, h7⟩, h8⟩, h9⟩ := h
    rw [X.frames, List.length_cons] at h2 h3
    have q1 := X.heapSize
    have q2 := X.used
    simp only [hF, hU, List.length_cons, State.stackLimits_setFrames, State.stackBytes_setFrames, hl9, hb9]
    refine ⟨⟨⟨⟨by omega, by omega, by omega, by omega, by omega, h6⟩, ?_⟩, ?_⟩, X.book⟩
    · show T.heap.size + R'.cells ≤ e.platform.maxCells
      omega
    · show T.slotsUsed + R'.slots ≤ e.platform.maxSlots
      omega
  · rw [State.stackLimits_setFrames]; rfl
  · rw [State.stackBytes_setFrames]; rfl
  · refine ⟨?_, Nat.le_refl _, Nat.le_refl _, ?_, ?_, fun a c9 h9 => ⟨c9, h9, rfl, rfl, fun _ _ => rfl⟩⟩
    · obtain ⟨t, ht, -⟩ := State.frames_cons hr
      show T.setVm s.vm = { ((T.setVm s.vm).setFrames (.invoking m args :: below)).setFrames (T.setVm s.vm).frames with heap := T.heap, slotsUsed := T.slotsUsed }
      rw [State.setFrames_setFrames, State.setFrames_self ht]
      rfl
    · show T.slotsUsed = T.slotsUsed + ((T.heap.toList.drop T.heap.size).map (·.slots.size)).sum
      rw [List.drop_eq_nil_of_le (Nat.le_of_eq Array.length_toList)]
      rfl
    · show ((T.heap.toList.drop T.heap.size).map (·.slots.size)).sum ≤ 0
      rw [List.drop_eq_nil_of_le (Nat.le_of_eq Array.length_toList)]
      exact Nat.le_refl _
/-- 'throw new E()': new; dup; invokespecial; athrow -/
theorem vx_throw0 {cc : ByteArray} {pc : Nat} (hexec : p.tables.exec = Jvm.exec) (hb : c.code = cc) (hl : l.stackTraces = false) {own cls : String} {names : List String} {ik ic mc ms : Nat} {A : Nat → Prop}
    (hown : s.vm.findClass own = some m.cls) (hcls : Bundle.fit cls = true) (hnames : ∀ n ∈ names, Bundle.fit n = true)
    (hk : (Cond.classLink own ik cls).before args s = true) (hini : (Cond.initialized cls).before args s = true) (hat : ∀ w ∈ vx_at0 own ic cls names, w.before args s = true)
    (hgood : ∀ w ∈ Cond.classLink own ik cls :: Cond.initialized cls :: vx_at0 own ic cls names, vx_ot w = true)
    (hU : vx_Zq Bundle.tN "UNASSIGNED_STACK" Bundle.steD A s s.heap) (hN : vx_Zq Bundle.tN "SUPPRESSED_SENTINEL" Bundle.listD A s s.heap) (hS : va_S A s.heap H locs) (hsize : ls.size = c.maxLocals)
    (d0 : decode cc pc = .ok (.new ik, 3)) (d3 : decode cc (pc + 3) = .ok (.dup, 1)) (d4 : decode cc (pc + 4) = .ok (.invokespecial ic, 3)) (d7 : decode cc (pc + 7) = .ok (.athrow, 1))
    (hout : ∀ x ∈ c.exceptionTable.toList, covers x (pc + 7) = false)
    (hRframes : names.length + 3 < R.frames) (hRlocals : (rest.map fun v => v.category).sum + (13 * (names.length + 1) + 42) ≤ R.locals) (hRcells : cells + 1 ≤ R.cells) (hRslots : slots + 6 ≤ R.slots) (hlocks : meth.locks = false)
    (hx : ∀ t : State, s.vm.Alike t.vm → H.size ≤ t.heap.size → (∀ q : Nat, q < H.size → t.heap[q]? = H[q]?) → XC cls s t)
    (hf : ∀ z ∈ locs, free z.base) (hc : cells + 1 ≤ mc) (hs : slots + 6 ≤ ms) :
    W p l e R s m args below meth c H locs cells slots (vx_MQ below Qc XC args s mc ms free) (F0 m pc ls rest) := by
  intro T hT X
  have htr : e.platform.stackTraces = false := (show e.platform.stackTraces = l.stackTraces by rw [X.admits.platform]).trans hl
  have Y := vx_rebase X (R' := { frames := R.frames, locals := R.locals, cells := 1, slots := 6 }) (Nat.le_refl _) (Nat.le_refl _) hRcells hRslots
  obtain ⟨s', hA⟩ : ∃ z, z = (T.setVm s.vm).setFrames (.invoking m args :: below) := ⟨_, rfl⟩
  rw [← hA] at Y
  have hvm : s'.vm = s.vm := by rw [hA]; rfl
  have hhp : s'.heap = H := by rw [hA]; exact hT
  have hW0 : s.WarmedH s'.vm := by rw [hvm]; exact State.WarmedH.refl s
  have hat' : ∀ w ∈ vx_at0 own ic cls names, w.before args s' = true := fun w hw => vx_ot_at hW0 hvm.symm (hgood w (List.mem_cons_of_mem _ (List.mem_cons_of_mem _ hw))) (hat w hw)
  have hk' : (Cond.classLink own ik cls).before args s' = true := vx_ot_at hW0 hvm.symm (hgood _ List.mem_cons_self) hk
  have hini' : (Cond.initialized cls).before args s' = true := vx_ot_at hW0 hvm.symm (hgood _ (List.mem_cons_of_mem _ List.mem_cons_self)) hini
  have hU' : vx_Zq Bundle.tN "UNASSIGNED_STACK" Bundle.steD A s' s'.heap := by rw [hhp]; exact vx_Zq.moved hW0.alike (hU.kept hS.2.1)
  have hN' : vx_Zq Bundle.tN "SUPPRESSED_SENTINEL" Bundle.listD A s' s'.heap := by rw [hhp]; exact vx_Zq.moved hW0.alike (hN.kept hS.2.1)
  have h : ∀ w ∈ Bundle.ownAtoms0 own ic cls names, w.before args s' = true := vx_own hat' (vx_isRefq hU'.1) (vx_isRefq hN'.1) hU'.2.word hN'.2.word
  have hown' : s'.vm.findClass own = some m.cls := by rw [hvm]; exact hown
  have hins : (Cond.instantiable cls 6).before args s' = true := h _ (by simp [Bundle.ownAtoms0])
  obtain ⟨vm₁, cX, kX, hfX, hkX, -, -, X₁, st1⟩ := Y.newCold hexec (own := own) (C := cls) (index := ik) (n := 6) hown' hk' hins hini'
    (g := F0 m pc ls rest) rfl (by rw [hb]; exact d0) (Nat.le_refl _) (Nat.le_refl _)
  generalize hT1 : (T.setVm vm₁).pushCell { cls := cX, slots := kX.instanceTypes.map defaultValue, vm := .none } = T1 at X₁ st1
  have hcat : (Value.ref T.heap.size).category = 1 := rfl
  have hcellA : T1.heap[T.heap.size]? = some (freshCell cX kX) := by rw [← hT1]; exact State.heap_pushCell_size _ _
  have d3' : decode c.code (pc + 3) = .ok (.dup, 1) := by rw [hb]; exact d3
  obtain ⟨U, hsteps, hrun, hend, hW, hsame, ce, hce, hO⟩ := X₁.ctorThrow0 hexec htr (own := own) (cls := cls) (names := names) (ic := ic) hown' hcls hnames h (fun x hx => nomatch hx) hfX hkX hcellA (by rw [hhp, hT]; exact Nat.le_refl _)
    (g := { method := m, pc := pc + 4, locals := ls, stack := .ref T.heap.size :: .ref T.heap.size :: rest, locked := none }) rfl hsize rfl rfl (rest := rest) rfl
    (by rw [hb]; exact d4) (by rw [hb]; exact d7) hout hRframes (by simp only [List.map_cons, List.sum_cons, hcat]; omega) hlocks
  obtain ⟨f1, f2⟩ := vx_frame hsame
  rw [hhp] at f1 f2
  have hWs : s.WarmedH U.vm := State.WarmedH.trans hW0 hW
  have hcl : s.vm.findClass cls = some ce.cls := by
    have h9 := hO.cls
    rw [hvm] at h9
    exact h9
  have hall : s.sameButNew ({ U with vm := s.vm } : State) locs mc ms := by
    subst hA
    obtain ⟨e1, e2⟩ := hsame
    rw [State.setFrames_setFrames] at e1
    have h2 : (T.setVm s.vm).sameButNew ({ U with vm := s.vm } : State) [] (0 + 1) (0 + 6) := ⟨e1, e2⟩
    have h3 := X.same.trans h2
    rw [List.append_nil] at h3
    exact h3.mono hc hs
  refine ⟨U, ?_, .threw T.heap.size, hrun, hend, Or.inr ⟨T.heap.size, rfl, cls, ce, locs, hx U hWs.alike f1 (fun q hq => f2 q hq (fun z hz => nomatch hz)), hce, hO.vm, hcl, hWs, hall, hf⟩⟩
  refine st1 _ ?_
  show Steps p.tables e below (T1.setTop { method := m, pc := pc + 3, locals := ls, stack := .ref T.heap.size :: rest, locked := none }) _
  jvm_step X₁.here [X₁.here.top, hexec, d3', Value.category]
  exact hsteps
/-- 'throw new E("text")': new; dup; ldc; invokespecial; athrow -/
theorem vx_throwS {cc : ByteArray} {pc : Nat} (hexec : p.tables.exec = Jvm.exec) (hb : c.code = cc) (hl : l.stackTraces = false) {own cls text : String} {names : List String} {ik is ic mc ms sa : Nat} {A : Nat → Prop}
    (hown : s.vm.findClass own = some m.cls) (hcls : Bundle.fit cls = true) (hnames : ∀ n ∈ names, Bundle.fit n = true)
    (hk : (Cond.classLink own ik cls).before args s = true) (hini : (Cond.initialized cls).before args s = true) (hstr : vk_R own is text sa s) (hat : ∀ w ∈ vx_atS own ic cls names, w.before args s = true)
    (hgood : ∀ w ∈ Cond.classLink own ik cls :: Cond.initialized cls :: vx_atS own ic cls names, vx_ot w = true)
    (hU : vx_Zq Bundle.tN "UNASSIGNED_STACK" Bundle.steD A s s.heap) (hN : vx_Zq Bundle.tN "SUPPRESSED_SENTINEL" Bundle.listD A s s.heap) (hS : va_S A s.heap H locs) (hsize : ls.size = c.maxLocals)
    (d0 : decode cc pc = .ok (.new ik, 3)) (d3 : decode cc (pc + 3) = .ok (.dup, 1)) (d4 : decode cc (pc + 4) = .ok (.ldc is, 2)) (d6 : decode cc (pc + 6) = .ok (.invokespecial ic, 3)) (d9 : decode cc (pc + 9) = .ok (.athrow, 1))
    (hout : ∀ x ∈ c.exceptionTable.toList, covers x (pc + 9) = false)
    (hRframes : names.length + 3 < R.frames) (hRlocals : (rest.map fun v => v.category).sum + (13 * (names.length + 1) + 43) ≤ R.locals) (hRcells : cells + 1 ≤ R.cells) (hRslots : slots + 6 ≤ R.slots) (hlocks : meth.locks = false)
    (hx : ∀ t : State, s.vm.Alike t.vm → H.size ≤ t.heap.size → (∀ q : Nat, q < H.size → t.heap[q]? = H[q]?) → XC cls s t)
    (hf : ∀ z ∈ locs, free z.base) (hc : cells + 1 ≤ mc) (hs : slots + 6 ≤ ms) :
    W p l e R s m args below meth c H locs cells slots (vx_MQ below Qc XC args s mc ms free) (F0 m pc ls rest) := by
  intro T hT X
  have htr : e.platform.stackTraces = false := (show e.platform.stackTraces = l.stackTraces by rw [X.admits.platform]).trans hl
  have Y := vx_rebase X (R' := { frames := R.frames, locals := R.locals, cells := 1, slots := 6 }) (Nat.le_refl _) (Nat.le_refl _) hRcells hRslots
  obtain ⟨s', hA⟩ : ∃ z, z = (T.setVm s.vm).setFrames (.invoking m args :: below) := ⟨_, rfl⟩
  rw [← hA] at Y
  have hvm : s'.vm = s.vm := by rw [hA]; rfl
  have hhp : s'.heap = H := by rw [hA]; exact hT
  have hW0 : s.WarmedH s'.vm := by rw [hvm]; exact State.WarmedH.refl s
  have hat' : ∀ w ∈ vx_atS own ic cls names, w.before args s' = true := fun w hw => vx_ot_at hW0 hvm.symm (hgood w (List.mem_cons_of_mem _ (List.mem_cons_of_mem _ hw))) (hat w hw)
  have hk' : (Cond.classLink own ik cls).before args s' = true := vx_ot_at hW0 hvm.symm (hgood _ List.mem_cons_self) hk
  have hini' : (Cond.initialized cls).before args s' = true := vx_ot_at hW0 hvm.symm (hgood _ (List.mem_cons_of_mem _ List.mem_cons_self)) hini
  have hU' : vx_Zq Bundle.tN "UNASSIGNED_STACK" Bundle.steD A s' s'.heap := by rw [hhp]; exact vx_Zq.moved hW0.alike (hU.kept hS.2.1)
  have hN' : vx_Zq Bundle.tN "SUPPRESSED_SENTINEL" Bundle.listD A s' s'.heap := by rw [hhp]; exact vx_Zq.moved hW0.alike (hN.kept hS.2.1)
  have h : ∀ w ∈ Bundle.ownAtoms own ic cls names, w.before args s' = true := vx_own hat' (vx_isRefq hU'.1) (vx_isRefq hN'.1) hU'.2.word hN'.2.word
  have hown' : s'.vm.findClass own = some m.cls := by rw [hvm]; exact hown
  have hins : (Cond.instantiable cls 6).before args s' = true := h _ (by simp [Bundle.ownAtoms])
  obtain ⟨vm₁, cX, kX, hfX, hkX, -, -, X₁, st1⟩ := Y.newCold hexec (own := own) (C := cls) (index := ik) (n := 6) hown' hk' hins hini'
    (g := F0 m pc ls rest) rfl (by rw [hb]; exact d0) (Nat.le_refl _) (Nat.le_refl _)
  generalize hT1 : (T.setVm vm₁).pushCell { cls := cX, slots := kX.instanceTypes.map defaultValue, vm := .none } = T1 at X₁ st1
  have hcat : (Value.ref T.heap.size).category = 1 := rfl
  have hcellA : T1.heap[T.heap.size]? = some (freshCell cX kX) := by rw [← hT1]; exact State.heap_pushCell_size _ _
  have d3' : decode c.code (pc + 3) = .ok (.dup, 1) := by rw [hb]; exact d3
  have d4' : decode c.code (pc + 4) = .ok (.ldc is, 2) := by rw [hb]; exact d4
  have hstr' : vk_R own is text sa s' := vk_R.warm hW0 hstr
  obtain ⟨U, hsteps, hrun, hend, hW, hsame, ce, hce, hO⟩ := X₁.ctorThrowS hexec htr (own := own) (cls := cls) (names := names) (ic := ic) hown' hcls hnames h (fun x hx => nomatch hx) hfX hkX hcellA (by rw [hhp, hT]; exact Nat.le_refl _) (msg := .ref sa) rfl
    (g := { method := m, pc := pc + 6, locals := ls, stack := .ref sa :: .ref T.heap.size :: .ref T.heap.size :: rest, locked := none }) rfl hsize rfl rfl (rest := rest) rfl
    (by rw [hb]; exact d6) (by rw [hb]; exact d9) hout hRframes (by simp only [List.map_cons, List.sum_cons, hcat]; omega) hlocks
  obtain ⟨f1, f2⟩ := vx_frame hsame
  rw [hhp] at f1 f2
  have hWs : s.WarmedH U.vm := State.WarmedH.trans hW0 hW
  have hcl : s.vm.findClass cls = some ce.cls := by
    have h9 := hO.cls
    rw [hvm] at h9
    exact h9
  have hall : s.sameButNew ({ U with vm := s.vm } : State) locs mc ms := by
    subst hA
    obtain ⟨e1, e2⟩ := hsame
    rw [State.setFrames_setFrames] at e1
    have h2 : (T.setVm s.vm).sameButNew ({ U with vm := s.vm } : State) [] (0 + 1) (0 + 6) := ⟨e1, e2⟩
    have h3 := X.same.trans h2
    rw [List.append_nil] at h3
    exact h3.mono hc hs
  refine ⟨U, ?_, .threw T.heap.size, hrun, hend, Or.inr ⟨T.heap.size, rfl, cls, ce, locs, hx U hWs.alike f1 (fun q hq => f2 q hq (fun z hz => nomatch hz)), hce, hO.vm, hcl, hWs, hall, hf⟩⟩
  refine st1 _ ?_
  show Steps p.tables e below (T1.setTop { method := m, pc := pc + 3, locals := ls, stack := .ref T.heap.size :: rest, locked := none }) _
  jvm_step X₁.here [X₁.here.top, hexec, d3', Value.category]
  exact X₁.ldcString hexec (own := own) (text := text) (index := is) (a := sa) hown' hstr'.1 hstr'.2
    (g := { method := m, pc := pc + 4, locals := ls, stack := .ref T.heap.size :: .ref T.heap.size :: rest, locked := none }) rfl d4' _ hsteps
/-- 'throw new E("text")', the text by a wide index -/
theorem vx_throwSW {cc : ByteArray} {pc : Nat} (hexec : p.tables.exec = Jvm.exec) (hb : c.code = cc) (hl : l.stackTraces = false) {own cls text : String} {names : List String} {ik is ic mc ms sa : Nat} {A : Nat → Prop}
    (hown : s.vm.findClass own = some m.cls) (hcls : Bundle.fit cls = true) (hnames : ∀ n ∈ names, Bundle.fit n = true)
    (hk : (Cond.classLink own ik cls).before args s = true) (hini : (Cond.initialized cls).before args s = true) (hstr : vk_R own is text sa s) (hat : ∀ w ∈ vx_atS own ic cls names, w.before args s = true)
    (hgood : ∀ w ∈ Cond.classLink own ik cls :: Cond.initialized cls :: vx_atS own ic cls names, vx_ot w = true)
    (hU : vx_Zq Bundle.tN "UNASSIGNED_STACK" Bundle.steD A s s.heap) (hN : vx_Zq Bundle.tN "SUPPRESSED_SENTINEL" Bundle.listD A s s.heap) (hS : va_S A s.heap H locs) (hsize : ls.size = c.maxLocals)
    (d0 : decode cc pc = .ok (.new ik, 3)) (d3 : decode cc (pc + 3) = .ok (.dup, 1)) (d4 : decode cc (pc + 4) = .ok (.ldc_w is, 3)) (d7 : decode cc (pc + 7) = .ok (.invokespecial ic, 3)) (d10 : decode cc (pc + 10) = .ok (.athrow, 1))
    (hout : ∀ x ∈ c.exceptionTable.toList, covers x (pc + 10) = false)
    (hRframes : names.length + 3 < R.frames) (hRlocals : (rest.map fun v => v.category).sum + (13 * (names.length + 1) + 43) ≤ R.locals) (hRcells : cells + 1 ≤ R.cells) (hRslots : slots + 6 ≤ R.slots) (hlocks : meth.locks = false)
    (hx : ∀ t : State, s.vm.Alike t.vm → H.size ≤ t.heap.size → (∀ q : Nat, q < H.size → t.heap[q]? = H[q]?) → XC cls s t)
    (hf : ∀ z ∈ locs, free z.base) (hc : cells + 1 ≤ mc) (hs : slots + 6 ≤ ms) :
    W p l e R s m args below meth c H locs cells slots (vx_MQ below Qc XC args s mc ms free) (F0 m pc ls rest) := by
  intro T hT X
  have htr : e.platform.stackTraces = false := (show e.platform.stackTraces = l.stackTraces by rw [X.admits.platform]).trans hl
  have Y := vx_rebase X (R' := { frames := R.frames, locals := R.locals, cells := 1, slots := 6 }) (Nat.le_refl _) (Nat.le_refl _) hRcells hRslots
  obtain ⟨s', hA⟩ : ∃ z, z = (T.setVm s.vm).setFrames (.invoking m args :: below) := ⟨_, rfl⟩
  rw [← hA] at Y
  have hvm : s'.vm = s.vm := by rw [hA]; rfl
  have hhp : s'.heap = H := by rw [hA]; exact hT
  have hW0 : s.WarmedH s'.vm := by rw [hvm]; exact State.WarmedH.refl s
  have hat' : ∀ w ∈ vx_atS own ic cls names, w.before args s' = true := fun w hw => vx_ot_at hW0 hvm.symm (hgood w (List.mem_cons_of_mem _ (List.mem_cons_of_mem _ hw))) (hat w hw)
  have hk' : (Cond.classLink own ik cls).before args s' = true := vx_ot_at hW0 hvm.symm (hgood _ List.mem_cons_self) hk
  have hini' : (Cond.initialized cls).before args s' = true := vx_ot_at hW0 hvm.symm (hgood _ (List.mem_cons_of_mem _ List.mem_cons_self)) hini
  have hU' : vx_Zq Bundle.tN "UNASSIGNED_STACK" Bundle.steD A s' s'.heap := by rw [hhp]; exact vx_Zq.moved hW0.alike (hU.kept hS.2.1)
  have hN' : vx_Zq Bundle.tN "SUPPRESSED_SENTINEL" Bundle.listD A s' s'.heap := by rw [hhp]; exact vx_Zq.moved hW0.alike (hN.kept hS.2.1)
  have h : ∀ w ∈ Bundle.ownAtoms own ic cls names, w.before args s' = true := vx_own hat' (vx_isRefq hU'.1) (vx_isRefq hN'.1) hU'.2.word hN'.2.word
  have hown' : s'.vm.findClass own = some m.cls := by rw [hvm]; exact hown
  have hins : (Cond.instantiable cls 6).before args s' = true := h _ (by simp [Bundle.ownAtoms])
  obtain ⟨vm₁, cX, kX, hfX, hkX, -, -, X₁, st1⟩ := Y.newCold hexec (own := own) (C := cls) (index := ik) (n := 6) hown' hk' hins hini'
    (g := F0 m pc ls rest) rfl (by rw [hb]; exact d0) (Nat.le_refl _) (Nat.le_refl _)
  generalize hT1 : (T.setVm vm₁).pushCell { cls := cX, slots := kX.instanceTypes.map defaultValue, vm := .none } = T1 at X₁ st1
  have hcat : (Value.ref T.heap.size).category = 1 := rfl
  have hcellA : T1.heap[T.heap.size]? = some (freshCell cX kX) := by rw [← hT1]; exact State.heap_pushCell_size _ _
  have d3' : decode c.code (pc + 3) = .ok (.dup, 1) := by rw [hb]; exact d3
  have d4' : decode c.code (pc + 4) = .ok (.ldc_w is, 3) := by rw [hb]; exact d4
  have hstr' : vk_R own is text sa s' := vk_R.warm hW0 hstr
  obtain ⟨U, hsteps, hrun, hend, hW, hsame, ce, hce, hO⟩ := X₁.ctorThrowS hexec htr (own := own) (cls := cls) (names := names) (ic := ic) hown' hcls hnames h (fun x hx => nomatch hx) hfX hkX hcellA (by rw [hhp, hT]; exact Nat.le_refl _) (msg := .ref sa) rfl
    (g := { method := m, pc := pc + 7, locals := ls, stack := .ref sa :: .ref T.heap.size :: .ref T.heap.size :: rest, locked := none }) rfl hsize rfl rfl (rest := rest) rfl
    (by rw [hb]; exact d7) (by rw [hb]; exact d10) hout hRframes (by simp only [List.map_cons, List.sum_cons, hcat]; omega) hlocks
  obtain ⟨f1, f2⟩ := vx_frame hsame
  rw [hhp] at f1 f2
  have hWs : s.WarmedH U.vm := State.WarmedH.trans hW0 hW
  have hcl : s.vm.findClass cls = some ce.cls := by
    have h9 := hO.cls
    rw [hvm] at h9
    exact h9
  have hall : s.sameButNew ({ U with vm := s.vm } : State) locs mc ms := by
    subst hA
    obtain ⟨e1, e2⟩ := hsame
    rw [State.setFrames_setFrames] at e1
    have h2 : (T.setVm s.vm).sameButNew ({ U with vm := s.vm } : State) [] (0 + 1) (0 + 6) := ⟨e1, e2⟩
    have h3 := X.same.trans h2
    rw [List.append_nil] at h3
    exact h3.mono hc hs
  refine ⟨U, ?_, .threw T.heap.size, hrun, hend, Or.inr ⟨T.heap.size, rfl, cls, ce, locs, hx U hWs.alike f1 (fun q hq => f2 q hq (fun z hz => nomatch hz)), hce, hO.vm, hcl, hWs, hall, hf⟩⟩
  refine st1 _ ?_
  show Steps p.tables e below (T1.setTop { method := m, pc := pc + 3, locals := ls, stack := .ref T.heap.size :: rest, locked := none }) _
  jvm_step X₁.here [X₁.here.top, hexec, d3', Value.category]
  exact X₁.ldcStringW hexec (own := own) (text := text) (index := is) (a := sa) hown' hstr'.1 hstr'.2
    (g := { method := m, pc := pc + 4, locals := ls, stack := .ref T.heap.size :: .ref T.heap.size :: rest, locked := none }) rfl d4' _ hsteps
end Ends
section Bodies
variable {l : Launch}
theorem vx_ofW {y : MethodName} {ws ws' : List Cond} {rm : Room} {Pc : Array Value → State → Prop} {Qc : Array Value → State → Outcome → State → Prop} {XC : String → State → State → Prop} {mc ms : Nat} {free : Addr → Prop} {cc : ByteArray} {maxL : Nat} {ret : Option FieldType}
    (hy : plainName y.cls = true) (hw : ws = Cond.code y cc maxL ret :: ws')
    (body : ∀ p e s m args below meth c s₁, BodyLoose p l y (headSpec ws rm) cc maxL ret e s m args below meth c s₁ → c.maxLocals = maxL → (∀ x ∈ c.exceptionTable.toList, False) → Pc args s →
      W p l e (headSpec ws rm).room s m args below meth c s.heap [] 0 0 (vx_MQ below Qc XC args s mc ms free) (entryFrame m args maxL)) : vx_Met l y ws rm Pc Qc XC mc ms free := by
  refine MetFree.of_bodyS (code := cc) (maxLocals := maxL) (ret := ret) hy ?_ ?_
  · intro args s m h hn
    obtain ⟨meth, c, h1, h2, h3, h4, h5, h6, -, -⟩ := Cond.code_spec hn (atoms_spec (ws := ws) h _ (by rw [hw]; exact List.mem_cons_self))
    exact ⟨meth, c, h1, h2, h3, h4, h5, h6⟩
  · intro p e s m args below meth c s₁ B hml hP _
    have hh0 : s₁.heap = s.heap := by rw [B.state]; rfl
    have ht : ∀ x ∈ c.exceptionTable.toList, False := by
      obtain ⟨meth9, c9, h1, h2, -, -, -, -, h7, -⟩ := Cond.code_spec B.named (atoms_spec (ws := ws) B.pre _ (by rw [hw]; exact List.mem_cons_self))
      cases Option.some.inj (h1.symm.trans B.method)
      cases Option.some.inj (h2.symm.trans (Stand.of_body B).code)
      intro x hx
      rw [Array.isEmpty_iff.mp h7] at hx
      cases hx
    obtain ⟨t, a1, o, b1, b2, b3⟩ := body p e s m args below meth c s₁ B hml ht hP s₁ hh0 (Stand.of_body B)
    exact ⟨t, o, a1, b1, b2, b3⟩
/-- the table of a body with handlers -/
theorem vx_table {p : Program} {x y : MethodName} {S : Spec} {cc bytes : ByteArray} {maxL maxL' : Nat} {ret ret' : Option FieldType} {e : Env} {s s₁ : State} {m : MethodId} {args : Array Value} {below : List Frame} {meth : Method} {c : Code} {hh : List (Nat × Nat × Nat × Nat)}
    (B : BodyLoose p l y S cc maxL ret e s m args below meth c s₁) (h : (Cond.codeWith y bytes maxL' ret' hh).before args s = true) : c.exceptionTable.toList = tableOf hh := by
  obtain ⟨m9, meth9, c9, hn9, h1, h2, -, -, h6, -⟩ := Cond.codeWith_spec h
  cases Option.some.inj (hn9.symm.trans B.named)
  cases Option.some.inj (h1.symm.trans B.method)
  cases Option.some.inj (h2.symm.trans (Stand.of_body B).code)
  rw [← h6, table_eq]
end Bodies
end VXA
/-! ===== END ===== -/
/-! ===== BEGIN a static call of a method with an exception table ===== -/
section VXS
variable {p : Program} {l : Launch} {e : Env} {R : Room} {s : State} {m : MethodId} {args : Array Value} {below : List Frame} {meth : Method} {c : Code} {T : State} {H : Heap} {locs : List Loc} {cells slots : Nat}
abbrev vx_CSW (R : Room) (s : State) (args : Array Value) (own : String) (index : Nat) (y : MethodName) (bytes : ByteArray) (maxL : Nat) (ret : Option FieldType) (hh : List (Nat × Nat × Nat × Nat)) (ws : List Cond) (rm : Room) (mc ms n : Nat) : Prop :=
  (rm.cells = mc ∧ rm.slots = ms ∧ rm.frames + 1 ≤ R.frames ∧ 8 + (maxL + 11) + rm.locals ≤ R.locals ∧ (∀ w ∈ ws, ∀ (a' : Array Value) (U : State), s.WarmedH U.vm → w.before a' U = true) ∧ Cond.codeWith y bytes maxL ret hh ∈ ws) ∧
  (Cond.codeWith y bytes maxL ret hh).before args s = true ∧ (Cond.initialized y.cls).before args s = true ∧ (y.cls ≠ "java/lang/invoke/MethodHandle" ∧ y.cls ≠ "java/lang/invoke/VarHandle") ∧
  (∀ sig, parseMethodDescriptor y.desc = some sig → n = sig.parameters.length) ∧ (Cond.methodLink own index y).before args s = true ∧ (Cond.static y).before args s = true
theorem vx_cwSW {own : String} {index maxL mc ms : Nat} {y : MethodName} {bytes : ByteArray} {ret : Option FieldType} {hh : List (Nat × Nat × Nat × Nat)} {Ts ws ws' : List Cond} {rm : Room} (n : Nat) (ht : ∀ w ∈ Ts, w.before args s = true) (hT : GoodIn Ts (va_wsS own index y ws)) (hw : ws = Cond.codeWith y bytes maxL ret hh :: ws') (hrc : rm.cells = mc) (hrs : rm.slots = ms)
    (hd : y.cls ≠ "java/lang/invoke/MethodHandle" ∧ y.cls ≠ "java/lang/invoke/VarHandle" ∧ (parseMethodDescriptor y.desc).map (fun d => d.parameters.length) = some n) (hR : rm.frames + 1 ≤ R.frames ∧ 8 + (maxL + 11) + rm.locals ≤ R.locals) :
    vx_CSW R s args own index y bytes maxL ret hh ws rm mc ms n := by
  have ok : ∀ w ∈ va_wsS own index y ws, w.before args s = true := fun w h => ht w (hT w h).1
  have hG : GoodIn Ts ws := fun w h => hT w (by unfold va_wsS; exact List.mem_append_right _ h)
  have hc : Cond.codeWith y bytes maxL ret hh ∈ ws := by rw [hw]; exact List.mem_cons_self
  refine ⟨⟨hrc, hrs, hR.1, hR.2, pay_in ht hG, hc⟩, ht _ (hG _ hc).1, ok _ (by simp [va_wsS]), ⟨hd.1, hd.2.1⟩, fun sig h => ?_, ok _ (by simp [va_wsS]), ok _ (by simp [va_wsS])⟩
  have h2 := hd.2.2
  rw [h] at h2
  exact (Option.some.inj h2).symm
theorem vx_callSW (X : Stand p l e R s m args below meth c T locs cells slots) (hexec : p.tables.exec = Jvm.exec) {own : String} {index : Nat} {y : MethodName} {bytes : ByteArray} {maxL : Nat} {ret : Option FieldType} {hh : List (Nat × Nat × Nat × Nat)}
    (hown : s.vm.findClass own = some m.cls) (hlink : (Cond.methodLink own index y).before args s = true) (hstat : (Cond.static y).before args s = true) (hinit : (Cond.initialized y.cls).before args s = true)
    (hcode : (Cond.codeWith y bytes maxL ret hh).before args s = true) (hy : y.cls ≠ "java/lang/invoke/MethodHandle" ∧ y.cls ≠ "java/lang/invoke/VarHandle")
    {W9 : Nat} {Pre : Pt → Array Value → Prop} {Post : Pt → Array Value → Option Value → Pt → Prop} (hK : Back l R p e below s args y 3 W9 Pre Post)
    {g : JFrame} (hg : g.method = m) (hsize : g.locals.size = c.maxLocals) {argsL rest : List Value} (hlen : ∀ sig, parseMethodDescriptor y.desc = some sig → argsL.length = sig.parameters.length)
    (hstack : g.stack = argsL.reverse ++ rest) (hW : 2 * g.monitorRoom + (rest.map fun v => v.category).sum ≤ W9) (hdg : decode c.code g.pc = .ok (.invokestatic index, 3))
    (hpre : ∀ vm₁, s.WarmedH vm₁ → Pre ⟨T.setVm vm₁, locs, cells, slots⟩ argsL.toArray) :
    ∃ (v : Option Value) (vm₁ : Vm) (B : Pt), s.WarmedH vm₁ ∧ Stand p l e R s m args below meth c B.U B.locs B.cells B.slots ∧ Post ⟨T.setVm vm₁, locs, cells, slots⟩ argsL.toArray v B ∧
      ∀ target, Steps p.tables e below (B.U.setTop { g with pc := g.pc + 3, stack := v.toList ++ rest }) target → Steps p.tables e below (T.setTop g) target := by
  obtain ⟨mk, methM, cM, hnamed, hmethM, -, -, -, -, -, -, hsigM⟩ := Cond.codeWith_spec hcode
  have hstatic : methM.isStatic = true := Cond.static_spec hnamed hmethM hstat
  obtain ⟨kP, hkP, -⟩ := className_of_methodNamed hnamed
  have hinitP : kP.init = .initialized := Cond.initialized_spec (findClass_of_methodNamed hnamed) hkP hinit
  obtain ⟨vm₁, X₁, hstep₁⟩ := X.invokestatic hexec hown hlink hnamed hmethM hstatic hkP hinitP hy (g := g) hg (argsL := argsL) (rest := rest) (hlen _ hsigM) hstack hdg
  obtain ⟨v, B, X', hpost, hsteps⟩ := hK m meth c ⟨T.setVm vm₁, locs, cells, slots⟩ { g with stack := rest } (.invokestatic index) mk argsL.toArray X₁ hg hsize hdg hW (X₁.named hnamed) (hpre vm₁ X₁.warmed)
  exact ⟨v, vm₁, B, X₁.warmed, X', hpost, fun target h => hstep₁ _ fun acts => by rw [doInvoke_state]; exact hsteps.trans h⟩
theorem vx_runSW {y : MethodName} {bytes cc : ByteArray} {maxL nL mc ms n index : Nat} {ret : Option FieldType} {hh : List (Nat × Nat × Nat × Nat)} {ws : List Cond} {rm : Room} {Pc : Array Value → State → Prop} {Qc : Array Value → State → Outcome → State → Prop} {free : Addr → Prop} {Ts : List Cond} {own : String} {As rest : List Value} {g : JFrame}
    (S : CallFix p m c cc nL s args Ts own) (hM : Met l y ws rm Pc Qc mc ms free) (cw : vx_CSW R s args own index y bytes maxL ret hh ws rm mc ms n) (hp : PreS s H Pc As)
    (hg : g.method = m) (hn : As.length = n) (hsize : g.locals.size = nL) (hstack : g.stack = As.reverse ++ rest) (hW : 2 * g.monitorRoom + (rest.map fun v => v.category).sum ≤ 8) (hdg : decode cc g.pc = .ok (.invokestatic index, 3)) (hf : cells + mc ≤ R.cells ∧ slots + ms ≤ R.slots) :
    va_Run p l e R s m args below meth c H locs cells slots mc ms g rest (Qc As.toArray) (free) := by
  obtain ⟨⟨hrc, hrs, hfr, hlo, hws, hcw⟩, hcode, hini, hy, hlen, hl, hstt⟩ := cw
  have hK : Back l R p e below s args y 3 8 (PreOf R mc ms Pc) (PostOf Qc mc ms free) := va_backW (hh := hh) (bytes := bytes) (maxL := maxL) (ret := ret) hM hp.1 hrc hrs hfr hlo hws hcw (fun a' U hW => word_at hW (Or.inl (by first | rfl | simp [Cond.onTables, Cond.keeps, Cond.steady])) hini)
  obtain ⟨hx, hb, hml, ho, -⟩ := S
  intro T hT X
  obtain ⟨v, vm₁, ⟨U', l2, c2, s2⟩, hW₁, X', ⟨g', mk, t, L, e1, e2, hq, h1, hL, h2, h3⟩, st⟩ := vx_callSW X hx (hh := hh) (bytes := bytes) (maxL := maxL) (ret := ret) ho hl hstt hini hcode hy hK hg (hsize.trans hml.symm) (argsL := As) (rest := rest) (fun sig h => hn.trans (hlen sig h)) hstack hW (by rw [hb]; exact hdg)
    (fun vm₁ hW₁ => ⟨hf.1, hf.2, hp.2 (T.setVm vm₁) hT hW₁⟩)
  dsimp only [Pt.U, Pt.locs, Pt.cells, Pt.slots] at X' e1 e2 h1 h2 h3 st
  subst h1; subst h2; subst h3
  exact ⟨v, (T.setVm vm₁).calling g' mk As.toArray, t, U', L, hT, X', hL, e1, e2, hq, st⟩
/-- not caught here, past rows that name other classes: it goes on to the caller -/
theorem vx_outP {p : Program} {l : Launch} {e : Env} {R : Room} {s : State} {m : MethodId} {args : Array Value} {below : List Frame} {meth : Method} {c : Code} {H : Heap} {locs : List Loc} {cells slots : Nat} {free : Addr → Prop} {ls : Array Slot} {rest : List Value} {Qc : Array Value → State → Outcome → State → Prop} {XC : String → State → State → Prop}
    {pc : Nat} {own E : String} {ce : Cell} {q : Addr} {mc ms : Nat} (hown : s.vm.findClass own = some m.cls) (hlocks : meth.locks = false)
    (hpass : ∀ z ∈ c.exceptionTable.toList, covers z pc = false ∨ (z.catchType ≠ 0 ∧ ∃ nm : String, (Cond.classLink own z.catchType nm).before args s = true ∧ va_Nc E nm s)) (hcell : H[q]? = some ce) (hv : ce.vm = .none) (hcl : s.vm.findClass E = some ce.cls)
    (hx : ∀ t : State, t.heap = H → s.vm.Alike t.vm → XC E s t) (hf : ∀ z ∈ locs, free z.base) (hc : cells ≤ mc) (hs : slots ≤ ms) :
    vx_W p l e R s m args below meth c H locs cells slots (vx_MQ below Qc XC args s mc ms free) (F0 m pc ls rest) q := by
  intro T hT X
  have hpl : e.platform.magicAccessors = ({} : Platform).magicAccessors := by rw [X.admits.platform]
  obtain ⟨vm', hW', X', st⟩ := X.outThrough hlocks q (g := F0 m pc ls rest) rfl rfl rfl (cell := ce) (by rw [hT]; exact hcell) (by rw [hv]; rfl)
    (by obtain ⟨k9, h9, -⟩ := Vm.findClass_spec hcl; exact ⟨k9, h9⟩) (fun z hz => by
      rcases hpass z hz with h | ⟨hz0, nm, hl1, hn1⟩
      · exact Or.inl h
      · obtain ⟨c6, hc6, hcl6⟩ := Cond.classLink_spec hown hl1 e.platform hpl
        obtain ⟨a8, b8, h1, h2, h3⟩ := hn1
        cases Option.some.inj (h1.symm.trans hcl)
        cases Option.some.inj (h2.symm.trans hc6)
        exact Or.inr ⟨hz0, _, hcl6, h3⟩)
  obtain ⟨g₀, hfr⟩ := X'.frames_eq
  have hcell9 : ((T.setVm vm').setFrames (.throwing q :: below)).heap[q]? = some ce := by
    show T.heap[q]? = some ce
    rw [hT]; exact hcell
  have hend : Ended ((T.setVm vm').setFrames (.throwing q :: below)) below (.threw q) := State.frames_setFrames _ (State.cur_lt_of_frames hfr)
  refine ⟨(T.setVm vm').setFrames (.throwing q :: below), ?_, .threw q, X'.here.running, hend, Or.inr ⟨q, rfl, E, ce, locs, hx _ hT (X'.ends _).1.alike, hcell9, hv, hcl, (X'.ends _).1, (X'.ends _).2.mono hc hs, hf⟩⟩
  rw [X.pushThrowing_eq]
  exact st
/-- a thing of a world lies in the heap -/
theorem vx_lt {D : va_G} {cl : List vw_C} {ws : va_W} {H1 : Heap} (h : va_P D cl ws H1) {k : Nat} {q : Nat × va_E} (hk : ws[k]? = some q) : q.1 < H1.size := (h k q hk).lt
end VXS
/-! ===== END ===== -/
/-! ===== BEGIN methods with a table of their own: called by a name, returning or throwing ===== -/
section VXH
/-! vx_backW, vx_callVX, vx_callSX, vx_callVW, vx_runVW, vx_runVX, vx_runSX, vx_ofWH follow the same proofs as their sisters above (Free/Laws.lean, Shelf42/LK1.lean); vx_outP calls Shelf42/NT130.lean (outThrough). -/
section
variable {l : Launch} {R : Room} {p : Program} {e : Env} {below : List Frame} {s : State} {sargs : Array Value} {y : MethodName} {len W9 : Nat}
theorem vx_backW {ws : List Cond} {rm : Room} {Pc : Array Value → State → Prop} {Qc : Array Value → State → Outcome → State → Prop} {XC : String → State → State → Prop} {mc ms : Nat} {free : Addr → Prop} {bytes : ByteArray} {maxL : Nat} {ret : Option FieldType} {hh : List (Nat × Nat × Nat × Nat)}
    (hM : vx_Met l y ws rm Pc Qc XC mc ms free) (hblind : FrameBlind Pc) (hrc : rm.cells = mc) (hrs : rm.slots = ms)
    (hframes : rm.frames + 1 ≤ R.frames) (hlocals : W9 + (maxL + 11) + rm.locals ≤ R.locals)
    (hws : ∀ w ∈ ws, ∀ a' U, s.WarmedH U.vm → w.before a' U = true) (hcode : Cond.codeWith y bytes maxL ret hh ∈ ws) (hinit : ∀ a' U, s.WarmedH U.vm → (Cond.initialized y.cls).before a' U = true) :
    vx_Back l R p e below s sargs y len W9 (PreOf R mc ms Pc) (PostOf Qc mc ms free) (vx_Post XC mc ms free) := by
  intro m meth c A g ig mk a X hg hsize hdg hW hn hp
  have h1 : (headSpec ws rm).pre.before a A.U = true := atoms_intro fun w hw => hws w hw _ _ X.warmed
  have h2 : (Cond.codeWith y bytes maxL ret hh).before a A.U = true := hws _ hcode _ _ X.warmed
  have h3 : (Cond.initialized y.cls).before a A.U = true := hinit _ _ X.warmed
  have h4 : A.cells + (headSpec ws rm).room.cells ≤ R.cells := by rw [show (headSpec ws rm).room.cells = mc from hrc]; exact hp.1
  have h5 : A.slots + (headSpec ws rm).room.slots ≤ R.slots := by rw [show (headSpec ws rm).room.slots = ms from hrs]; exact hp.2.1
  have hPc : Pc a (A.U.calling g mk a) := hblind _ _ _ _ hp.2.2
  obtain ⟨U, Ls, c0, s0⟩ := A
  dsimp only [Pt.U, Pt.locs, Pt.cells, Pt.slots] at h1 h2 h3 h4 h5 X hn hPc ⊢
  obtain ⟨m9, methY, cY, hn9, hmY, hcY, -, hlY, -⟩ := Cond.codeWith_spec h2
  cases Option.some.inj (hn9.symm.trans hn)
  obtain ⟨kY, hkY, -⟩ := className_of_methodNamed hn
  have hinitY : kY.init = .initialized := Cond.initialized_spec (findClass_of_methodNamed hn) hkY h3
  have h : At U g.method c below := by rw [hg]; exact X.here
  have hlocals9 : W9 + (maxL + 11) + (headSpec ws rm).room.locals ≤ R.locals := hlocals
  have happ : (headSpec ws rm).appliesLoose y e.platform (U.calling g mk a) = true :=
    Spec.appliesLoose_calling (g := g) h hdg hn hkY hinitY
      (X.room_calling (g := g) (R' := (headSpec ws rm).room) hsize hmY hcY hframes (by rw [hlY]; omega) h4 h5) h1
  obtain ⟨mid, hmid⟩ := h.above
  have hfr : (U.setTop g).frames = (.java g :: mid) ++ below := by rw [State.frames_setTop' g h.top, hmid]; rfl
  obtain ⟨o, s₂, hsteps, -, hend, hq⟩ := Steps.callFree hM p X.admits X.cas X.clock (acts := []) hfr happ hPc trivial
  have hq' : vx_Q Qc XC mc ms free a (U.calling g mk a) o s₂ := hq
  rw [State.frames_setTop' g h.top] at hend
  obtain ⟨g₀, hg0⟩ := Option.isSome_iff_exists.mp h.top
  obtain ⟨r, hr⟩ := State.topJava?_eq_some.mp hg0
  have hr' : (({ U with heap := s₂.heap, slotsUsed := s₂.slotsUsed } : State).setVm s₂.vm).frames = .java g₀ :: r := hr
  rcases hq' with ⟨hqc, L, hfe, hL⟩ | ⟨q, rfl, E, ce, L, hx, hce, hcv, hcl, hW₂, hsm, hL⟩
  · obtain ⟨⟨v, rfl⟩, hW₂, e2, q2, q3, q4, q5, q6⟩ := id hfe
    have e3 : s₂ = ({ (U.calling g mk a).setFrames s₂.frames with heap := s₂.heap, slotsUsed := s₂.slotsUsed } : State).setVm s₂.vm := by
      have : s₂ = ({ s₂ with vm := (U.calling g mk a).vm } : State).setVm s₂.vm := rfl
      rw [e2] at this
      exact this
    obtain ⟨c₂, i₂, len₂, hc₂, hd₂, hf₂⟩ := hend
    have hW' : U.WarmedH s₂.vm := hW₂
    have hcc : c₂ = c := by
      have h1 : s₂.code? g.method = U.code? g.method := by
        rw [State.code?_eq, State.code?_eq, hW'.alike.method?]
      exact Option.some.inj (hc₂.symm.trans (h1.trans h.code))
    subst hcc
    have hlen : len₂ = len := by rw [hdg] at hd₂; cases hd₂; rfl
    subst hlen
    have hs₂ : s₂ = (({ U with heap := s₂.heap, slotsUsed := s₂.slotsUsed } : State).setVm s₂.vm).setTop { g with pc := g.pc + len₂, stack := v.toList ++ g.stack } := by
      refine e3.trans ?_
      rw [hf₂, State.calling_eq h.top, State.setFrames_setFrames, State.setTop_of_frames _ hr', hr]
      rfl
    have hsame : U.sameButNew ({ U with heap := s₂.heap, slotsUsed := s₂.slotsUsed } : State) L mc ms := by
      refine ⟨?_, q2, q3, q4, q5, q6⟩
      obtain ⟨t, ht, -⟩ := State.frames_cons hr
      show ({ U with heap := s₂.heap, slotsUsed := s₂.slotsUsed } : State) = { U.setFrames U.frames with heap := s₂.heap, slotsUsed := s₂.slotsUsed }
      rw [State.setFrames_self ht]
    subst hg
    refine Or.inl ⟨v, ⟨(({ U with heap := s₂.heap, slotsUsed := s₂.slotsUsed } : State).setVm s₂.vm), Ls ++ L, c0 + mc, s0 + ms⟩,
      ⟨X.admits, X.cas, X.clock, X.frames, X.room, X.hears, X.method, X.code, (X.here.setHeapUsed s₂.heap s₂.slotsUsed).setVm hW'.alike, X.tail, State.WarmedH.trans X.warmed hW', X.limits, X.bytes, X.same.trans (hsame.setVm s.vm)⟩,
      ⟨g, mk, s₂, L, rfl, rfl, hqc, rfl, hL, rfl, rfl⟩, ?_⟩
    show Steps p.tables e below _ ((({ U with heap := s₂.heap, slotsUsed := s₂.slotsUsed } : State).setVm s₂.vm).setTop { g with pc := g.pc + len₂, stack := v.toList ++ g.stack })
    rw [← hs₂]
    exact hsteps
  · obtain ⟨e2, q2, q3, q4, q5, q6⟩ := id hsm
    have e3 : s₂ = ({ (U.calling g mk a).setFrames s₂.frames with heap := s₂.heap, slotsUsed := s₂.slotsUsed } : State).setVm s₂.vm := by
      have : s₂ = ({ s₂ with vm := (U.calling g mk a).vm } : State).setVm s₂.vm := rfl
      rw [e2] at this
      exact this
    have hf₂ : s₂.frames = .throwing q :: .java g :: U.frames.tail := hend
    have hW' : U.WarmedH s₂.vm := hW₂
    have hs₂ : s₂ = ((({ U with heap := s₂.heap, slotsUsed := s₂.slotsUsed } : State).setVm s₂.vm).setTop g).pushFrame (.throwing q) := by
      refine e3.trans ?_
      rw [hf₂, State.calling_eq h.top, State.setFrames_setFrames, State.pushFrame, State.frames_setTop _ hr', State.setTop_of_frames _ hr', State.setFrames_setFrames, hr]
      rfl
    have hsame : U.sameButNew ({ U with heap := s₂.heap, slotsUsed := s₂.slotsUsed } : State) L mc ms := by
      refine ⟨?_, q2, q3, q4, q5, q6⟩
      obtain ⟨t, ht, -⟩ := State.frames_cons hr
      show ({ U with heap := s₂.heap, slotsUsed := s₂.slotsUsed } : State) = { U.setFrames U.frames with heap := s₂.heap, slotsUsed := s₂.slotsUsed }
      rw [State.setFrames_self ht]
    subst hg
    refine Or.inr ⟨q, ⟨(({ U with heap := s₂.heap, slotsUsed := s₂.slotsUsed } : State).setVm s₂.vm), Ls ++ L, c0 + mc, s0 + ms⟩,
      ⟨X.admits, X.cas, X.clock, X.frames, X.room, X.hears, X.method, X.code, (X.here.setHeapUsed s₂.heap s₂.slotsUsed).setVm hW'.alike, X.tail, State.WarmedH.trans X.warmed hW', X.limits, X.bytes, X.same.trans (hsame.setVm s.vm)⟩,
      ⟨g, mk, s₂, L, E, ce, rfl, rfl, hx, hce, hcv, hcl, rfl, hL, rfl, rfl⟩, ?_⟩
    show Steps p.tables e below _ (((({ U with heap := s₂.heap, slotsUsed := s₂.slotsUsed } : State).setVm s₂.vm).setTop g).pushFrame (.throwing q))
    rw [← hs₂]
    exact hsteps
end
variable {p : Program} {l : Launch} {e : Env} {R : Room} {s : State} {m : MethodId} {args : Array Value} {below : List Frame} {meth : Method} {c : Code} {T : State} {H : Heap} {locs : List Loc} {cells slots : Nat}
theorem vx_callVX (X : Stand p l e R s m args below meth c T locs cells slots) (hexec : p.tables.exec = Jvm.exec) {own C : String} {index : Nat} {y : MethodName} {bytes : ByteArray} {maxL : Nat} {ret : Option FieldType} {hh : List (Nat × Nat × Nat × Nat)}
    (hown : s.vm.findClass own = some m.cls) (hlink : (Cond.methodLink own index y).before args s = true) (hinst : (Cond.instanceMethod y).before args s = true) (hsel : (Cond.selects C y y).before args s = true)
    (hcode : (Cond.codeWith y bytes maxL ret hh).before args s = true) (hy : y.cls ≠ "java/lang/invoke/MethodHandle" ∧ y.cls ≠ "java/lang/invoke/VarHandle")
    {W9 : Nat} {Pre : Pt → Array Value → Prop} {Post : Pt → Array Value → Option Value → Pt → Prop} {PostX : Pt → Array Value → Addr → Pt → Prop} (hK : vx_Back l R p e below s args y 3 W9 Pre Post PostX)
    {b : Addr} {cellB : Cell} (hcell : T.heap[b]? = some cellB) (hobj : cellB.vm.isStatics = false) (hcls : s.vm.findClass C = some cellB.cls)
    {g : JFrame} (hg : g.method = m) (hsize : g.locals.size = c.maxLocals) {argsL rest : List Value} (hlen : ∀ sig, parseMethodDescriptor y.desc = some sig → argsL.length = sig.parameters.length)
    (hstack : g.stack = argsL.reverse ++ .ref b :: rest) (hW : 2 * g.monitorRoom + (rest.map fun v => v.category).sum ≤ W9) (hdg : decode c.code g.pc = .ok (.invokevirtual index, 3))
    (hpre : ∀ vm₁, s.WarmedH vm₁ → Pre ⟨T.setVm vm₁, locs, cells, slots⟩ (Value.ref b :: argsL).toArray) :
    (∃ (v : Option Value) (vm₁ : Vm) (B : Pt), s.WarmedH vm₁ ∧ Stand p l e R s m args below meth c B.U B.locs B.cells B.slots ∧ Post ⟨T.setVm vm₁, locs, cells, slots⟩ (Value.ref b :: argsL).toArray v B ∧
      ∀ target, Steps p.tables e below (B.U.setTop { g with pc := g.pc + 3, stack := v.toList ++ rest }) target → Steps p.tables e below (T.setTop g) target) ∨
    (∃ (q : Addr) (vm₁ : Vm) (B : Pt), s.WarmedH vm₁ ∧ Stand p l e R s m args below meth c B.U B.locs B.cells B.slots ∧ PostX ⟨T.setVm vm₁, locs, cells, slots⟩ (Value.ref b :: argsL).toArray q B ∧
      Steps p.tables e below (T.setTop g) ((B.U.setTop { g with stack := rest }).pushFrame (.throwing q))) := by
  obtain ⟨mk, methM, hnamed, hmethM, hstM, habM⟩ := Cond.instanceMethod_spec hinst
  obtain ⟨m8, methM', cM, hn8, hmethM', -, -, -, -, -, -, hsigM⟩ := Cond.codeWith_spec hcode
  cases Option.some.inj (hn8.symm.trans hnamed)
  cases hmethM.symm.trans hmethM'
  obtain ⟨c2, r2, m2, q1, q2, q3, q4, kP, hkP, hkPi⟩ := Cond.selects_spec hsel
  cases hcls.symm.trans q1
  cases (State.methodFound?_of_named hnamed hy).symm.trans q2
  cases hnamed.symm.trans q3
  have hselP : selectMethod e.platform s.vm cellB.cls mk = .method mk := by rw [Launch.admits_selectMethod X.admits]; exact q4
  obtain ⟨vm₁, X₁, hstep₁⟩ := X.invokevirtual hexec hown hlink hnamed hmethM hstM hkP hkPi hy (a := b) (cell := cellB) hcell
    (fun z h => by rw [h] at hobj; cases hobj) hselP hmethM habM hkP hkPi (g := g) hg (argsL := argsL) (rest := rest) (hlen _ hsigM) hstack hdg
  rcases hK m meth c ⟨T.setVm vm₁, locs, cells, slots⟩ { g with stack := rest } (.invokevirtual index) mk (Value.ref b :: argsL).toArray X₁ hg hsize hdg hW (X₁.named hnamed) (hpre vm₁ X₁.warmed) with ⟨v, B, X', hpost, hsteps⟩ | ⟨q, B, X', hpost, hsteps⟩
  · exact Or.inl ⟨v, vm₁, B, X₁.warmed, X', hpost, fun target h => hstep₁ _ fun acts => by rw [doInvoke_state]; exact hsteps.trans h⟩
  · exact Or.inr ⟨q, vm₁, B, X₁.warmed, X', hpost, hstep₁ _ fun acts => by rw [doInvoke_state]; exact hsteps⟩
theorem vx_callSX (X : Stand p l e R s m args below meth c T locs cells slots) (hexec : p.tables.exec = Jvm.exec) {own : String} {index : Nat} {y : MethodName} {bytes : ByteArray} {maxL : Nat} {ret : Option FieldType} {hh : List (Nat × Nat × Nat × Nat)}
    (hown : s.vm.findClass own = some m.cls) (hlink : (Cond.methodLink own index y).before args s = true) (hstat : (Cond.static y).before args s = true) (hinit : (Cond.initialized y.cls).before args s = true)
    (hcode : (Cond.codeWith y bytes maxL ret hh).before args s = true) (hy : y.cls ≠ "java/lang/invoke/MethodHandle" ∧ y.cls ≠ "java/lang/invoke/VarHandle")
    {W9 : Nat} {Pre : Pt → Array Value → Prop} {Post : Pt → Array Value → Option Value → Pt → Prop} {PostX : Pt → Array Value → Addr → Pt → Prop} (hK : vx_Back l R p e below s args y 3 W9 Pre Post PostX)
    {g : JFrame} (hg : g.method = m) (hsize : g.locals.size = c.maxLocals) {argsL rest : List Value} (hlen : ∀ sig, parseMethodDescriptor y.desc = some sig → argsL.length = sig.parameters.length)
    (hstack : g.stack = argsL.reverse ++ rest) (hW : 2 * g.monitorRoom + (rest.map fun v => v.category).sum ≤ W9) (hdg : decode c.code g.pc = .ok (.invokestatic index, 3))
    (hpre : ∀ vm₁, s.WarmedH vm₁ → Pre ⟨T.setVm vm₁, locs, cells, slots⟩ argsL.toArray) :
    (∃ (v : Option Value) (vm₁ : Vm) (B : Pt), s.WarmedH vm₁ ∧ Stand p l e R s m args below meth c B.U B.locs B.cells B.slots ∧ Post ⟨T.setVm vm₁, locs, cells, slots⟩ argsL.toArray v B ∧
      ∀ target, Steps p.tables e below (B.U.setTop { g with pc := g.pc + 3, stack := v.toList ++ rest }) target → Steps p.tables e below (T.setTop g) target) ∨
    (∃ (q : Addr) (vm₁ : Vm) (B : Pt), s.WarmedH vm₁ ∧ Stand p l e R s m args below meth c B.U B.locs B.cells B.slots ∧ PostX ⟨T.setVm vm₁, locs, cells, slots⟩ argsL.toArray q B ∧
      Steps p.tables e below (T.setTop g) ((B.U.setTop { g with stack := rest }).pushFrame (.throwing q))) := by
  obtain ⟨mk, methM, cM, hnamed, hmethM, -, -, -, -, -, -, hsigM⟩ := Cond.codeWith_spec hcode
  have hstatic : methM.isStatic = true := Cond.static_spec hnamed hmethM hstat
  obtain ⟨kP, hkP, -⟩ := className_of_methodNamed hnamed
  have hinitP : kP.init = .initialized := Cond.initialized_spec (findClass_of_methodNamed hnamed) hkP hinit
  obtain ⟨vm₁, X₁, hstep₁⟩ := X.invokestatic hexec hown hlink hnamed hmethM hstatic hkP hinitP hy (g := g) hg (argsL := argsL) (rest := rest) (hlen _ hsigM) hstack hdg
  rcases hK m meth c ⟨T.setVm vm₁, locs, cells, slots⟩ { g with stack := rest } (.invokestatic index) mk argsL.toArray X₁ hg hsize hdg hW (X₁.named hnamed) (hpre vm₁ X₁.warmed) with ⟨v, B, X', hpost, hsteps⟩ | ⟨q, B, X', hpost, hsteps⟩
  · exact Or.inl ⟨v, vm₁, B, X₁.warmed, X', hpost, fun target h => hstep₁ _ fun acts => by rw [doInvoke_state]; exact hsteps.trans h⟩
  · exact Or.inr ⟨q, vm₁, B, X₁.warmed, X', hpost, hstep₁ _ fun acts => by rw [doInvoke_state]; exact hsteps⟩
theorem vx_callVW (X : Stand p l e R s m args below meth c T locs cells slots) (hexec : p.tables.exec = Jvm.exec) {own C : String} {index : Nat} {y : MethodName} {bytes : ByteArray} {maxL : Nat} {ret : Option FieldType} {hh : List (Nat × Nat × Nat × Nat)}
    (hown : s.vm.findClass own = some m.cls) (hlink : (Cond.methodLink own index y).before args s = true) (hinst : (Cond.instanceMethod y).before args s = true) (hsel : (Cond.selects C y y).before args s = true)
    (hcode : (Cond.codeWith y bytes maxL ret hh).before args s = true) (hy : y.cls ≠ "java/lang/invoke/MethodHandle" ∧ y.cls ≠ "java/lang/invoke/VarHandle")
    {W9 : Nat} {Pre : Pt → Array Value → Prop} {Post : Pt → Array Value → Option Value → Pt → Prop} (hK : Back l R p e below s args y 3 W9 Pre Post)
    {b : Addr} {cellB : Cell} (hcell : T.heap[b]? = some cellB) (hobj : cellB.vm.isStatics = false) (hcls : s.vm.findClass C = some cellB.cls)
    {g : JFrame} (hg : g.method = m) (hsize : g.locals.size = c.maxLocals) {argsL rest : List Value} (hlen : ∀ sig, parseMethodDescriptor y.desc = some sig → argsL.length = sig.parameters.length)
    (hstack : g.stack = argsL.reverse ++ .ref b :: rest) (hW : 2 * g.monitorRoom + (rest.map fun v => v.category).sum ≤ W9) (hdg : decode c.code g.pc = .ok (.invokevirtual index, 3))
    (hpre : ∀ vm₁, s.WarmedH vm₁ → Pre ⟨T.setVm vm₁, locs, cells, slots⟩ (Value.ref b :: argsL).toArray) :
    ∃ (v : Option Value) (vm₁ : Vm) (B : Pt), s.WarmedH vm₁ ∧ Stand p l e R s m args below meth c B.U B.locs B.cells B.slots ∧ Post ⟨T.setVm vm₁, locs, cells, slots⟩ (Value.ref b :: argsL).toArray v B ∧
      ∀ target, Steps p.tables e below (B.U.setTop { g with pc := g.pc + 3, stack := v.toList ++ rest }) target → Steps p.tables e below (T.setTop g) target := by
  obtain ⟨mk, methM, hnamed, hmethM, hstM, habM⟩ := Cond.instanceMethod_spec hinst
  obtain ⟨m8, methM', cM, hn8, hmethM', -, -, -, -, -, -, hsigM⟩ := Cond.codeWith_spec hcode
  cases Option.some.inj (hn8.symm.trans hnamed)
  cases hmethM.symm.trans hmethM'
  obtain ⟨c2, r2, m2, q1, q2, q3, q4, kP, hkP, hkPi⟩ := Cond.selects_spec hsel
  cases hcls.symm.trans q1
  cases (State.methodFound?_of_named hnamed hy).symm.trans q2
  cases hnamed.symm.trans q3
  have hselP : selectMethod e.platform s.vm cellB.cls mk = .method mk := by rw [Launch.admits_selectMethod X.admits]; exact q4
  obtain ⟨vm₁, X₁, hstep₁⟩ := X.invokevirtual hexec hown hlink hnamed hmethM hstM hkP hkPi hy (a := b) (cell := cellB) hcell
    (fun z h => by rw [h] at hobj; cases hobj) hselP hmethM habM hkP hkPi (g := g) hg (argsL := argsL) (rest := rest) (hlen _ hsigM) hstack hdg
  obtain ⟨v, B, X', hpost, hsteps⟩ := hK m meth c ⟨T.setVm vm₁, locs, cells, slots⟩ { g with stack := rest } (.invokevirtual index) mk (Value.ref b :: argsL).toArray X₁ hg hsize hdg hW (X₁.named hnamed) (hpre vm₁ X₁.warmed)
  exact ⟨v, vm₁, B, X₁.warmed, X', hpost, fun target h => hstep₁ _ fun acts => by rw [doInvoke_state]; exact hsteps.trans h⟩
abbrev vx_CVW (R : Room) (s : State) (args : Array Value) (own C : String) (index : Nat) (y : MethodName) (bytes : ByteArray) (maxL : Nat) (ret : Option FieldType) (hh : List (Nat × Nat × Nat × Nat)) (ws : List Cond) (rm : Room) (mc ms n : Nat) : Prop :=
  (rm.cells = mc ∧ rm.slots = ms ∧ rm.frames + 1 ≤ R.frames ∧ 8 + (maxL + 11) + rm.locals ≤ R.locals ∧ (∀ w ∈ ws, ∀ (a' : Array Value) (U : State), s.WarmedH U.vm → w.before a' U = true) ∧ Cond.codeWith y bytes maxL ret hh ∈ ws) ∧
  (Cond.codeWith y bytes maxL ret hh).before args s = true ∧ (Cond.initialized y.cls).before args s = true ∧ (y.cls ≠ "java/lang/invoke/MethodHandle" ∧ y.cls ≠ "java/lang/invoke/VarHandle") ∧
  (∀ sig, parseMethodDescriptor y.desc = some sig → n = sig.parameters.length) ∧ (Cond.methodLink own index y).before args s = true ∧ (Cond.instanceMethod y).before args s = true ∧ (Cond.selects C y y).before args s = true
theorem vx_cwVW {own C : String} {index maxL mc ms : Nat} {y : MethodName} {bytes : ByteArray} {ret : Option FieldType} {hh : List (Nat × Nat × Nat × Nat)} {Ts ws ws' : List Cond} {rm : Room} (n : Nat) (ht : ∀ w ∈ Ts, w.before args s = true) (hT : GoodIn Ts (wsV own index C y ws)) (hw : ws = Cond.codeWith y bytes maxL ret hh :: ws') (hrc : rm.cells = mc) (hrs : rm.slots = ms)
    (hd : y.cls = C ∧ y.cls ≠ "java/lang/invoke/MethodHandle" ∧ y.cls ≠ "java/lang/invoke/VarHandle" ∧ (parseMethodDescriptor y.desc).map (fun d => d.parameters.length) = some n) (hR : rm.frames + 1 ≤ R.frames ∧ 8 + (maxL + 11) + rm.locals ≤ R.locals) :
    vx_CVW R s args own C index y bytes maxL ret hh ws rm mc ms n := by
  obtain ⟨hC, hd⟩ := hd
  subst hC
  have ok : ∀ w ∈ wsV own index y.cls y ws, w.before args s = true := fun w h => ht w (hT w h).1
  have hG : GoodIn Ts ws := fun w h => hT w (by unfold wsV; exact List.mem_append_right _ h)
  have hc : Cond.codeWith y bytes maxL ret hh ∈ ws := by rw [hw]; exact List.mem_cons_self
  refine ⟨⟨hrc, hrs, hR.1, hR.2, pay_in ht hG, hc⟩, ht _ (hG _ hc).1, ok _ (by simp [wsV]), ⟨hd.1, hd.2.1⟩, fun sig h => ?_, ok _ (by simp [wsV]), ok _ (by simp [wsV]), ok _ (by simp [wsV])⟩
  have h2 := hd.2.2
  rw [h] at h2
  exact (Option.some.inj h2).symm
theorem vx_runVW {y : MethodName} {bytes cc : ByteArray} {maxL nL mc ms n index : Nat} {ret : Option FieldType} {hh : List (Nat × Nat × Nat × Nat)} {ws : List Cond} {rm : Room} {Pc : Array Value → State → Prop} {Qc : Array Value → State → Outcome → State → Prop} {free : Addr → Prop} {Ts : List Cond} {own C : String} {b : Addr} {As rest : List Value} {g : JFrame}
    (S : CallFix p m c cc nL s args Ts own) (hM : Met l y ws rm Pc Qc mc ms free) (cw : vx_CVW R s args own C index y bytes maxL ret hh ws rm mc ms n) (hp : PreV s H C b Pc As)
    (hg : g.method = m) (hn : As.length = n) (hsize : g.locals.size = nL) (hstack : g.stack = As.reverse ++ .ref b :: rest) (hW : 2 * g.monitorRoom + (rest.map fun v => v.category).sum ≤ 8) (hdg : decode cc g.pc = .ok (.invokevirtual index, 3)) (hf : cells + mc ≤ R.cells ∧ slots + ms ≤ R.slots) :
    va_Run p l e R s m args below meth c H locs cells slots mc ms g rest (Qc (Value.ref b :: As).toArray) free := by
  obtain ⟨⟨hrc, hrs, hfr, hlo, hws, hcw⟩, hcode, hini, hy, hlen, hl, hin, hse⟩ := cw
  have hK : Back l R p e below s args y 3 8 (PreOf R mc ms Pc) (PostOf Qc mc ms free) := va_backW (hh := hh) (bytes := bytes) (maxL := maxL) (ret := ret) hM hp.1 hrc hrs hfr hlo hws hcw (fun a' U hW => word_at hW (Or.inl (by first | rfl | simp [Cond.onTables, Cond.keeps, Cond.steady])) hini)
  obtain ⟨hx, hb, hml, ho, -⟩ := S
  obtain ⟨-, ⟨cellB, hcB, hoB, hclB⟩, hPc⟩ := hp
  intro T hT X
  obtain ⟨v, vm₁, ⟨U', l2, c2, s2⟩, hW₁, X', ⟨g', mk, t, L, e1, e2, hq, h1, hL, h2, h3⟩, st⟩ := vx_callVW X hx (C := C) (hh := hh) (bytes := bytes) (maxL := maxL) (ret := ret) ho hl hin hse hcode hy hK (by rw [hT]; exact hcB) hoB hclB hg (hsize.trans hml.symm) (argsL := As) (rest := rest) (fun sig h => hn.trans (hlen sig h)) hstack hW (by rw [hb]; exact hdg)
    (fun vm₁ hW₁ => ⟨hf.1, hf.2, hPc (T.setVm vm₁) hT hW₁⟩)
  dsimp only [Pt.U, Pt.locs, Pt.cells, Pt.slots] at X' e1 e2 h1 h2 h3 st
  subst h1; subst h2; subst h3
  exact ⟨v, (T.setVm vm₁).calling g' mk (Value.ref b :: As).toArray, t, U', L, hT, X', hL, e1, e2, hq, st⟩
section
variable {y : MethodName} {bytes cc : ByteArray} {maxL nL mc ms n index : Nat} {ret : Option FieldType} {ws : List Cond} {rm : Room} {Pc : Array Value → State → Prop} {Qc : Array Value → State → Outcome → State → Prop} {XC : String → State → State → Prop} {free : Addr → Prop} {Ts : List Cond} {own C : String} {b : Addr} {As rest : List Value} {g : JFrame}
theorem vx_runVX {hh : List (Nat × Nat × Nat × Nat)} (S : CallFix p m c cc nL s args Ts own) (hM : vx_Met l y ws rm Pc Qc XC mc ms free) (cw : vx_CVW R s args own C index y bytes maxL ret hh ws rm mc ms n) (hp : PreV s H C b Pc As)
    (hg : g.method = m) (hn : As.length = n) (hsize : g.locals.size = nL) (hstack : g.stack = As.reverse ++ .ref b :: rest) (hW : 2 * g.monitorRoom + (rest.map fun v => v.category).sum ≤ 8) (hdg : decode cc g.pc = .ok (.invokevirtual index, 3)) (hf : cells + mc ≤ R.cells ∧ slots + ms ≤ R.slots) :
    vx_Run p l e R s m args below meth c H locs cells slots mc ms g rest (Qc (Value.ref b :: As).toArray) XC free := by
  obtain ⟨⟨hrc, hrs, hfr, hlo, hws, hcw⟩, hcode, hini, hy, hlen, hl, hin, hse⟩ := cw
  have hK : vx_Back l R p e below s args y 3 8 (PreOf R mc ms Pc) (PostOf Qc mc ms free) (vx_Post XC mc ms free) := vx_backW (hh := hh) (bytes := bytes) (maxL := maxL) (ret := ret) hM hp.1 hrc hrs hfr hlo hws hcw (fun a' U hW => word_at hW (Or.inl (by first | rfl | simp [Cond.onTables, Cond.keeps, Cond.steady])) hini)
  obtain ⟨hx, hb, hml, ho, -⟩ := S
  obtain ⟨-, ⟨cellB, hcB, hoB, hclB⟩, hPc⟩ := hp
  intro T hT X
  rcases vx_callVX X hx (C := C) (hh := hh) (bytes := bytes) (maxL := maxL) (ret := ret) ho hl hin hse hcode hy hK (by rw [hT]; exact hcB) hoB hclB hg (hsize.trans hml.symm) (argsL := As) (rest := rest) (fun sig h => hn.trans (hlen sig h)) hstack hW (by rw [hb]; exact hdg)
    (fun vm₁ hW₁ => ⟨hf.1, hf.2, hPc (T.setVm vm₁) hT hW₁⟩) with ⟨v, vm₁, ⟨U', l2, c2, s2⟩, hW₁, X', ⟨g', mk, t, L, e1, e2, hq, h1, hL, h2, h3⟩, st⟩ | ⟨q, vm₁, ⟨U', l2, c2, s2⟩, hW₁, X', ⟨g', mk, t, L, E, ce, e1, e2, hq, hce, hcv, hcl, h1, hL, h2, h3⟩, st⟩
  · dsimp only [Pt.U, Pt.locs, Pt.cells, Pt.slots] at X' e1 e2 h1 h2 h3 st
    subst h1; subst h2; subst h3
    exact Or.inl ⟨v, (T.setVm vm₁).calling g' mk (Value.ref b :: As).toArray, t, U', L, hT, X', hL, e1, e2, hq, st⟩
  · dsimp only [Pt.U, Pt.locs, Pt.cells, Pt.slots] at X' e1 e2 h1 h2 h3 st hcl
    subst h1; subst h2; subst h3
    exact Or.inr ⟨q, (T.setVm vm₁).calling g' mk (Value.ref b :: As).toArray, t, U', L, E, ce, hT, X', hL, e1, e2, hq, hce, hcv, vx_cls hW₁ hcl, st⟩
theorem vx_runSX {hh : List (Nat × Nat × Nat × Nat)} (S : CallFix p m c cc nL s args Ts own) (hM : vx_Met l y ws rm Pc Qc XC mc ms free) (cw : vx_CSW R s args own index y bytes maxL ret hh ws rm mc ms n) (hp : PreS s H Pc As)
    (hg : g.method = m) (hn : As.length = n) (hsize : g.locals.size = nL) (hstack : g.stack = As.reverse ++ rest) (hW : 2 * g.monitorRoom + (rest.map fun v => v.category).sum ≤ 8) (hdg : decode cc g.pc = .ok (.invokestatic index, 3)) (hf : cells + mc ≤ R.cells ∧ slots + ms ≤ R.slots) :
    vx_Run p l e R s m args below meth c H locs cells slots mc ms g rest (Qc As.toArray) XC free := by
  obtain ⟨⟨hrc, hrs, hfr, hlo, hws, hcw⟩, hcode, hini, hy, hlen, hl, hstt⟩ := cw
  have hK : vx_Back l R p e below s args y 3 8 (PreOf R mc ms Pc) (PostOf Qc mc ms free) (vx_Post XC mc ms free) := vx_backW (hh := hh) (bytes := bytes) (maxL := maxL) (ret := ret) hM hp.1 hrc hrs hfr hlo hws hcw (fun a' U hW => word_at hW (Or.inl (by first | rfl | simp [Cond.onTables, Cond.keeps, Cond.steady])) hini)
  obtain ⟨hx, hb, hml, ho, -⟩ := S
  intro T hT X
  rcases vx_callSX X hx (hh := hh) (bytes := bytes) (maxL := maxL) (ret := ret) ho hl hstt hini hcode hy hK hg (hsize.trans hml.symm) (argsL := As) (rest := rest) (fun sig h => hn.trans (hlen sig h)) hstack hW (by rw [hb]; exact hdg)
    (fun vm₁ hW₁ => ⟨hf.1, hf.2, hp.2 (T.setVm vm₁) hT hW₁⟩) with ⟨v, vm₁, ⟨U', l2, c2, s2⟩, hW₁, X', ⟨g', mk, t, L, e1, e2, hq, h1, hL, h2, h3⟩, st⟩ | ⟨q, vm₁, ⟨U', l2, c2, s2⟩, hW₁, X', ⟨g', mk, t, L, E, ce, e1, e2, hq, hce, hcv, hcl, h1, hL, h2, h3⟩, st⟩
  · dsimp only [Pt.U, Pt.locs, Pt.cells, Pt.slots] at X' e1 e2 h1 h2 h3 st
    subst h1; subst h2; subst h3
    exact Or.inl ⟨v, (T.setVm vm₁).calling g' mk As.toArray, t, U', L, hT, X', hL, e1, e2, hq, st⟩
  · dsimp only [Pt.U, Pt.locs, Pt.cells, Pt.slots] at X' e1 e2 h1 h2 h3 st hcl
    subst h1; subst h2; subst h3
    exact Or.inr ⟨q, (T.setVm vm₁).calling g' mk As.toArray, t, U', L, E, ce, hT, X', hL, e1, e2, hq, hce, hcv, vx_cls hW₁ hcl, st⟩
end
end VXH
theorem vx_ofWH {l : Launch} {y : MethodName} {ws ws' : List Cond} {rm : Room} {Pc : Array Value → State → Prop} {Qc : Array Value → State → Outcome → State → Prop} {XC : String → State → State → Prop} {mc ms : Nat} {free : Addr → Prop} {cc : ByteArray} {maxL : Nat} {ret : Option FieldType} {hh : List (Nat × Nat × Nat × Nat)}
    (hy : plainName y.cls = true) (hw : ws = Cond.codeWith y cc maxL ret hh :: ws')
    (body : ∀ p e s m args below meth c s₁, BodyLoose p l y (headSpec ws rm) cc maxL ret e s m args below meth c s₁ → c.maxLocals = maxL → Pc args s →
      W p l e (headSpec ws rm).room s m args below meth c s.heap [] 0 0 (vx_MQ below Qc XC args s mc ms free) (entryFrame m args maxL)) : vx_Met l y ws rm Pc Qc XC mc ms free := by
  refine MetFree.of_bodyS (code := cc) (maxLocals := maxL) (ret := ret) hy ?_ ?_
  · intro args s m h hn
    obtain ⟨m9, meth, c, hn9, h1, h2, h3, h4, -, h5, h6, -⟩ := Cond.codeWith_spec (atoms_spec (ws := ws) h _ (by rw [hw]; exact List.mem_cons_self))
    cases hn.symm.trans hn9
    exact ⟨meth, c, h1, h2, h3, h4, h5, h6⟩
  · intro p e s m args below meth c s₁ B hml hP _
    have hh0 : s₁.heap = s.heap := by rw [B.state]; rfl
    obtain ⟨t, a1, o, b1, b2, b3⟩ := body p e s m args below meth c s₁ B hml hP s₁ hh0 (Stand.of_body B)
    exact ⟨t, o, a1, b1, b2, b3⟩
/-! ===== END ===== -/

/-! ===== BEGIN printed: names, fields, word lists, decode rows ===== -/
end
section
/-! ===== doubles: what the share needs ===== -/
theorem n64_of {a : UInt64} (h : FP.Core.val64 a ≠ .nan) : vf_n64 a := by
  have h1 := (FP.Core.ne_nan a).mp h
  unfold vf_n64
  rw [UInt64.le_iff_toNat_le, UInt64.toNat_and]
  have e : (0x7fffffffffffffff : UInt64).toNat = 2 ^ 63 - 1 := by decide
  rw [e, Nat.and_two_pow_sub_one_eq_mod]
  exact h1
theorem fits_n {C : Nat} {q : Int} (h1 : 2 ^ 52 ≤ C) (h2 : C < 2 ^ 53) (h3 : -1074 ≤ q) (h4 : q ≤ 971) : FP.Core.fits FP.Core.b64 (.fin false C q) := by
  refine ⟨h2, ?_, ?_, Or.inr ?_⟩
  · show (2 - ((1023 : Nat) : Int) - ((53 : Nat) : Int)) ≤ q
    omega
  · show q ≤ ((1023 : Nat) : Int) - ((53 : Nat) : Int) + 1
    omega
  · exact h1
theorem mul_p2 {a kk : UInt64} {C : Nat} {q r : Int} (ha : FP.Core.val64 a = .fin false C q) (hk : FP.Core.val64 kk = .fin false (2 ^ 52) r) (h1 : 2 ^ 52 ≤ C) (h2 : C < 2 ^ 53) (h3 : -1074 ≤ q + r + 52) (h4 : q + r + 52 ≤ 971) : FP.Core.val64 (FP.dmul a kk) = .fin false C (q + r + 52) := by
  rw [FP.Core.val64_dmul, ha, hk]
  show FP.Core.roundRatio FP.Core.b64 false (C * 2 ^ 52) 1 (q + r) = _
  refine FP.Core.roundRatio_exact FP.Core.good_b64 (by decide) (fits_n h1 h2 h3 h4) ?_
  rw [show ((q + r) - (q + r + 52)).toNat = 0 by omega, show ((q + r + 52) - (q + r)).toNat = 52 by omega]
  omega
theorem v_two : FP.Core.val64 (4611686018427387904 : UInt64) = .fin false (2 ^ 52) (-51) := by decide +kernel
theorem v_p52 : FP.Core.val64 (4841369599423283200 : UInt64) = .fin false (2 ^ 52) 0 := by decide +kernel
/-- the difference to 1.0, and its digits -/
theorem sub_one {a : UInt64} {C : Nat} (ha : FP.Core.val64 a = .fin false C (-52)) (h1 : 2 ^ 52 ≤ C) (h2 : C < 2 ^ 53) : FP.Core.val64 (FP.dsub a FP.dconst1) = FP.Core.roundRatio FP.Core.b64 false (C - 2 ^ 52) 1 (-52) := by
  have e : FP.Core.val64 (FP.dsub a FP.dconst1) = FP.Core.round FP.Core.b64 (FP.Core.exactSum (FP.Core.val64 a) (FP.Core.negate (FP.Core.val64 FP.Core.dconst1))) := FP.Core.val64_dsub a FP.Core.dconst1
  rw [e, ha, FP.Core.val64_dconst1]
  have hv : FP.Core.sumUnits false C (-52) true (2 ^ 52) (-52) (min (-52) (-52)) = ((C - 2 ^ 52 : Nat) : Int) := by
    show ((C * 2 ^ 0 : Nat) : Int) + -((2 ^ 52 * 2 ^ 0 : Nat) : Int) = _
    omega
  show FP.Core.round FP.Core.b64 (.fin (FP.Core.sumSign false true (FP.Core.sumUnits false C (-52) true (2 ^ 52) (-52) (min (-52) (-52)))) (FP.Core.sumUnits false C (-52) true (2 ^ 52) (-52) (min (-52) (-52))).natAbs (min (-52) (-52))) = _
  rw [hv]
  have hs : FP.Core.sumSign false true ((C - 2 ^ 52 : Nat) : Int) = false := by
    unfold FP.Core.sumSign
    split
    · rfl
    · exact decide_eq_false (by omega)
  rw [hs, Int.natAbs_natCast]
  rfl
end
section
/-! ===== the words of the tables that serve any method; the memory as a function of block and place; the world; the judgement RM ===== -/
def TB : List Cond := lw_tbl.filter goodWord
theorem tbm {i : Nat} {w : Cond} (h : lw_tbl[i]? = some w) (g : goodWord w = true) : w ∈ TB := List.mem_filter.mpr ⟨List.mem_of_getElem? h, g⟩
theorem goodTB {c : Cond} (hc : c ∈ TB) : GoodIn TB (c :: TB) := fun w h => by
  have hm : w ∈ TB := (List.mem_cons.mp h).elim (fun e => e ▸ hc) id
  exact ⟨hm, good_of_word (List.mem_filter.mp hm).2⟩
theorem fwTB : ∀ q ∈ vwCl, ∀ w ∈ u_ws q.1 q.2.1 q.2.2, w ∈ TB := by decide +kernel
theorem nmTB : ∀ q ∈ vwCl, ∀ a, a < q.2.2 → ∀ b, b < q.2.2 → a ≠ b → (q.2.1 a).2.1 ≠ (q.2.1 b).2.1 := by decide +kernel
abbrev Mem : Type := Nat → Nat → Int32
def up (x : Mem) (b n : Nat) (v : Int32) : Mem := fun b' n' => if b' = b ∧ n' = n then v else x b' n'
theorem up_s (x : Mem) (b n : Nat) (v : Int32) : up x b n v b n = v := by simp [up]
theorem up_ne (x : Mem) {b n b' n' : Nat} (v : Int32) (h : ¬ (b' = b ∧ n' = n)) : up x b n v b' n' = x b' n' := by simp [up, h]
theorem up_b (x : Mem) {b n b' : Nat} (n' : Nat) (v : Int32) (h : b' ≠ b) : up x b n v b' n' = x b' n' := by simp [up, h]
theorem up_n (x : Mem) {b n b' n' : Nat} (v : Int32) (h : n' ≠ n) : up x b n v b' n' = x b' n' := by simp [up, h]
abbrev Ads : Type := Nat → Nat → Nat → Nat
def ixB (k : Nat) : List (Nat × Nat × Nat) := [(k,0,0),(k,1,0),(k,2,0),(k,2,1),(k,2,2),(k,2,3),(k,3,0),(k,4,0),(k,4,1),(k,4,2),(k,5,0),(k,5,1),(k,5,2),(k,20,0),(k,20,1),(k,20,2),(k,20,3),(k,21,0),(k,21,1),(k,21,2),(k,21,3),(k,22,0),(k,22,1),(k,22,2),(k,22,3),(k,6,0),(k,7,0),(k,8,0)]
def ixC : List (Nat × Nat × Nat) := (List.range 7).flatMap ixB ++ [(7,4,0),(7,5,0),(7,20,0),(7,20,1),(7,20,2),(7,20,3),(8,9,0),(8,10,0),(8,11,0),(8,12,0),(9,13,0)]
def idx : List (Nat × Nat × Nat) := ixC
/-- what the object c, j of the block k holds -/
def EE (cy : Nat → ClassId) (ad : Ads) (x : Mem) (k c j : Nat) : va_E := match c with
  | 0 => .inr (6, [.ref (ad k 1 0), .ref (ad k 3 0), .ref (ad k 6 0), .ref (ad k 8 0), .int (x k 3), .int (x k 4)])
  | 1 => .inl (cy 1, 4, .inr (.inr (.inr (.inr (fun i => some (ad k 2 i))))))
  | 2 => .inr (2, [.int (x k (14 + 4 * j)), .int (x k (15 + 4 * j)), .int (x k (16 + 4 * j)), .int (x k (17 + 4 * j))])
  | 3 => .inl (cy 2, 3, .inr (.inr (.inr (.inr (fun i => some (ad k 4 i))))))
  | 4 => .inr (1, [.ref (ad k 5 j), .int (x k (30 + 22 * j)), .int (x k (31 + 22 * j)), .int (x k (32 + 22 * j)), .int (x k (33 + 22 * j)), .int (x k (34 + 22 * j)), .int (x k (35 + 22 * j))])
  | 5 => .inl (cy 3, 4, .inr (.inr (.inr (.inr (fun i => some (ad k (j + 20) i))))))
  | 6 => .inr (0, [.ref (ad k 7 0), .int (x k 5)])
  | 7 => .inl (cy 0, 8, .inl (fun i => if i < 8 then x k (6 + i) else 0))
  | 8 => .inr (4, [.int (x k 0), .int (x k 1), .int (x k 2)])
  | 9 => .inr (8, [.ref (ad 0 0 0), .ref (ad 8 10 0), .ref (ad 8 12 0), .ref (ad 7 4 0)])
  | 10 => .inr (3, [.ref (ad 8 11 0), .int (x 8 0), .int (x 8 1)])
  | 11 => .inl (cy 4, 6, .inr (.inr (.inr (.inr (fun i => some (ad (i + 1) 0 0))))))
  | 12 => .inr (7, [.ref (ad 9 13 0), .int (x 8 2)])
  | 13 => .inl (cy 0, 60, .inl (x 9))
  | 14 => .inr (9, [.ref (ad 10 15 0), .ref (ad 11 15 0), .ref (ad 12 16 0), .int (x 15 0), .ref (ad 13 17 0), .int (x 15 1), .int (x 15 2), .int (x 15 3), .int (x 15 4), .ref (ad 14 18 0), .int (x 15 5), .int (x 15 6), .int (x 15 7)])
  | 15 => .inl (cy 0, 96, .inl (x k))
  | 16 => .inl (cy 0, 576, .inl (x k))
  | 17 => .inl (cy 0, 60, .inl (x k))
  | 18 => .inl (cy 0, 93, .inl (x k))
  | 19 => .inl (cy 5, 1, .inr (.inl (fun i => (x k i).toInt64)))
  | d + 20 => .inr (5, [.int (x k (36 + 22 * d + 4 * j)), .int (x k (37 + 22 * d + 4 * j)), .int (x k (38 + 22 * d + 4 * j)), .int (x k (39 + 22 * d + 4 * j))])
/-- whose the place n of the block b is -/
def ow (b n : Nat) : Nat × Nat × Nat :=
  if b < 8 then
    if n < 3 then (b, 8, 0) else if n < 5 then (b, 0, 0) else if n = 5 then (b, 6, 0) else if n < 14 then (b, 7, 0) else if n < 30 then (b, 2, (n - 14) / 4)
    else if (n - 30) % 22 < 6 then (b, 4, (n - 30) / 22) else (b, (n - 30) / 22 + 20, ((n - 30) % 22 - 6) / 4)
  else if b = 8 then (if n < 2 then (8, 10, 0) else (8, 12, 0))
  else if b = 9 then (9, 13, 0)
  else if b = 12 then (12, 16, 0) else if b = 13 then (13, 17, 0) else if b = 14 then (14, 18, 0) else if b = 15 then (15, 14, 0) else if b = 16 then (16, 19, 0) else (b, 15, 0)
/-- the objects that there may be -/
def dm (k c j : Nat) : Prop := match c with
  | 0 => k < 7 ∧ j = 0
  | 1 => k < 7 ∧ j = 0
  | 2 => k < 7 ∧ j < 4
  | 3 => k < 7 ∧ j = 0
  | 4 => k < 8 ∧ j < 3 ∧ (k = 7 → j = 0)
  | 5 => k < 8 ∧ j < 3 ∧ (k = 7 → j = 0)
  | 6 => k < 7 ∧ j = 0
  | 7 => k < 7 ∧ j = 0
  | 8 => k < 7 ∧ j = 0
  | 9 => k = 8 ∧ j = 0
  | 10 => k = 8 ∧ j = 0
  | 11 => k = 8 ∧ j = 0
  | 12 => k = 8 ∧ j = 0
  | 13 => k = 9 ∧ j = 0
  | 14 => False
  | 15 => False
  | 16 => False
  | 17 => False
  | 18 => False
  | 19 => False
  | d + 20 => k < 8 ∧ d < 3 ∧ j < 4 ∧ (k = 7 → d = 0)
def dmB (k c j : Nat) : Bool := match c with
  | 0 => decide (k < 7) && decide (j = 0)
  | 1 => decide (k < 7) && decide (j = 0)
  | 2 => decide (k < 7) && decide (j < 4)
  | 3 => decide (k < 7) && decide (j = 0)
  | 4 => decide (k < 8) && decide (j < 3) && (decide (k ≠ 7) || decide (j = 0))
  | 5 => decide (k < 8) && decide (j < 3) && (decide (k ≠ 7) || decide (j = 0))
  | 6 => decide (k < 7) && decide (j = 0)
  | 7 => decide (k < 7) && decide (j = 0)
  | 8 => decide (k < 7) && decide (j = 0)
  | 9 => decide (k = 8) && decide (j = 0)
  | 10 => decide (k = 8) && decide (j = 0)
  | 11 => decide (k = 8) && decide (j = 0)
  | 12 => decide (k = 8) && decide (j = 0)
  | 13 => decide (k = 9) && decide (j = 0)
  | 14 => false
  | 15 => false
  | 16 => false
  | 17 => false
  | 18 => false
  | 19 => false
  | d + 20 => decide (k < 8) && decide (d < 3) && decide (j < 4) && (decide (k ≠ 7) || decide (d = 0))
theorem dm_iff (k c j : Nat) : dm k c j ↔ dmB k c j = true := by
  unfold dm dmB
  split <;> simp <;> omega
theorem dmB_idx0 : ((List.range 17).all fun k => (List.range 23).all fun c => (List.range 4).all fun j => !dmB k c j || idx.contains (k, c, j)) = true := by decide +kernel
theorem dmB_idx (k : Nat) (hk : k < 17) (c : Nat) (hc : c < 23) (j : Nat) (hj : j < 4) (h : dmB k c j = true) : (k, c, j) ∈ idx := by
  have h1 := List.all_eq_true.mp (List.all_eq_true.mp (List.all_eq_true.mp dmB_idx0 k (List.mem_range.mpr hk)) c (List.mem_range.mpr hc)) j (List.mem_range.mpr hj)
  rw [h] at h1
  simpa using h1
theorem idx_dmB : ∀ i ∈ idx, dmB i.1 i.2.1 i.2.2 = true := by decide +kernel
theorem idx_nd : va_nd ((List.range idx.length)) = true := by decide +kernel
theorem dm_lt {k c j : Nat} (h : dm k c j) : k < 17 ∧ c < 23 ∧ j < 4 := by
  unfold dm at h
  split at h <;> first | exact h.elim | omega
theorem dm_mem {k c j : Nat} (h : dm k c j) : (k, c, j) ∈ idx := dmB_idx k (dm_lt h).1 c (dm_lt h).2.1 j (dm_lt h).2.2 ((dm_iff k c j).mp h)
theorem mem_dm {k c j : Nat} (h : (k, c, j) ∈ idx) : dm k c j := (dm_iff k c j).mpr (idx_dmB _ h)
theorem ow_slot {b d s f : Nat} (hb : b < 8) (hd : d < 3) (hs : s < 4) (hf : f < 4) : ow b (36 + 22 * d + 4 * s + f) = (b, d + 20, s) := by
  have e1 : (36 + 22 * d + 4 * s + f - 30) / 22 = d := by omega
  have e2 : (36 + 22 * d + 4 * s + f - 30) % 22 = 6 + 4 * s + f := by omega
  have e3 : (6 + 4 * s + f - 6) / 4 = s := by omega
  unfold ow
  rw [if_pos hb, if_neg (by omega), if_neg (by omega), if_neg (by omega), if_neg (by omega), if_neg (by omega), e1, e2, if_neg (by omega), e3]
theorem ow_door {b d f : Nat} (hb : b < 8) (hd : d < 3) (hf : f < 6) : ow b (30 + 22 * d + f) = (b, 4, d) := by
  have e1 : (30 + 22 * d + f - 30) / 22 = d := by omega
  have e2 : (30 + 22 * d + f - 30) % 22 = f := by omega
  unfold ow
  rw [if_pos hb, if_neg (by omega), if_neg (by omega), if_neg (by omega), if_neg (by omega), if_neg (by omega), e1, e2, if_pos (by omega)]
theorem ow_fob {b j f : Nat} (hb : b < 8) (hj : j < 4) (hf : f < 4) : ow b (14 + 4 * j + f) = (b, 2, j) := by
  have e1 : (14 + 4 * j + f - 14) / 4 = j := by omega
  unfold ow
  rw [if_pos hb, if_neg (by omega), if_neg (by omega), if_neg (by omega), if_neg (by omega), if_pos (by omega), e1]
theorem ow_air {b i : Nat} (hb : b < 8) (hi : i < 8) : ow b (6 + i) = (b, 7, 0) := by
  unfold ow
  rw [if_pos hb, if_neg (by omega), if_neg (by omega), if_neg (by omega), if_pos (by omega)]
theorem ow_set {b f : Nat} (hb : b < 8) (hf : f < 3) : ow b f = (b, 8, 0) := by
  unfold ow
  rw [if_pos hb, if_pos hf]
theorem ow_sta {b f : Nat} (hb : b < 8) (h1 : 3 ≤ f) (hf : f < 5) : ow b f = (b, 0, 0) := by
  unfold ow
  rw [if_pos hb, if_neg (by omega), if_pos hf]
theorem ow_len {b : Nat} (hb : b < 8) : ow b 5 = (b, 6, 0) := by
  unfold ow
  rw [if_pos hb]
  rfl
theorem ow_h {n : Nat} (h : n < 2) : ow 8 n = (8, 10, 0) := by
  unfold ow
  rw [if_neg (by omega), if_pos rfl, if_pos h]
theorem ow_t : ow 8 2 = (8, 12, 0) := rfl
theorem ow_c (n : Nat) : ow 9 n = (9, 13, 0) := rfl
theorem ow_10 (n : Nat) : ow 10 n = (10, 15, 0) := rfl
theorem ow_11 (n : Nat) : ow 11 n = (11, 15, 0) := rfl
theorem ow_12 (n : Nat) : ow 12 n = (12, 16, 0) := rfl
theorem ow_13 (n : Nat) : ow 13 n = (13, 17, 0) := rfl
theorem ow_14 (n : Nat) : ow 14 n = (14, 18, 0) := rfl
theorem ow_15 (n : Nat) : ow 15 n = (15, 14, 0) := rfl
theorem ow_16 (n : Nat) : ow 16 n = (16, 19, 0) := rfl
theorem EE_congr {cy : Nat → ClassId} {ad : Ads} {x y : Mem} {k c j : Nat} (hd : dm k c j) (h : ∀ b n, ow b n = (k, c, j) → x b n = y b n) : EE cy ad x k c j = EE cy ad y k c j := by
  have f : ∀ b n, ow b n = (k, c, j) → y b n = x b n := fun b n q => (h b n q).symm
  unfold dm at hd
  split at hd <;> simp only [EE]
  · obtain ⟨hk, rfl⟩ := hd
    rw [f k 3 (ow_sta (by omega) (by omega) (by omega)), f k 4 (ow_sta (by omega) (by omega) (by omega))]
  · obtain ⟨hk, hj⟩ := hd
    rw [f k (14 + 4 * j) (ow_fob (f := 0) (by omega) hj (by omega)), f k (15 + 4 * j) (by rw [show 15 + 4 * j = 14 + 4 * j + 1 by omega]; exact ow_fob (by omega) hj (by omega)), f k (16 + 4 * j) (by rw [show 16 + 4 * j = 14 + 4 * j + 2 by omega]; exact ow_fob (by omega) hj (by omega)), f k (17 + 4 * j) (by rw [show 17 + 4 * j = 14 + 4 * j + 3 by omega]; exact ow_fob (by omega) hj (by omega))]
  · obtain ⟨hk, hj, -⟩ := hd
    rw [f k (30 + 22 * j) (ow_door (f := 0) hk hj (by omega)), f k (31 + 22 * j) (by rw [show 31 + 22 * j = 30 + 22 * j + 1 by omega]; exact ow_door hk hj (by omega)), f k (32 + 22 * j) (by rw [show 32 + 22 * j = 30 + 22 * j + 2 by omega]; exact ow_door hk hj (by omega)), f k (33 + 22 * j) (by rw [show 33 + 22 * j = 30 + 22 * j + 3 by omega]; exact ow_door hk hj (by omega)), f k (34 + 22 * j) (by rw [show 34 + 22 * j = 30 + 22 * j + 4 by omega]; exact ow_door hk hj (by omega)), f k (35 + 22 * j) (by rw [show 35 + 22 * j = 30 + 22 * j + 5 by omega]; exact ow_door hk hj (by omega))]
  · obtain ⟨hk, rfl⟩ := hd
    rw [f k 5 (ow_len (by omega))]
  · obtain ⟨hk, rfl⟩ := hd
    congr 4
    funext i
    by_cases hi : i < 8
    · rw [if_pos hi, if_pos hi, f k (6 + i) (ow_air (by omega) hi)]
    · rw [if_neg hi, if_neg hi]
  · obtain ⟨hk, rfl⟩ := hd
    rw [f k 0 (ow_set (by omega) (by omega)), f k 1 (ow_set (by omega) (by omega)), f k 2 (ow_set (by omega) (by omega))]
  · obtain ⟨rfl, rfl⟩ := hd
    rw [f 8 0 rfl, f 8 1 rfl]
  · obtain ⟨rfl, rfl⟩ := hd
    rw [f 8 2 rfl]
  · obtain ⟨rfl, rfl⟩ := hd
    rw [show y 9 = x 9 from funext fun n => f 9 n rfl]
  · exact hd.elim
  · exact hd.elim
  · exact hd.elim
  · exact hd.elim
  · exact hd.elim
  · exact hd.elim
  · rename_i d
    obtain ⟨hk, hd3, hj, -⟩ := hd
    rw [f k (36 + 22 * d + 4 * j) (ow_slot (f := 0) hk hd3 hj (by omega)), f k (37 + 22 * d + 4 * j) (by rw [show 37 + 22 * d + 4 * j = 36 + 22 * d + 4 * j + 1 by omega]; exact ow_slot hk hd3 hj (by omega)), f k (38 + 22 * d + 4 * j) (by rw [show 38 + 22 * d + 4 * j = 36 + 22 * d + 4 * j + 2 by omega]; exact ow_slot hk hd3 hj (by omega)), f k (39 + 22 * d + 4 * j) (by rw [show 39 + 22 * d + 4 * j = 36 + 22 * d + 4 * j + 3 by omega]; exact ow_slot hk hd3 hj (by omega))]
theorem EE_up {cy : Nat → ClassId} {ad : Ads} {x : Mem} {k c j b n : Nat} {v : Int32} (hd : dm k c j) (h : ow b n ≠ (k, c, j)) : EE cy ad (up x b n v) k c j = EE cy ad x k c j :=
  EE_congr hd fun b' n' q => up_ne x v (fun z => h (by rw [← q, z.1, z.2]))
/-- the world -/
def wl (cy : Nat → ClassId) (ad : Ads) (x : Mem) : va_W := idx.map (fun i => (ad i.1 i.2.1 i.2.2, EE cy ad x i.1 i.2.1 i.2.2))
def IJ (ad : Ads) : Prop := ∀ i ∈ idx, ∀ j ∈ idx, ad i.1 i.2.1 i.2.2 = ad j.1 j.2.1 j.2.2 → i = j
def AA (ad : Ads) (sz : Nat) : Nat → Prop := fun q => (∃ i ∈ idx, q = ad i.1 i.2.1 i.2.2) ∨ sz ≤ q
theorem idx_ndp : idx.Nodup := by decide +kernel
theorem wl_at {cy : Nat → ClassId} {ad : Ads} {x : Mem} {q0 : Nat} {q : Nat × va_E} (h : (wl cy ad x)[q0]? = some q) : ∃ i, idx[q0]? = some i ∧ i ∈ idx ∧ q = (ad i.1 i.2.1 i.2.2, EE cy ad x i.1 i.2.1 i.2.2) := by
  unfold wl at h
  rw [List.getElem?_map] at h
  cases hi : idx[q0]? with
  | none => rw [hi] at h; cases h
  | some i => rw [hi] at h; exact ⟨i, rfl, List.mem_of_getElem? hi, (Option.some.inj h).symm⟩
theorem wl_D {cy : Nat → ClassId} {ad : Ads} {x : Mem} {A : Nat → Prop} (hI : IJ ad) (hA : ∀ i ∈ idx, A (ad i.1 i.2.1 i.2.2)) : va_D A (wl cy ad x) := by
  refine ⟨fun a b p q hp hq e => ?_, fun k q hq => ?_⟩
  · obtain ⟨i, h1, h2, rfl⟩ := wl_at hp
    obtain ⟨j, h3, h4, rfl⟩ := wl_at hq
    have hij := hI i h2 j h4 e
    subst hij
    have hl := (List.getElem?_eq_some_iff.mp h1).1
    exact (List.getElem?_inj hl idx_ndp).mp (by rw [h1, h3])
  · obtain ⟨i, h1, h2, rfl⟩ := wl_at hq
    exact hA i h2
theorem wl_get {cy : Nat → ClassId} {ad : Ads} (x : Mem) {k c j : Nat} (h : dm k c j) : ∃ q0 : Nat, (wl cy ad x)[q0]? = some (ad k c j, EE cy ad x k c j) ∧ idx[q0]? = some (k, c, j) := by
  obtain ⟨q0, hq⟩ := List.getElem?_of_mem (dm_mem h)
  exact ⟨q0, by unfold wl; rw [List.getElem?_map, hq]; rfl, hq⟩
theorem wl_set {cy : Nat → ClassId} {ad : Ads} {x y : Mem} {k c j q0 : Nat} (hq : idx[q0]? = some (k, c, j)) (h : ∀ k' c' j', dm k' c' j' → (k', c', j') ≠ (k, c, j) → EE cy ad y k' c' j' = EE cy ad x k' c' j') : (wl cy ad x).set q0 (ad k c j, EE cy ad y k c j) = wl cy ad y := by
  have hl := (List.getElem?_eq_some_iff.mp hq).1
  apply List.ext_getElem?
  intro n
  by_cases hn : n = q0
  · subst hn
    rw [List.getElem?_set_self (by unfold wl; rw [List.length_map]; exact hl)]
    unfold wl
    rw [List.getElem?_map, hq]
    rfl
  · rw [List.getElem?_set_ne (Ne.symm hn)]
    unfold wl
    rw [List.getElem?_map, List.getElem?_map]
    cases hi : idx[n]? with
    | none => rfl
    | some i =>
      obtain ⟨k', c', j'⟩ := i
      have hne : (k', c', j') ≠ (k, c, j) := fun e => hn ((List.getElem?_inj (List.getElem?_eq_some_iff.mp hi).1 idx_ndp).mp (by rw [hi, hq, e]))
      show some (_, _) = some (_, _)
      rw [h k' c' j' (mem_dm (List.mem_of_getElem? hi)) hne]
/-- the words of private methods that a nest mate calls -/
def nestL : List (String × Nat × MethodName × String) := [("RollingFob$Fob", 24, yX8_counterBehind, "RollingFob"), ("RollingFob$Fob", 28, yX8_numberOf, "RollingFob"), ("RollingFob$Slot", 31, yX8_counterBehind, "RollingFob"), ("RollingFob$Slot", 35, yX8_numberOf, "RollingFob")]
def NW (U : State) : Prop := ∀ q ∈ nestL, va_Nw (.methodLinkNest q.1 q.2.1 q.2.2.1 q.2.2.2) U
theorem NW.warm {s U : State} (hW : s.WarmedH U.vm) (h : NW s) : NW U := fun q hq => va_Nw.warmM hW (h q hq)
theorem NW.same {u U : State} (hvm : u.vm = U.vm) (h : NW u) : NW U := fun q hq => va_Nw.same rfl hvm (h q hq)
abbrev tys (cy : Nat → ClassId) : List (ClassId × FieldType) := [(cy 0, .int), (cy 1, .object "RollingFob$Fob"), (cy 2, .object "RollingFob$Door"), (cy 3, .object "RollingFob$Slot"), (cy 4, .object "RollingFob$State")]
/-- what stands throughout a method's walk -/
def CX (p : Program) (s : State) (m : MethodId) (args : Array Value) (meth : Method) (c : Code) (cc : ByteArray) (nL : Nat) (own : String) (ret : Option FieldType) (D : va_G) (cy : Nat → ClassId) (ad : Ads) : Prop :=
  CallFix p m c cc nL s args TB own ∧ meth.sig.returnType = ret ∧ meth.locks = false ∧ va_K D vwCl (tys cy) s ∧ IJ ad ∧ NW s
/-- the judgement: at this place, with these locals and this stack, over any heap that G says, the end is reached -/
def RM (p : Program) (l : Launch) (e : Env) (R : Room) (s : State) (m : MethodId) (args : Array Value) (below : List Frame) (meth : Method) (c : Code) (nL : Nat) (A : Nat → Prop) (G : Heap → Prop) (nc ns : Nat) (Q : State → Prop) (pc : Nat) (ls : List (Nat × Value)) (st : List Value) : Prop :=
  ∀ (H : Heap) (locs : List Loc) (la : Array Slot), G H → va_S A s.heap H locs → lv_has la nL ls → W p l e R s m args below meth c H locs nc ns Q (F0 m pc la st)
abbrev GG (D : va_G) (cy : Nat → ClassId) (ad : Ads) (x : Mem) : Heap → Prop := va_P D vwCl (wl cy ad x)
theorem AA_in {ad : Ads} {sz : Nat} : ∀ i ∈ idx, AA ad sz (ad i.1 i.2.1 i.2.2) := fun i h => Or.inl ⟨i, h, rfl⟩
/-- a contract: an int, or a boolean, is answered -/
def Cti (l : Launch) (y : MethodName) (cc : ByteArray) (nL : Nat) (ret : Option FieldType) (rm : Room) (D : va_G) (cy : Nat → ClassId) (ad : Ads) (As : List Value) (x : Mem) (post : Int32 → Mem → Prop) : Prop :=
  ∀ sz, Met l y (.code y cc nL ret :: TB) rm (va_Pc As (fun U => U.heap.size = sz ∧ va_P D vwCl (wl cy ad x) U.heap ∧ va_K D vwCl (tys cy) U ∧ NW U)) (va_Qi post (fun z t => va_P D vwCl (wl cy ad z) t.heap) (AA ad sz)) 0 0 (AA ad sz)
def Ctv (l : Launch) (y : MethodName) (cc : ByteArray) (nL : Nat) (ret : Option FieldType) (rm : Room) (D : va_G) (cy : Nat → ClassId) (ad : Ads) (As : List Value) (x : Mem) (post : Mem → Prop) : Prop :=
  ∀ sz, Met l y (.code y cc nL ret :: TB) rm (va_Pc As (fun U => U.heap.size = sz ∧ va_P D vwCl (wl cy ad x) U.heap ∧ va_K D vwCl (tys cy) U ∧ NW U)) (va_Qv post (fun z t => va_P D vwCl (wl cy ad z) t.heap) (AA ad sz)) 0 0 (AA ad sz)
def Ctl (l : Launch) (y : MethodName) (cc : ByteArray) (nL : Nat) (ret : Option FieldType) (rm : Room) (D : va_G) (cy : Nat → ClassId) (ad : Ads) (As : List Value) (x : Mem) (post : Int64 → Mem → Prop) : Prop :=
  ∀ sz, Met l y (.code y cc nL ret :: TB) rm (va_Pc As (fun U => U.heap.size = sz ∧ va_P D vwCl (wl cy ad x) U.heap ∧ va_K D vwCl (tys cy) U ∧ NW U)) (va_Ql post (fun z t => va_P D vwCl (wl cy ad z) t.heap) (AA ad sz)) 0 0 (AA ad sz)
def Ctd (l : Launch) (y : MethodName) (cc : ByteArray) (nL : Nat) (ret : Option FieldType) (rm : Room) (D : va_G) (cy : Nat → ClassId) (ad : Ads) (As : List Value) (x : Mem) (post : UInt64 → Mem → Prop) : Prop :=
  ∀ sz, Met l y (.code y cc nL ret :: TB) rm (va_Pc As (fun U => U.heap.size = sz ∧ va_P D vwCl (wl cy ad x) U.heap ∧ va_K D vwCl (tys cy) U ∧ NW U)) (va_Qd post (fun z t => va_P D vwCl (wl cy ad z) t.heap) (AA ad sz)) 0 0 (AA ad sz)
/-- what a walk ends in -/
def QQ (Qc : (Nat → Prop) → Array Value → State → Outcome → State → Prop) (below : List Frame) (args : Array Value) (s : State) (ad : Ads) : State → Prop := MQ below (Qc (AA ad s.heap.size)) args s 0 0 (AA ad s.heap.size)
abbrev Qi (D : va_G) (cy : Nat → ClassId) (ad : Ads) (post : Int32 → Mem → Prop) : (Nat → Prop) → Array Value → State → Outcome → State → Prop := va_Qi post (fun z t => va_P D vwCl (wl cy ad z) t.heap)
abbrev Qv (D : va_G) (cy : Nat → ClassId) (ad : Ads) (post : Mem → Prop) : (Nat → Prop) → Array Value → State → Outcome → State → Prop := va_Qv post (fun z t => va_P D vwCl (wl cy ad z) t.heap)
abbrev Ql (D : va_G) (cy : Nat → ClassId) (ad : Ads) (post : Int64 → Mem → Prop) : (Nat → Prop) → Array Value → State → Outcome → State → Prop := va_Ql post (fun z t => va_P D vwCl (wl cy ad z) t.heap)
abbrev Qd (D : va_G) (cy : Nat → ClassId) (ad : Ads) (post : UInt64 → Mem → Prop) : (Nat → Prop) → Array Value → State → Outcome → State → Prop := va_Qd post (fun z t => va_P D vwCl (wl cy ad z) t.heap)
theorem rm_entry {l : Launch} {y : MethodName} {cc : ByteArray} {nL : Nat} {ret : Option FieldType} {rm : Room} {D : va_G} {cy : Nat → ClassId} {ad : Ads} {As : List Value} {x : Mem} {Qc : (Nat → Prop) → Array Value → State → Outcome → State → Prop} (hI : IJ ad) (hy : plainName y.cls = true) (hl : (lg_sl As).length ≤ nL)
    (body : ∀ p e s m args below meth c, CX p s m args meth c cc nL y.cls ret D cy ad → RM p l e rm s m args below meth c nL (AA ad s.heap.size) (GG D cy ad x) 0 0 (QQ Qc below args s ad) 0 (lv_args 0 As) []) (sz : Nat) :
    Met l y (.code y cc nL ret :: TB) rm (va_Pc As (fun U => U.heap.size = sz ∧ va_P D vwCl (wl cy ad x) U.heap ∧ va_K D vwCl (tys cy) U ∧ NW U)) (Qc (AA ad sz)) 0 0 (AA ad sz) := by
  refine Met.ofW (cc := cc) (maxL := nL) (ret := ret) hy rfl ?_
  intro p e s m args below meth c s₁ B hml hv
  obtain ⟨rfl, hsz, hP, hK, hN⟩ := hv
  subst hsz
  have hts := atoms_spec (ws := .code y cc nL ret :: TB) B.pre
  have hc : CX p s m As.toArray meth c cc nL y.cls ret D cy ad := ⟨⟨B.exec, B.bytes, hml, findClass_of_methodNamed B.named, fun w h => hts w (List.mem_cons_of_mem _ h)⟩, B.returns, B.notSynchronized, hK, hI, hN⟩
  have h := body p e s m As.toArray below meth c hc
  rw [lg_entry_eq]
  exact h s.heap [] _ hP va_S.rf (lv_entry As hl)
end
section
section ROWS
variable {p : Program} {l : Launch} {e : Env} {R : Room} {s : State} {m : MethodId} {args : Array Value} {below : List Frame} {meth : Method} {c : Code} {cc : ByteArray} {nL : Nat} {own : String} {ret : Option FieldType} {D : va_G} {cy : Nat → ClassId} {ad : Ads} {A : Nat → Prop} {G : Heap → Prop} {nc ns : Nat} {Q : State → Prop} {x : Mem} {pc : Nat} {ls : List (Nat × Value)} {st : List Value}
def lk : List (Nat × Value) → Nat → Option Value
  | [], _ => none
  | q :: t, i => cond (Nat.beq q.1 i) (some q.2) (lk t i)
theorem lk_mem : ∀ {ls : List (Nat × Value)} {i : Nat} {v : Value}, lk ls i = some v → (i, v) ∈ ls
  | [], _, _, h => by cases h
  | q :: t, i, v, h => by
    unfold lk at h
    cases hb : Nat.beq q.1 i with
    | true =>
      rw [hb] at h
      have h1 : q.2 = v := Option.some.inj h
      have h2 : q.1 = i := Nat.eq_of_beq_eq_true hb
      rw [← h1, ← h2]
      exact List.mem_cons_self
    | false =>
      rw [hb] at h
      exact List.mem_cons_of_mem _ (lk_mem h)
theorem lk_at {la : Array Slot} {n i : Nat} {ls : List (Nat × Value)} {v : Value} (h : lv_has la n ls) (hk : lk ls i = some v) : la[i]? = some (.val v) := h.2.2 (i, v) (lk_mem hk)
def ins (i : Nat) (v : Value) : List (Nat × Value) → List (Nat × Value)
  | [] => [(i, v)]
  | q :: t => cond (Nat.blt i q.1) ((i, v) :: q :: t) (q :: ins i v t)
theorem ins_mem {i : Nat} {v : Value} : ∀ {ls : List (Nat × Value)} {q : Nat × Value}, q ∈ ins i v ls → q ∈ (i, v) :: ls
  | [], _, h => h
  | a :: t, q, h => by
    unfold ins at h
    cases hb : Nat.blt i a.1 with
    | true => rw [hb] at h; exact h
    | false =>
      rw [hb] at h
      rcases List.mem_cons.mp h with h1 | h1
      · rw [h1]; exact List.mem_cons_of_mem _ List.mem_cons_self
      · rcases List.mem_cons.mp (ins_mem h1) with h2 | h2
        · rw [h2]; exact List.mem_cons_self
        · exact List.mem_cons_of_mem _ (List.mem_cons_of_mem _ h2)
theorem has_mono {la : Array Slot} {n : Nat} {ls ls' : List (Nat × Value)} (h : lv_has la n ls) (hs : ∀ q ∈ ls', q ∈ ls) : lv_has la n ls' := ⟨h.1, h.2.1, fun q hq => h.2.2 q (hs q hq)⟩
def l1 (i : Nat) (v : Value) (ls : List (Nat × Value)) : List (Nat × Value) := ins i v (ls.filter (fun q => !(q.1 == i) && !(q.1 + 1 == i && q.2.category == 2)))
def l2 (i : Nat) (v : Value) (ls : List (Nat × Value)) : List (Nat × Value) := ins i v (ls.filter (fun q => !(q.1 == i) && (!(q.1 == i + 1) && !(q.1 + 1 == i && q.2.category == 2))))
/-- a part of the locals: by their places -/
def pk (ls : List (Nat × Value)) (ks : List Nat) : List (Nat × Value) := ks.filterMap (fun k => (lk ls k).map (fun v => (k, v)))
theorem pk_mem {ls : List (Nat × Value)} {ks : List Nat} {q : Nat × Value} (h : q ∈ pk ls ks) : q ∈ ls := by
  obtain ⟨k, -, hk⟩ := List.mem_filterMap.mp h
  cases hl : lk ls k with
  | none => rw [hl] at hk; cases hk
  | some v => rw [hl] at hk; cases hk; exact lk_mem hl
theorem rm_iconst (hc : CX p s m args meth c cc nL own ret D cy ad) {n : Int} {v : Int32} (hd : decode cc pc = .ok (.iconst n, 1)) (hv : Int32.ofInt n = v) (kk : RM p l e R s m args below meth c nL A G nc ns Q (pc + 1) ls (.int v :: st)) : RM p l e R s m args below meth c nL A G nc ns Q pc ls st :=
  fun H locs la hP hS hl => lv_iconst hc.1.1 hc.1.2.1 hd hv (kk H locs la hP hS hl)
theorem rm_bipush (hc : CX p s m args meth c cc nL own ret D cy ad) {n : Int} {v : Int32} (hd : decode cc pc = .ok (.bipush n, 2)) (hv : (Int8.ofInt n).toInt32 = v) (kk : RM p l e R s m args below meth c nL A G nc ns Q (pc + 2) ls (.int v :: st)) : RM p l e R s m args below meth c nL A G nc ns Q pc ls st :=
  fun H locs la hP hS hl => lv_bipush hc.1.1 hc.1.2.1 hd hv (kk H locs la hP hS hl)
theorem rm_sipush (hc : CX p s m args meth c cc nL own ret D cy ad) {n : Int} {v : Int32} (hd : decode cc pc = .ok (.sipush n, 3)) (hv : (Int16.ofInt n).toInt32 = v) (kk : RM p l e R s m args below meth c nL A G nc ns Q (pc + 3) ls (.int v :: st)) : RM p l e R s m args below meth c nL A G nc ns Q pc ls st :=
  fun H locs la hP hS hl => lv_sipush hc.1.1 hc.1.2.1 hd hv (kk H locs la hP hS hl)
theorem rm_lconst (hc : CX p s m args meth c cc nL own ret D cy ad) {n : Fin 2} {v : Int64} (hd : decode cc pc = .ok (.lconst n, 1)) (hv : Int64.ofNat (n : Nat) = v) (kk : RM p l e R s m args below meth c nL A G nc ns Q (pc + 1) ls (.long v :: st)) : RM p l e R s m args below meth c nL A G nc ns Q pc ls st :=
  fun H locs la hP hS hl => lv_lconst hc.1.1 hc.1.2.1 hd hv (kk H locs la hP hS hl)
theorem rm_dconst0 (hc : CX p s m args meth c cc nL own ret D cy ad) (hd : decode cc pc = .ok (.dconst 0, 1)) (kk : RM p l e R s m args below meth c nL A G nc ns Q (pc + 1) ls (.double FP.dconst0 :: st)) : RM p l e R s m args below meth c nL A G nc ns Q pc ls st :=
  fun H locs la hP hS hl => lv_dconst0 hc.1.1 hc.1.2.1 hd (kk H locs la hP hS hl)
theorem rm_dconst1 (hc : CX p s m args meth c cc nL own ret D cy ad) (hd : decode cc pc = .ok (.dconst 1, 1)) (kk : RM p l e R s m args below meth c nL A G nc ns Q (pc + 1) ls (.double FP.dconst1 :: st)) : RM p l e R s m args below meth c nL A G nc ns Q pc ls st :=
  fun H locs la hP hS hl => lv_dconst1 hc.1.1 hc.1.2.1 hd (kk H locs la hP hS hl)
theorem rm_ldc (hc : CX p s m args meth c cc nL own ret D cy ad) {i : Nat} {v : Int32} (hd : decode cc pc = .ok (.ldc i, 2)) (hk : Cond.constant own i v ∈ TB) (kk : RM p l e R s m args below meth c nL A G nc ns Q (pc + 2) ls (.int v :: st)) : RM p l e R s m args below meth c nL A G nc ns Q pc ls st :=
  fun H locs la hP hS hl => lv_ldc hc.1.1 hc.1.2.1 hc.1.2.2.2.1 (hc.1.2.2.2.2 _ hk) hd (kk H locs la hP hS hl)
theorem rm_ldc2 (hc : CX p s m args meth c cc nL own ret D cy ad) {i : Nat} {v : Int64} (hd : decode cc pc = .ok (.ldc2_w i, 3)) (hk : Cond.constantLong own i v ∈ TB) (kk : RM p l e R s m args below meth c nL A G nc ns Q (pc + 3) ls (.long v :: st)) : RM p l e R s m args below meth c nL A G nc ns Q pc ls st :=
  fun H locs la hP hS hl => lv_ldc2 hc.1.1 hc.1.2.1 hc.1.2.2.2.1 (hc.1.2.2.2.2 _ hk) hd (kk H locs la hP hS hl)
theorem rm_ldc2d (hc : CX p s m args meth c cc nL own ret D cy ad) {i : Nat} {v : UInt64} (hd : decode cc pc = .ok (.ldc2_w i, 3)) (hk : Cond.constantDouble own i v ∈ TB) (kk : RM p l e R s m args below meth c nL A G nc ns Q (pc + 3) ls (.double v :: st)) : RM p l e R s m args below meth c nL A G nc ns Q pc ls st :=
  fun H locs la hP hS hl => lv_ldc2d hc.1.1 hc.1.2.1 hc.1.2.2.2.1 (hc.1.2.2.2.2 _ hk) hd (kk H locs la hP hS hl)
theorem rm_iload_n (hc : CX p s m args meth c cc nL own ret D cy ad) {k : Fin 4} {i : Nat} {v : Int32} (hd : decode cc pc = .ok (.iload_n k, 1)) (hi : (k : Nat) = i) (hk : lk ls i = some (.int v)) (kk : RM p l e R s m args below meth c nL A G nc ns Q (pc + 1) ls (.int v :: st)) : RM p l e R s m args below meth c nL A G nc ns Q pc ls st :=
  fun H locs la hP hS hl => lv_iload_n hc.1.1 hc.1.2.1 hd hi (lk_at hl hk) (kk H locs la hP hS hl)
theorem rm_iload (hc : CX p s m args meth c cc nL own ret D cy ad) {i : Nat} {v : Int32} (hd : decode cc pc = .ok (.iload i, 2)) (hk : lk ls i = some (.int v)) (kk : RM p l e R s m args below meth c nL A G nc ns Q (pc + 2) ls (.int v :: st)) : RM p l e R s m args below meth c nL A G nc ns Q pc ls st :=
  fun H locs la hP hS hl => lv_iload hc.1.1 hc.1.2.1 hd (lk_at hl hk) (kk H locs la hP hS hl)
theorem rm_lload_n (hc : CX p s m args meth c cc nL own ret D cy ad) {k : Fin 4} {i : Nat} {v : Int64} (hd : decode cc pc = .ok (.lload_n k, 1)) (hi : (k : Nat) = i) (hk : lk ls i = some (.long v)) (kk : RM p l e R s m args below meth c nL A G nc ns Q (pc + 1) ls (.long v :: st)) : RM p l e R s m args below meth c nL A G nc ns Q pc ls st :=
  fun H locs la hP hS hl => lv_lload_n hc.1.1 hc.1.2.1 hd hi (lk_at hl hk) (kk H locs la hP hS hl)
theorem rm_lload (hc : CX p s m args meth c cc nL own ret D cy ad) {i : Nat} {v : Int64} (hd : decode cc pc = .ok (.lload i, 2)) (hk : lk ls i = some (.long v)) (kk : RM p l e R s m args below meth c nL A G nc ns Q (pc + 2) ls (.long v :: st)) : RM p l e R s m args below meth c nL A G nc ns Q pc ls st :=
  fun H locs la hP hS hl => lv_lload hc.1.1 hc.1.2.1 hd (lk_at hl hk) (kk H locs la hP hS hl)
theorem rm_dload_n (hc : CX p s m args meth c cc nL own ret D cy ad) {k : Fin 4} {i : Nat} {v : UInt64} (hd : decode cc pc = .ok (.dload_n k, 1)) (hi : (k : Nat) = i) (hk : lk ls i = some (.double v)) (kk : RM p l e R s m args below meth c nL A G nc ns Q (pc + 1) ls (.double v :: st)) : RM p l e R s m args below meth c nL A G nc ns Q pc ls st :=
  fun H locs la hP hS hl => lv_dload_n hc.1.1 hc.1.2.1 hd hi (lk_at hl hk) (kk H locs la hP hS hl)
theorem rm_dload (hc : CX p s m args meth c cc nL own ret D cy ad) {i : Nat} {v : UInt64} (hd : decode cc pc = .ok (.dload i, 2)) (hk : lk ls i = some (.double v)) (kk : RM p l e R s m args below meth c nL A G nc ns Q (pc + 2) ls (.double v :: st)) : RM p l e R s m args below meth c nL A G nc ns Q pc ls st :=
  fun H locs la hP hS hl => lv_dload hc.1.1 hc.1.2.1 hd (lk_at hl hk) (kk H locs la hP hS hl)
theorem rm_aload_n (hc : CX p s m args meth c cc nL own ret D cy ad) {k : Fin 4} {i : Nat} {v : Nat} (hd : decode cc pc = .ok (.aload_n k, 1)) (hi : (k : Nat) = i) (hk : lk ls i = some (.ref v)) (kk : RM p l e R s m args below meth c nL A G nc ns Q (pc + 1) ls (.ref v :: st)) : RM p l e R s m args below meth c nL A G nc ns Q pc ls st :=
  fun H locs la hP hS hl => lv_aload_n hc.1.1 hc.1.2.1 hd hi (lk_at hl hk) (kk H locs la hP hS hl)
theorem rm_aload (hc : CX p s m args meth c cc nL own ret D cy ad) {i : Nat} {v : Nat} (hd : decode cc pc = .ok (.aload i, 2)) (hk : lk ls i = some (.ref v)) (kk : RM p l e R s m args below meth c nL A G nc ns Q (pc + 2) ls (.ref v :: st)) : RM p l e R s m args below meth c nL A G nc ns Q pc ls st :=
  fun H locs la hP hS hl => lv_aload hc.1.1 hc.1.2.1 hd (lk_at hl hk) (kk H locs la hP hS hl)
theorem rm_istore_n (hc : CX p s m args meth c cc nL own ret D cy ad) {k : Fin 4} {i : Nat} {v : Int32} {ls' : List (Nat × Value)} (hd : decode cc pc = .ok (.istore_n k, 1)) (hi : (k : Nat) = i) (hn : i < nL) (hl' : l1 i (.int v) ls = ls') (kk : RM p l e R s m args below meth c nL A G nc ns Q (pc + 1) ls' st) : RM p l e R s m args below meth c nL A G nc ns Q pc ls (.int v :: st) :=
  fun H locs la hP hS hl => lv_istore_n hc.1.1 hc.1.2.1 hd hi hl hn rfl (fun la' h' => kk H locs la' hP hS (has_mono h' (fun q hq => by rw [← hl'] at hq; exact ins_mem hq)))
theorem rm_istore (hc : CX p s m args meth c cc nL own ret D cy ad) {i : Nat} {v : Int32} {ls' : List (Nat × Value)} (hd : decode cc pc = .ok (.istore i, 2)) (hn : i < nL) (hl' : l1 i (.int v) ls = ls') (kk : RM p l e R s m args below meth c nL A G nc ns Q (pc + 2) ls' st) : RM p l e R s m args below meth c nL A G nc ns Q pc ls (.int v :: st) :=
  fun H locs la hP hS hl => lv_istore hc.1.1 hc.1.2.1 hd hl hn rfl (fun la' h' => kk H locs la' hP hS (has_mono h' (fun q hq => by rw [← hl'] at hq; exact ins_mem hq)))
theorem rm_lstore_n (hc : CX p s m args meth c cc nL own ret D cy ad) {k : Fin 4} {i : Nat} {v : Int64} {ls' : List (Nat × Value)} (hd : decode cc pc = .ok (.lstore_n k, 1)) (hi : (k : Nat) = i) (hn : i + 1 < nL) (hl' : l2 i (.long v) ls = ls') (kk : RM p l e R s m args below meth c nL A G nc ns Q (pc + 1) ls' st) : RM p l e R s m args below meth c nL A G nc ns Q pc ls (.long v :: st) :=
  fun H locs la hP hS hl => lv_lstore_n hc.1.1 hc.1.2.1 hd hi hl hn rfl (fun la' h' => kk H locs la' hP hS (has_mono h' (fun q hq => by rw [← hl'] at hq; exact ins_mem hq)))
theorem rm_lstore (hc : CX p s m args meth c cc nL own ret D cy ad) {i : Nat} {v : Int64} {ls' : List (Nat × Value)} (hd : decode cc pc = .ok (.lstore i, 2)) (hn : i + 1 < nL) (hl' : l2 i (.long v) ls = ls') (kk : RM p l e R s m args below meth c nL A G nc ns Q (pc + 2) ls' st) : RM p l e R s m args below meth c nL A G nc ns Q pc ls (.long v :: st) :=
  fun H locs la hP hS hl => lv_lstore hc.1.1 hc.1.2.1 hd hl hn rfl (fun la' h' => kk H locs la' hP hS (has_mono h' (fun q hq => by rw [← hl'] at hq; exact ins_mem hq)))
theorem rm_dstore_n (hc : CX p s m args meth c cc nL own ret D cy ad) {k : Fin 4} {i : Nat} {v : UInt64} {ls' : List (Nat × Value)} (hd : decode cc pc = .ok (.dstore_n k, 1)) (hi : (k : Nat) = i) (hn : i + 1 < nL) (hl' : l2 i (.double v) ls = ls') (kk : RM p l e R s m args below meth c nL A G nc ns Q (pc + 1) ls' st) : RM p l e R s m args below meth c nL A G nc ns Q pc ls (.double v :: st) :=
  fun H locs la hP hS hl => lv_dstore_n hc.1.1 hc.1.2.1 hd hi hl hn rfl (fun la' h' => kk H locs la' hP hS (has_mono h' (fun q hq => by rw [← hl'] at hq; exact ins_mem hq)))
theorem rm_dstore (hc : CX p s m args meth c cc nL own ret D cy ad) {i : Nat} {v : UInt64} {ls' : List (Nat × Value)} (hd : decode cc pc = .ok (.dstore i, 2)) (hn : i + 1 < nL) (hl' : l2 i (.double v) ls = ls') (kk : RM p l e R s m args below meth c nL A G nc ns Q (pc + 2) ls' st) : RM p l e R s m args below meth c nL A G nc ns Q pc ls (.double v :: st) :=
  fun H locs la hP hS hl => lv_dstore hc.1.1 hc.1.2.1 hd hl hn rfl (fun la' h' => kk H locs la' hP hS (has_mono h' (fun q hq => by rw [← hl'] at hq; exact ins_mem hq)))
theorem rm_astore_n (hc : CX p s m args meth c cc nL own ret D cy ad) {k : Fin 4} {i : Nat} {v : Nat} {ls' : List (Nat × Value)} (hd : decode cc pc = .ok (.astore_n k, 1)) (hi : (k : Nat) = i) (hn : i < nL) (hl' : l1 i (.ref v) ls = ls') (kk : RM p l e R s m args below meth c nL A G nc ns Q (pc + 1) ls' st) : RM p l e R s m args below meth c nL A G nc ns Q pc ls (.ref v :: st) :=
  fun H locs la hP hS hl => lv_astore_n hc.1.1 hc.1.2.1 hd hi hl hn rfl (fun la' h' => kk H locs la' hP hS (has_mono h' (fun q hq => by rw [← hl'] at hq; exact ins_mem hq)))
theorem rm_astore (hc : CX p s m args meth c cc nL own ret D cy ad) {i : Nat} {v : Nat} {ls' : List (Nat × Value)} (hd : decode cc pc = .ok (.astore i, 2)) (hn : i < nL) (hl' : l1 i (.ref v) ls = ls') (kk : RM p l e R s m args below meth c nL A G nc ns Q (pc + 2) ls' st) : RM p l e R s m args below meth c nL A G nc ns Q pc ls (.ref v :: st) :=
  fun H locs la hP hS hl => lv_astore hc.1.1 hc.1.2.1 hd hl hn rfl (fun la' h' => kk H locs la' hP hS (has_mono h' (fun q hq => by rw [← hl'] at hq; exact ins_mem hq)))
theorem rm_iinc (hc : CX p s m args meth c cc nL own ret D cy ad) {i : Nat} {n : Int} {a v : Int32} {ls' : List (Nat × Value)} (hd : decode cc pc = .ok (.iinc i n, 3)) (hk : lk ls i = some (.int a)) (hv : a + Int32.ofInt n = v) (hn : i < nL) (hl' : l1 i (.int v) ls = ls') (kk : RM p l e R s m args below meth c nL A G nc ns Q (pc + 3) ls' st) : RM p l e R s m args below meth c nL A G nc ns Q pc ls st := by
  intro H locs la hP hS hl
  obtain ⟨k0, hk0⟩ := List.getElem?_of_mem (lk_mem hk)
  exact lv_iinc hc.1.1 hc.1.2.1 hd hl hk0 hv hn rfl (fun la' h' => kk H locs la' hP hS (has_mono h' (fun q hq => by rw [← hl'] at hq; exact ins_mem hq)))
theorem rm_iadd (hc : CX p s m args meth c cc nL own ret D cy ad) {a b : Int32} (hd : decode cc pc = .ok (.iadd, 1)) (kk : ∀ v : Int32, v = a + b → RM p l e R s m args below meth c nL A G nc ns Q (pc + 1) ls (.int v :: st)) : RM p l e R s m args below meth c nL A G nc ns Q pc ls (.int b :: .int a :: st) :=
  fun H locs la hP hS hl => lv_iadd hc.1.1 hc.1.2.1 hd (kk _ rfl H locs la hP hS hl)
theorem rm_isub (hc : CX p s m args meth c cc nL own ret D cy ad) {a b : Int32} (hd : decode cc pc = .ok (.isub, 1)) (kk : ∀ v : Int32, v = a - b → RM p l e R s m args below meth c nL A G nc ns Q (pc + 1) ls (.int v :: st)) : RM p l e R s m args below meth c nL A G nc ns Q pc ls (.int b :: .int a :: st) :=
  fun H locs la hP hS hl => lv_isub hc.1.1 hc.1.2.1 hd (kk _ rfl H locs la hP hS hl)
theorem rm_imul (hc : CX p s m args meth c cc nL own ret D cy ad) {a b : Int32} (hd : decode cc pc = .ok (.imul, 1)) (kk : ∀ v : Int32, v = a * b → RM p l e R s m args below meth c nL A G nc ns Q (pc + 1) ls (.int v :: st)) : RM p l e R s m args below meth c nL A G nc ns Q pc ls (.int b :: .int a :: st) :=
  fun H locs la hP hS hl => lv_imul hc.1.1 hc.1.2.1 hd (kk _ rfl H locs la hP hS hl)
theorem rm_iand (hc : CX p s m args meth c cc nL own ret D cy ad) {a b : Int32} (hd : decode cc pc = .ok (.iand, 1)) (kk : ∀ v : Int32, v = a &&& b → RM p l e R s m args below meth c nL A G nc ns Q (pc + 1) ls (.int v :: st)) : RM p l e R s m args below meth c nL A G nc ns Q pc ls (.int b :: .int a :: st) :=
  fun H locs la hP hS hl => lv_iand hc.1.1 hc.1.2.1 hd (kk _ rfl H locs la hP hS hl)
theorem rm_ior (hc : CX p s m args meth c cc nL own ret D cy ad) {a b : Int32} (hd : decode cc pc = .ok (.ior, 1)) (kk : ∀ v : Int32, v = a ||| b → RM p l e R s m args below meth c nL A G nc ns Q (pc + 1) ls (.int v :: st)) : RM p l e R s m args below meth c nL A G nc ns Q pc ls (.int b :: .int a :: st) :=
  fun H locs la hP hS hl => lv_ior hc.1.1 hc.1.2.1 hd (kk _ rfl H locs la hP hS hl)
theorem rm_ixor (hc : CX p s m args meth c cc nL own ret D cy ad) {a b : Int32} (hd : decode cc pc = .ok (.ixor, 1)) (kk : ∀ v : Int32, v = a ^^^ b → RM p l e R s m args below meth c nL A G nc ns Q (pc + 1) ls (.int v :: st)) : RM p l e R s m args below meth c nL A G nc ns Q pc ls (.int b :: .int a :: st) :=
  fun H locs la hP hS hl => lv_ixor hc.1.1 hc.1.2.1 hd (kk _ rfl H locs la hP hS hl)
theorem rm_ishl (hc : CX p s m args meth c cc nL own ret D cy ad) {a b : Int32} (hd : decode cc pc = .ok (.ishl, 1)) (kk : ∀ v : Int32, v = a <<< (b &&& 31) → RM p l e R s m args below meth c nL A G nc ns Q (pc + 1) ls (.int v :: st)) : RM p l e R s m args below meth c nL A G nc ns Q pc ls (.int b :: .int a :: st) :=
  fun H locs la hP hS hl => lv_ishl hc.1.1 hc.1.2.1 hd (kk _ rfl H locs la hP hS hl)
theorem rm_ishr (hc : CX p s m args meth c cc nL own ret D cy ad) {a b : Int32} (hd : decode cc pc = .ok (.ishr, 1)) (kk : ∀ v : Int32, v = a >>> (b &&& 31) → RM p l e R s m args below meth c nL A G nc ns Q (pc + 1) ls (.int v :: st)) : RM p l e R s m args below meth c nL A G nc ns Q pc ls (.int b :: .int a :: st) :=
  fun H locs la hP hS hl => lv_ishr hc.1.1 hc.1.2.1 hd (kk _ rfl H locs la hP hS hl)
theorem rm_idiv (hc : CX p s m args meth c cc nL own ret D cy ad) {a b : Int32} (hd : decode cc pc = .ok (.idiv, 1)) (hne : ¬ b = 0) (kk : ∀ v : Int32, v = a / b → RM p l e R s m args below meth c nL A G nc ns Q (pc + 1) ls (.int v :: st)) : RM p l e R s m args below meth c nL A G nc ns Q pc ls (.int b :: .int a :: st) :=
  fun H locs la hP hS hl => lv_idiv hc.1.1 hc.1.2.1 hd hne (kk _ rfl H locs la hP hS hl)
theorem rm_irem (hc : CX p s m args meth c cc nL own ret D cy ad) {a b : Int32} (hd : decode cc pc = .ok (.irem, 1)) (hne : ¬ b = 0) (kk : ∀ v : Int32, v = a - a / b * b → RM p l e R s m args below meth c nL A G nc ns Q (pc + 1) ls (.int v :: st)) : RM p l e R s m args below meth c nL A G nc ns Q pc ls (.int b :: .int a :: st) :=
  fun H locs la hP hS hl => lv_irem hc.1.1 hc.1.2.1 hd hne (kk _ rfl H locs la hP hS hl)
theorem rm_ladd (hc : CX p s m args meth c cc nL own ret D cy ad) {a b : Int64} (hd : decode cc pc = .ok (.ladd, 1)) (kk : ∀ v : Int64, v = a + b → RM p l e R s m args below meth c nL A G nc ns Q (pc + 1) ls (.long v :: st)) : RM p l e R s m args below meth c nL A G nc ns Q pc ls (.long b :: .long a :: st) :=
  fun H locs la hP hS hl => lv_ladd hc.1.1 hc.1.2.1 hd (kk _ rfl H locs la hP hS hl)
theorem rm_lsub (hc : CX p s m args meth c cc nL own ret D cy ad) {a b : Int64} (hd : decode cc pc = .ok (.lsub, 1)) (kk : ∀ v : Int64, v = a - b → RM p l e R s m args below meth c nL A G nc ns Q (pc + 1) ls (.long v :: st)) : RM p l e R s m args below meth c nL A G nc ns Q pc ls (.long b :: .long a :: st) :=
  fun H locs la hP hS hl => lv_lsub hc.1.1 hc.1.2.1 hd (kk _ rfl H locs la hP hS hl)
theorem rm_lmul (hc : CX p s m args meth c cc nL own ret D cy ad) {a b : Int64} (hd : decode cc pc = .ok (.lmul, 1)) (kk : ∀ v : Int64, v = a * b → RM p l e R s m args below meth c nL A G nc ns Q (pc + 1) ls (.long v :: st)) : RM p l e R s m args below meth c nL A G nc ns Q pc ls (.long b :: .long a :: st) :=
  fun H locs la hP hS hl => lv_lmul hc.1.1 hc.1.2.1 hd (kk _ rfl H locs la hP hS hl)
theorem rm_lshl (hc : CX p s m args meth c cc nL own ret D cy ad) {a : Int64} {b : Int32} (hd : decode cc pc = .ok (.lshl, 1)) (kk : ∀ v : Int64, v = a <<< (b.toInt64 &&& 63) → RM p l e R s m args below meth c nL A G nc ns Q (pc + 1) ls (.long v :: st)) : RM p l e R s m args below meth c nL A G nc ns Q pc ls (.int b :: .long a :: st) :=
  fun H locs la hP hS hl => lv_lshl hc.1.1 hc.1.2.1 hd rfl (kk _ rfl H locs la hP hS hl)
theorem rm_i2l (hc : CX p s m args meth c cc nL own ret D cy ad) {a : Int32} (hd : decode cc pc = .ok (.i2l, 1)) (kk : ∀ v : Int64, v = a.toInt64 → RM p l e R s m args below meth c nL A G nc ns Q (pc + 1) ls (.long v :: st)) : RM p l e R s m args below meth c nL A G nc ns Q pc ls (.int a :: st) :=
  fun H locs la hP hS hl => lv_i2l hc.1.1 hc.1.2.1 hd rfl (kk _ rfl H locs la hP hS hl)
theorem rm_i2d (hc : CX p s m args meth c cc nL own ret D cy ad) {a : Int32} (hd : decode cc pc = .ok (.i2d, 1)) (kk : ∀ v : UInt64, v = FP.i2d a → RM p l e R s m args below meth c nL A G nc ns Q (pc + 1) ls (.double v :: st)) : RM p l e R s m args below meth c nL A G nc ns Q pc ls (.int a :: st) :=
  fun H locs la hP hS hl => lv_i2d hc.1.1 hc.1.2.1 hd (kk _ rfl H locs la hP hS hl)
theorem rm_d2l (hc : CX p s m args meth c cc nL own ret D cy ad) {a : UInt64} (hd : decode cc pc = .ok (.d2l, 1)) (kk : ∀ v : Int64, v = FP.d2l a → RM p l e R s m args below meth c nL A G nc ns Q (pc + 1) ls (.long v :: st)) : RM p l e R s m args below meth c nL A G nc ns Q pc ls (.double a :: st) :=
  fun H locs la hP hS hl => lv_d2l hc.1.1 hc.1.2.1 hd (kk _ rfl H locs la hP hS hl)
theorem rm_ddiv (hc : CX p s m args meth c cc nL own ret D cy ad) {a b : UInt64} (hd : decode cc pc = .ok (.ddiv, 1)) (hne : vf_n64 (FP.ddiv a b)) (kk : ∀ v : UInt64, v = FP.ddiv a b → RM p l e R s m args below meth c nL A G nc ns Q (pc + 1) ls (.double v :: st)) : RM p l e R s m args below meth c nL A G nc ns Q pc ls (.double b :: .double a :: st) :=
  fun H locs la hP hS hl => lv_ddiv hc.1.1 hc.1.2.1 hd hne (kk _ rfl H locs la hP hS hl)
theorem rm_dmul (hc : CX p s m args meth c cc nL own ret D cy ad) {a b : UInt64} (hd : decode cc pc = .ok (.dmul, 1)) (hne : vf_n64 (FP.dmul a b)) (kk : ∀ v : UInt64, v = FP.dmul a b → RM p l e R s m args below meth c nL A G nc ns Q (pc + 1) ls (.double v :: st)) : RM p l e R s m args below meth c nL A G nc ns Q pc ls (.double b :: .double a :: st) :=
  fun H locs la hP hS hl => lv_dmul hc.1.1 hc.1.2.1 hd hne (kk _ rfl H locs la hP hS hl)
theorem rm_dsub (hc : CX p s m args meth c cc nL own ret D cy ad) {a b : UInt64} (hd : decode cc pc = .ok (.dsub, 1)) (hne : vf_n64 (FP.dsub a b)) (kk : ∀ v : UInt64, v = FP.dsub a b → RM p l e R s m args below meth c nL A G nc ns Q (pc + 1) ls (.double v :: st)) : RM p l e R s m args below meth c nL A G nc ns Q pc ls (.double b :: .double a :: st) :=
  fun H locs la hP hS hl => lv_dsub hc.1.1 hc.1.2.1 hd hne (kk _ rfl H locs la hP hS hl)
theorem rm_dcmp (hc : CX p s m args meth c cc nL own ret D cy ad) {a b : UInt64} {op : CmpOp} (hd : decode cc pc = .ok (.dcmp op, 1)) (kk : ∀ v : Int32, v = Op.cmpValue (FP.dcmp a b) op → RM p l e R s m args below meth c nL A G nc ns Q (pc + 1) ls (.int v :: st)) : RM p l e R s m args below meth c nL A G nc ns Q pc ls (.double b :: .double a :: st) :=
  fun H locs la hP hS hl => lv_dcmp hc.1.1 hc.1.2.1 hd (kk _ rfl H locs la hP hS hl)
theorem rm_dup (hc : CX p s m args meth c cc nL own ret D cy ad) {a : Value} (hd : decode cc pc = .ok (.dup, 1)) (ha : a.category = 1) (kk : RM p l e R s m args below meth c nL A G nc ns Q (pc + 1) ls (a :: a :: st)) : RM p l e R s m args below meth c nL A G nc ns Q pc ls (a :: st) :=
  fun H locs la hP hS hl => lv_dup hc.1.1 hc.1.2.1 hd ha (kk H locs la hP hS hl)
theorem rm_pop (hc : CX p s m args meth c cc nL own ret D cy ad) {a : Value} (hd : decode cc pc = .ok (.pop, 1)) (ha : a.category = 1) (kk : RM p l e R s m args below meth c nL A G nc ns Q (pc + 1) ls st) : RM p l e R s m args below meth c nL A G nc ns Q pc ls (a :: st) :=
  fun H locs la hP hS hl => lv_pop hc.1.1 hc.1.2.1 hd ha (kk H locs la hP hS hl)
theorem rm_dup2 (hc : CX p s m args meth c cc nL own ret D cy ad) {a b : Value} (hd : decode cc pc = .ok (.dup2, 1)) (ha : a.category = 1) (hb : b.category = 1) (kk : RM p l e R s m args below meth c nL A G nc ns Q (pc + 1) ls (a :: b :: a :: b :: st)) : RM p l e R s m args below meth c nL A G nc ns Q pc ls (a :: b :: st) :=
  fun H locs la hP hS hl => lv_dup2_11 hc.1.1 hc.1.2.1 hd ha hb (kk H locs la hP hS hl)
theorem rm_dup_x1 (hc : CX p s m args meth c cc nL own ret D cy ad) {a b : Value} (hd : decode cc pc = .ok (.dup_x1, 1)) (ha : a.category = 1) (hb : b.category = 1) (kk : RM p l e R s m args below meth c nL A G nc ns Q (pc + 1) ls (a :: b :: a :: st)) : RM p l e R s m args below meth c nL A G nc ns Q pc ls (a :: b :: st) :=
  fun H locs la hP hS hl => lv_dup_x1 hc.1.1 hc.1.2.1 hd ha hb (kk H locs la hP hS hl)
theorem rm_if_eq (hc : CX p s m args meth c cc nL own ret D cy ad) {a : Int32} {off : Int} {tgt : Nat} (hd : decode cc pc = .ok (.ifCond .eq off, 3)) (ht : (pc : Int) + off = (tgt : Int)) (kt : a = 0 → RM p l e R s m args below meth c nL A G nc ns Q tgt ls st) (kf : ¬ a = 0 → RM p l e R s m args below meth c nL A G nc ns Q (pc + 3) ls st) : RM p l e R s m args below meth c nL A G nc ns Q pc ls (.int a :: st) :=
  fun H locs la hP hS hl => lv_if_eq hc.1.1 hc.1.2.1 hd ht (fun h => kt h H locs la hP hS hl) (fun h => kf h H locs la hP hS hl)
theorem rm_icmp_eq (hc : CX p s m args meth c cc nL own ret D cy ad) {a b : Int32} {off : Int} {tgt : Nat} (hd : decode cc pc = .ok (.if_icmp .eq off, 3)) (ht : (pc : Int) + off = (tgt : Int)) (kt : a = b → RM p l e R s m args below meth c nL A G nc ns Q tgt ls st) (kf : ¬ a = b → RM p l e R s m args below meth c nL A G nc ns Q (pc + 3) ls st) : RM p l e R s m args below meth c nL A G nc ns Q pc ls (.int b :: .int a :: st) :=
  fun H locs la hP hS hl => lv_icmp_eq hc.1.1 hc.1.2.1 hd ht (fun h => kt h H locs la hP hS hl) (fun h => kf h H locs la hP hS hl)
theorem rm_if_ne (hc : CX p s m args meth c cc nL own ret D cy ad) {a : Int32} {off : Int} {tgt : Nat} (hd : decode cc pc = .ok (.ifCond .ne off, 3)) (ht : (pc : Int) + off = (tgt : Int)) (kt : ¬ a = 0 → RM p l e R s m args below meth c nL A G nc ns Q tgt ls st) (kf : a = 0 → RM p l e R s m args below meth c nL A G nc ns Q (pc + 3) ls st) : RM p l e R s m args below meth c nL A G nc ns Q pc ls (.int a :: st) :=
  fun H locs la hP hS hl => lv_if_ne hc.1.1 hc.1.2.1 hd ht (fun h => kt h H locs la hP hS hl) (fun h => kf h H locs la hP hS hl)
theorem rm_icmp_ne (hc : CX p s m args meth c cc nL own ret D cy ad) {a b : Int32} {off : Int} {tgt : Nat} (hd : decode cc pc = .ok (.if_icmp .ne off, 3)) (ht : (pc : Int) + off = (tgt : Int)) (kt : ¬ a = b → RM p l e R s m args below meth c nL A G nc ns Q tgt ls st) (kf : a = b → RM p l e R s m args below meth c nL A G nc ns Q (pc + 3) ls st) : RM p l e R s m args below meth c nL A G nc ns Q pc ls (.int b :: .int a :: st) :=
  fun H locs la hP hS hl => lv_icmp_ne hc.1.1 hc.1.2.1 hd ht (fun h => kt h H locs la hP hS hl) (fun h => kf h H locs la hP hS hl)
theorem rm_if_lt (hc : CX p s m args meth c cc nL own ret D cy ad) {a : Int32} {off : Int} {tgt : Nat} (hd : decode cc pc = .ok (.ifCond .lt off, 3)) (ht : (pc : Int) + off = (tgt : Int)) (kt : a < 0 → RM p l e R s m args below meth c nL A G nc ns Q tgt ls st) (kf : ¬ a < 0 → RM p l e R s m args below meth c nL A G nc ns Q (pc + 3) ls st) : RM p l e R s m args below meth c nL A G nc ns Q pc ls (.int a :: st) :=
  fun H locs la hP hS hl => lv_if_lt hc.1.1 hc.1.2.1 hd ht (fun h => kt h H locs la hP hS hl) (fun h => kf h H locs la hP hS hl)
theorem rm_icmp_lt (hc : CX p s m args meth c cc nL own ret D cy ad) {a b : Int32} {off : Int} {tgt : Nat} (hd : decode cc pc = .ok (.if_icmp .lt off, 3)) (ht : (pc : Int) + off = (tgt : Int)) (kt : a < b → RM p l e R s m args below meth c nL A G nc ns Q tgt ls st) (kf : ¬ a < b → RM p l e R s m args below meth c nL A G nc ns Q (pc + 3) ls st) : RM p l e R s m args below meth c nL A G nc ns Q pc ls (.int b :: .int a :: st) :=
  fun H locs la hP hS hl => lv_icmp_lt hc.1.1 hc.1.2.1 hd ht (fun h => kt h H locs la hP hS hl) (fun h => kf h H locs la hP hS hl)
theorem rm_if_ge (hc : CX p s m args meth c cc nL own ret D cy ad) {a : Int32} {off : Int} {tgt : Nat} (hd : decode cc pc = .ok (.ifCond .ge off, 3)) (ht : (pc : Int) + off = (tgt : Int)) (kt : 0 ≤ a → RM p l e R s m args below meth c nL A G nc ns Q tgt ls st) (kf : ¬ 0 ≤ a → RM p l e R s m args below meth c nL A G nc ns Q (pc + 3) ls st) : RM p l e R s m args below meth c nL A G nc ns Q pc ls (.int a :: st) :=
  fun H locs la hP hS hl => lv_if_ge hc.1.1 hc.1.2.1 hd ht (fun h => kt h H locs la hP hS hl) (fun h => kf h H locs la hP hS hl)
theorem rm_icmp_ge (hc : CX p s m args meth c cc nL own ret D cy ad) {a b : Int32} {off : Int} {tgt : Nat} (hd : decode cc pc = .ok (.if_icmp .ge off, 3)) (ht : (pc : Int) + off = (tgt : Int)) (kt : b ≤ a → RM p l e R s m args below meth c nL A G nc ns Q tgt ls st) (kf : ¬ b ≤ a → RM p l e R s m args below meth c nL A G nc ns Q (pc + 3) ls st) : RM p l e R s m args below meth c nL A G nc ns Q pc ls (.int b :: .int a :: st) :=
  fun H locs la hP hS hl => lv_icmp_ge hc.1.1 hc.1.2.1 hd ht (fun h => kt h H locs la hP hS hl) (fun h => kf h H locs la hP hS hl)
theorem rm_if_gt (hc : CX p s m args meth c cc nL own ret D cy ad) {a : Int32} {off : Int} {tgt : Nat} (hd : decode cc pc = .ok (.ifCond .gt off, 3)) (ht : (pc : Int) + off = (tgt : Int)) (kt : 0 < a → RM p l e R s m args below meth c nL A G nc ns Q tgt ls st) (kf : ¬ 0 < a → RM p l e R s m args below meth c nL A G nc ns Q (pc + 3) ls st) : RM p l e R s m args below meth c nL A G nc ns Q pc ls (.int a :: st) :=
  fun H locs la hP hS hl => lv_if_gt hc.1.1 hc.1.2.1 hd ht (fun h => kt h H locs la hP hS hl) (fun h => kf h H locs la hP hS hl)
theorem rm_icmp_gt (hc : CX p s m args meth c cc nL own ret D cy ad) {a b : Int32} {off : Int} {tgt : Nat} (hd : decode cc pc = .ok (.if_icmp .gt off, 3)) (ht : (pc : Int) + off = (tgt : Int)) (kt : b < a → RM p l e R s m args below meth c nL A G nc ns Q tgt ls st) (kf : ¬ b < a → RM p l e R s m args below meth c nL A G nc ns Q (pc + 3) ls st) : RM p l e R s m args below meth c nL A G nc ns Q pc ls (.int b :: .int a :: st) :=
  fun H locs la hP hS hl => lv_icmp_gt hc.1.1 hc.1.2.1 hd ht (fun h => kt h H locs la hP hS hl) (fun h => kf h H locs la hP hS hl)
theorem rm_if_le (hc : CX p s m args meth c cc nL own ret D cy ad) {a : Int32} {off : Int} {tgt : Nat} (hd : decode cc pc = .ok (.ifCond .le off, 3)) (ht : (pc : Int) + off = (tgt : Int)) (kt : a ≤ 0 → RM p l e R s m args below meth c nL A G nc ns Q tgt ls st) (kf : ¬ a ≤ 0 → RM p l e R s m args below meth c nL A G nc ns Q (pc + 3) ls st) : RM p l e R s m args below meth c nL A G nc ns Q pc ls (.int a :: st) :=
  fun H locs la hP hS hl => lv_if_le hc.1.1 hc.1.2.1 hd ht (fun h => kt h H locs la hP hS hl) (fun h => kf h H locs la hP hS hl)
theorem rm_icmp_le (hc : CX p s m args meth c cc nL own ret D cy ad) {a b : Int32} {off : Int} {tgt : Nat} (hd : decode cc pc = .ok (.if_icmp .le off, 3)) (ht : (pc : Int) + off = (tgt : Int)) (kt : a ≤ b → RM p l e R s m args below meth c nL A G nc ns Q tgt ls st) (kf : ¬ a ≤ b → RM p l e R s m args below meth c nL A G nc ns Q (pc + 3) ls st) : RM p l e R s m args below meth c nL A G nc ns Q pc ls (.int b :: .int a :: st) :=
  fun H locs la hP hS hl => lv_icmp_le hc.1.1 hc.1.2.1 hd ht (fun h => kt h H locs la hP hS hl) (fun h => kf h H locs la hP hS hl)
theorem rm_goto (hc : CX p s m args meth c cc nL own ret D cy ad) {off : Int} {tgt : Nat} (hd : decode cc pc = .ok (.goto off, 3)) (ht : (pc : Int) + off = (tgt : Int)) (kk : RM p l e R s m args below meth c nL A G nc ns Q tgt ls st) : RM p l e R s m args below meth c nL A G nc ns Q pc ls st :=
  fun H locs la hP hS hl => lv_goto hc.1.1 hc.1.2.1 hd ht (kk H locs la hP hS hl)
theorem rm_tout (hc : CX p s m args meth c cc nL own ret D cy ad) {dflt lo hi : Int} {offs : Array Int} {len : Nat} {a : Int32} {tgt : Nat} (hd : decode cc pc = .ok (.tableswitch dflt lo hi offs, len)) (h : a.toInt < lo ∨ hi < a.toInt) (ht : (pc : Int) + dflt = (tgt : Int)) (kk : RM p l e R s m args below meth c nL A G nc ns Q tgt ls st) : RM p l e R s m args below meth c nL A G nc ns Q pc ls (.int a :: st) :=
  fun H locs la hP hS hl => lv_tableOut hc.1.1 hc.1.2.1 hd h ht (kk H locs la hP hS hl)
theorem rm_tin (hc : CX p s m args meth c cc nL own ret D cy ad) {dflt lo hi : Int} {offs : Array Int} {len : Nat} {a : Int32} {off : Int} {tgt : Nat} (hd : decode cc pc = .ok (.tableswitch dflt lo hi offs, len)) (h1 : ¬ a.toInt < lo) (h2 : ¬ hi < a.toInt) (ho : offs[(a.toInt - lo).toNat]? = some off) (ht : (pc : Int) + off = (tgt : Int)) (kk : RM p l e R s m args below meth c nL A G nc ns Q tgt ls st) : RM p l e R s m args below meth c nL A G nc ns Q pc ls (.int a :: st) :=
  fun H locs la hP hS hl => lv_tableIn hc.1.1 hc.1.2.1 hd h1 h2 ho ht (kk H locs la hP hS hl)
theorem rm_lkup (hc : CX p s m args meth c cc nL own ret D cy ad) {dflt : Int} {ps : Array (Int × Int)} {len : Nat} {a : Int32} {off : Int} {tgt : Nat} (hd : decode cc pc = .ok (.lookupswitch dflt ps, len)) (hp : (ps.toList.zip (ps.toList.drop 1)).all (fun (a, next) => a.1 < next.1) = true) (ho : Op.lookupswitch.offset ps.toList dflt a.toInt = off) (ht : (pc : Int) + off = (tgt : Int)) (kk : RM p l e R s m args below meth c nL A G nc ns Q tgt ls st) : RM p l e R s m args below meth c nL A G nc ns Q pc ls (.int a :: st) :=
  fun H locs la hP hS hl => lv_lookup hc.1.1 hc.1.2.1 hd hp ho ht (kk H locs la hP hS hl)
theorem rm_sub {ls' : List (Nat × Value)} (ks : List Nat) (hk : pk ls ks = ls') (kk : RM p l e R s m args below meth c nL A G nc ns Q pc ls' st) : RM p l e R s m args below meth c nL A G nc ns Q pc ls st :=
  fun H locs la hP hS hl => kk H locs la hP hS (has_mono hl (fun q hq => by rw [← hk] at hq; exact pk_mem hq))
theorem rm_mem {G' : Heap → Prop} (h : ∀ H, G H → G' H) (kk : RM p l e R s m args below meth c nL A  G' nc ns Q pc ls st) : RM p l e R s m args below meth c nL A G nc ns Q pc ls st :=
  fun H locs la hP hS hl => kk H locs la (h H hP) hS hl
end ROWS
end
section
section ROWS2
variable {p : Program} {l : Launch} {e : Env} {R : Room} {s : State} {m : MethodId} {args : Array Value} {below : List Frame} {meth : Method} {c : Code} {cc : ByteArray} {nL : Nat} {own : String} {ret : Option FieldType} {D : va_G} {cy : Nat → ClassId} {ad : Ads} {A : Nat → Prop} {G : Heap → Prop} {nc ns : Nat} {Q : State → Prop} {x : Mem} {pc : Nat} {ls : List (Nat × Value)} {st : List Value}
/-- a field, by its class's place in vwCl and its place in the class -/
def FL (own : String) (index ci f : Nat) : Prop := ∃ (C : String) (T : u_T) (N : Nat), vwCl[ci]? = some (C, T, N) ∧ f < N ∧ Cond.fieldLink own index (T f).1 (T f).2.1 (T f).2.2.1 ∈ TB
theorem tyTB : ∀ q ∈ vwCl, ∀ k, k < q.2.2 → (parseFieldDescriptor (q.2.1 k).2.2.1).isSome = true := by decide +kernel
theorem ty_of {q : vw_C} (h : q ∈ vwCl) : ∀ k, k < q.2.2 → parseFieldDescriptor (q.2.1 k).2.2.1 = some ((parseFieldDescriptor (q.2.1 k).2.2.1).getD .int) := fun k hk => by
  obtain ⟨t, ht⟩ := Option.isSome_iff_exists.mp (tyTB q h k hk)
  rw [ht]; rfl
def SO (cy : Nat → ClassId) (ad : Ads) (x y : Mem) (k c j : Nat) (e : va_E) : Prop := EE cy ad y k c j = e ∧ ∀ k' c' j', dm k' c' j' → (k', c', j') ≠ (k, c, j) → EE cy ad y k' c' j' = EE cy ad x k' c' j'
theorem so_up {cy : Nat → ClassId} {ad : Ads} {x : Mem} {k c j b n : Nat} {v : Int32} {e : va_E} (ho : ow b n = (k, c, j)) (he : EE cy ad (up x b n v) k c j = e) : SO cy ad x (up x b n v) k c j e :=
  ⟨he, fun k' c' j' hd hne => EE_up hd (fun h => hne (h.symm.trans ho))⟩
theorem GG_congr {D : va_G} {cy : Nat → ClassId} {ad : Ads} {x y : Mem} {H : Heap} (h : ∀ k c j, dm k c j → EE cy ad y k c j = EE cy ad x k c j) (hP : GG D cy ad x H) : GG D cy ad y H := by
  intro q0 q hq
  obtain ⟨i, h1, h2, rfl⟩ := wl_at hq
  obtain ⟨k, c, j⟩ := i
  rw [h k c j (mem_dm h2)]
  exact hP q0 _ (by unfold wl; rw [List.getElem?_map, h1]; rfl)
theorem rm_get (hc : CX p s m args meth c cc nL own ret D cy ad) {index ci f k c0 j : Nat} {fs : List Value} {v : Value} (hd : decode cc pc = .ok (.getfield index, 3)) (hf : FL own index ci f) (hm : dm k c0 j) (hE : EE cy ad x k c0 j = .inr (ci, fs)) (hv : fs[f]? = some v) (kk : RM p l e R s m args below meth c nL A (GG D cy ad x) nc ns Q (pc + 3) ls (v :: st)) : RM p l e R s m args below meth c nL A (GG D cy ad x) nc ns Q pc ls (.ref (ad k c0 j) :: st) := by
  intro H locs la hP hS hl
  obtain ⟨C, T, N, h1, h2, h3⟩ := hf
  obtain ⟨q0, hq, -⟩ := wl_get (cy := cy) (ad := ad) x hm
  rw [hE] at hq
  exact va_get (ci := ci) (T := T) (N := N) hc.1.1 hc.1.2.1 hc.1.2.2.2.2 (fwTB _ (List.mem_of_getElem? h1)) hc.1.2.2.2.1 hc.2.2.2.1 hP q0 hq h1 f h2 (hc.1.2.2.2.2 _ h3) (fun _ h => h) hv hd (kk H locs la hP hS hl)
theorem rm_geti (hc : CX p s m args meth c cc nL own ret D cy ad) {index ci f k c0 j : Nat} {fs : List Value} {w : Int32} (hd : decode cc pc = .ok (.getfield index, 3)) (hf : FL own index ci f) (hm : dm k c0 j) (hE : EE cy ad x k c0 j = .inr (ci, fs)) (hv : fs[f]? = some (.int w)) (kk : ∀ v : Int32, v = w → RM p l e R s m args below meth c nL A (GG D cy ad x) nc ns Q (pc + 3) ls (.int v :: st)) : RM p l e R s m args below meth c nL A (GG D cy ad x) nc ns Q pc ls (.ref (ad k c0 j) :: st) :=
  rm_get hc hd hf hm hE hv (kk _ rfl)
theorem rm_put (hc : CX p s m args meth c cc nL own ret D cy ad) {index ci f k c0 j : Nat} {fs : List Value} {v : Int32} {y : Mem} {ty : FieldType} (hd : decode cc pc = .ok (.putfield index, 3)) (hf : FL own index ci f) (hm : dm k c0 j) (hE : EE cy ad x k c0 j = .inr (ci, fs)) (hl2 : f < fs.length) (hT : ∀ q, vwCl[ci]? = some q → (q.2.1 f).2.2.2 = false ∧ parseFieldDescriptor (q.2.1 f).2.2.1 = some ty) (hn : narrow ty (.int v) = .int v) (hfit : fits ty (.int v) = true) (hs : SO cy ad x y k c0 j (.inr (ci, fs.set f (.int v)))) (kk : RM p l e R s m args below meth c nL (AA ad s.heap.size) (GG D cy ad y) nc ns Q (pc + 3) ls st) : RM p l e R s m args below meth c nL (AA ad s.heap.size) (GG D cy ad x) nc ns Q pc ls (.int v :: .ref (ad k c0 j) :: st) := by
  intro H locs la hP hS hl
  obtain ⟨C, T, N, h1, h2, h3⟩ := hf
  obtain ⟨q0, hq, hi⟩ := wl_get (cy := cy) (ad := ad) x hm
  rw [hE] at hq
  have hmem := List.mem_of_getElem? h1
  refine va_put (ci := ci) (T := T) (N := N) (A := AA ad s.heap.size) hc.1.1 hc.1.2.1 hc.1.2.2.2.2 (fwTB _ hmem) _ (ty_of hmem) (nmTB _ hmem) hc.1.2.2.2.1 hc.2.2.2.1 hP (wl_D hc.2.2.2.2.1 AA_in) hS q0 hq h1 f h2 (hc.1.2.2.2.2 _ h3) (fun _ h => h) (hT _ h1).1 (hT _ h1).2 hn hfit hl2 hd (fun H1 locs1 hP1 hD1 hS1 => ?_)
  have e := wl_set (cy := cy) (ad := ad) (x := x) (y := y) hi hs.2
  rw [hs.1] at e
  rw [e] at hP1
  exact kk H1 locs1 la hP1 hS1 hl
theorem rm_aald (hc : CX p s m args meth c cc nL own ret D cy ad) {k c0 j t0 n i : Nat} {cA : ClassId} {C : String} {f : Nat → Option Nat} {iv : Int32} {v : Value} (hd : decode cc pc = .ok (.aaload, 1)) (hm : dm k c0 j) (hE : EE cy ad x k c0 j = .inl (cA, n, .inr (.inr (.inr (.inr f))))) (ht : (tys cy)[t0]? = some (cA, .object C)) (hi : i < n) (hn : n < 2 ^ 31) (hiv : iv = nI i) (hv : va_rf (f i) = v) (kk : RM p l e R s m args below meth c nL A (GG D cy ad x) nc ns Q (pc + 1) ls (v :: st)) : RM p l e R s m args below meth c nL A (GG D cy ad x) nc ns Q pc ls (.int iv :: .ref (ad k c0 j) :: st) := by
  intro H locs la hP hS hl
  obtain ⟨q0, hq, -⟩ := wl_get (cy := cy) (ad := ad) x hm
  rw [hE] at hq
  subst hiv
  refine va_aldq hc.1.1 hc.1.2.1 hc.2.2.2.1 hP q0 t0 hq ht (vp_in_nI hi hn) hd ?_
  rw [nI_clamp (by omega), hv]
  exact kk H locs la hP hS hl
theorem rm_iald (hc : CX p s m args meth c cc nL own ret D cy ad) {k c0 j n i : Nat} {f : Nat → Int32} {iv : Int32} (hd : decode cc pc = .ok (.iaload, 1)) (hm : dm k c0 j) (hE : EE cy ad x k c0 j = .inl (cy 0, n, .inl f)) (hi : i < n) (hn : n < 2 ^ 31) (hiv : iv = nI i) (kk : ∀ v : Int32, v = f i → RM p l e R s m args below meth c nL A (GG D cy ad x) nc ns Q (pc + 1) ls (.int v :: st)) : RM p l e R s m args below meth c nL A (GG D cy ad x) nc ns Q pc ls (.int iv :: .ref (ad k c0 j) :: st) := by
  intro H locs la hP hS hl
  obtain ⟨q0, hq, -⟩ := wl_get (cy := cy) (ad := ad) x hm
  rw [hE] at hq
  subst hiv
  refine va_iald hc.1.1 hc.1.2.1 hc.2.2.2.1 hP q0 0 hq rfl (vp_in_nI hi hn) hd ?_
  rw [nI_clamp (by omega)]
  exact kk _ rfl H locs la hP hS hl
theorem rm_iast (hc : CX p s m args meth c cc nL own ret D cy ad) {k c0 j n i : Nat} {f : Nat → Int32} {iv v : Int32} {y : Mem} (hd : decode cc pc = .ok (.iastore, 1)) (hm : dm k c0 j) (hE : EE cy ad x k c0 j = .inl (cy 0, n, .inl f)) (hi : i < n) (hn : n < 2 ^ 31) (hiv : iv = nI i) (hs : SO cy ad x y k c0 j (.inl (cy 0, n, .inl (upd f i v)))) (kk : RM p l e R s m args below meth c nL (AA ad s.heap.size) (GG D cy ad y) nc ns Q (pc + 1) ls st) : RM p l e R s m args below meth c nL (AA ad s.heap.size) (GG D cy ad x) nc ns Q pc ls (.int v :: .int iv :: .ref (ad k c0 j) :: st) := by
  intro H locs la hP hS hl
  obtain ⟨q0, hq, hix⟩ := wl_get (cy := cy) (ad := ad) x hm
  rw [hE] at hq
  subst hiv
  refine va_iast (A := AA ad s.heap.size) hc.1.1 hc.1.2.1 hc.2.2.2.1 hP (wl_D hc.2.2.2.2.1 AA_in) hS q0 0 hq rfl (vp_in_nI hi hn) hd (fun H1 locs1 hP1 hD1 hS1 => ?_)
  rw [nI_clamp (by omega)] at hP1
  have e := wl_set (cy := cy) (ad := ad) (x := x) (y := y) hix hs.2
  rw [hs.1] at e
  rw [e] at hP1
  exact kk H1 locs1 la hP1 hS1 hl
theorem rm_alen (hc : CX p s m args meth c cc nL own ret D cy ad) {k c0 j n t0 : Nat} {cA : ClassId} {ty : FieldType} {z : vp_A} {v : Int32} (hd : decode cc pc = .ok (.arraylength, 1)) (hm : dm k c0 j) (hE : EE cy ad x k c0 j = .inl (cA, z)) (ht : (tys cy)[t0]? = some (cA, ty)) (hv : Int32.ofNat z.1 = v) (kk : RM p l e R s m args below meth c nL A (GG D cy ad x) nc ns Q (pc + 1) ls (.int v :: st)) : RM p l e R s m args below meth c nL A (GG D cy ad x) nc ns Q pc ls (.ref (ad k c0 j) :: st) := by
  intro H locs la hP hS hl
  obtain ⟨q0, hq, -⟩ := wl_get (cy := cy) (ad := ad) x hm
  rw [hE] at hq
  exact va_alen hc.1.1 hc.1.2.1 hc.2.2.2.1 hP q0 t0 hq ht hv hd (kk H locs la hP hS hl)
theorem rm_iret (hc : CX p s m args meth c cc nL own (some .int) D cy ad) {v : Int32} {post : Int32 → Mem → Prop} (hd : decode cc pc = .ok (.ireturn, 1)) (hp : post v x) : RM p l e R s m args below meth c nL (AA ad s.heap.size) (GG D cy ad x) 0 0 (QQ (Qi D cy ad post) below args s ad) pc ls [.int v] := by
  intro H locs la hP hS hl
  have hlk : meth.locks = false := hc.2.2.1
  exact W.iret hc.1.1 hc.1.2.1 hc.2.1 (fun t ht hW => ⟨⟨v, x, rfl, hp, by show va_P D vwCl (wl cy ad x) t.heap; rw [ht]; exact hP⟩, hS.F ht⟩) hS.2.2 hd
theorem rm_lret (hc : CX p s m args meth c cc nL own (some .long) D cy ad) {v : Int64} {post : Int64 → Mem → Prop} (hd : decode cc pc = .ok (.lreturn, 1)) (hp : post v x) : RM p l e R s m args below meth c nL (AA ad s.heap.size) (GG D cy ad x) 0 0 (QQ (Ql D cy ad post) below args s ad) pc ls [.long v] := by
  intro H locs la hP hS hl
  have hlk : meth.locks = false := hc.2.2.1
  exact W.lret hc.1.1 hc.1.2.1 hc.2.1 (fun t ht hW => ⟨⟨v, x, rfl, hp, by show va_P D vwCl (wl cy ad x) t.heap; rw [ht]; exact hP⟩, hS.F ht⟩) hS.2.2 hd
theorem rm_dret (hc : CX p s m args meth c cc nL own (some .double) D cy ad) {v : UInt64} {post : UInt64 → Mem → Prop} (hd : decode cc pc = .ok (.dreturn, 1)) (hp : post v x) : RM p l e R s m args below meth c nL (AA ad s.heap.size) (GG D cy ad x) 0 0 (QQ (Qd D cy ad post) below args s ad) pc ls [.double v] := by
  intro H locs la hP hS hl
  have hlk : meth.locks = false := hc.2.2.1
  exact W.dret hc.1.1 hc.1.2.1 hc.2.1 (fun t ht hW => ⟨⟨v, x, rfl, hp, by show va_P D vwCl (wl cy ad x) t.heap; rw [ht]; exact hP⟩, hS.F ht⟩) hS.2.2 hd
theorem rm_zret (hc : CX p s m args meth c cc nL own (some .boolean) D cy ad) {v : Int32} {post : Int32 → Mem → Prop} (hd : decode cc pc = .ok (.ireturn, 1)) (hn : narrow .boolean (.int v) = .int v) (hp : post v x) : RM p l e R s m args below meth c nL (AA ad s.heap.size) (GG D cy ad x) 0 0 (QQ (Qi D cy ad post) below args s ad) pc ls [.int v] := by
  intro H locs la hP hS hl
  have hlk : meth.locks = false := hc.2.2.1
  exact W.zret hc.1.1 hc.1.2.1 hc.2.1 hn (fun t ht hW => ⟨⟨v, x, rfl, hp, by show va_P D vwCl (wl cy ad x) t.heap; rw [ht]; exact hP⟩, hS.F ht⟩) hS.2.2 hd
theorem rm_vret (hc : CX p s m args meth c cc nL own none D cy ad) {post : Mem → Prop} (hd : decode cc pc = .ok (.return_, 1)) (hp : post x) : RM p l e R s m args below meth c nL (AA ad s.heap.size) (GG D cy ad x) 0 0 (QQ (Qv D cy ad post) below args s ad) pc ls [] := by
  intro H locs la hP hS hl
  have hlk : meth.locks = false := hc.2.2.1
  exact W.vret hc.1.1 hc.1.2.1 hc.2.1 (fun t ht hW => ⟨⟨x, rfl, hp, by show va_P D vwCl (wl cy ad x) t.heap; rw [ht]; exact hP⟩, hS.F ht⟩) hS.2.2 hd
/-- a method that is called by the entry 'index' of own's file -/
def ML (own : String) (index : Nat) (y : MethodName) (bytes : ByteArray) (maxL : Nat) (rt : Option FieldType) (n : Nat) : Prop := Cond.methodLink own index y ∈ TB ∧ Cond.initialized y.cls ∈ TB ∧ Cond.code y bytes maxL rt ∈ TB ∧ (y.cls ≠ "java/lang/invoke/MethodHandle" ∧ y.cls ≠ "java/lang/invoke/VarHandle" ∧ (parseMethodDescriptor y.desc).map (fun d => d.parameters.length) = some n)
def MV (own : String) (index : Nat) (y : MethodName) (bytes : ByteArray) (maxL : Nat) (rt : Option FieldType) (n : Nat) : Prop := ML own index y bytes maxL rt n ∧ Cond.instanceMethod y ∈ TB ∧ Cond.selects y.cls y y ∈ TB
def MS (own : String) (index : Nat) (y : MethodName) (bytes : ByteArray) (maxL : Nat) (rt : Option FieldType) (n : Nat) : Prop := ML own index y bytes maxL rt n ∧ Cond.static y ∈ TB
def MN (own : String) (index : Nat) (y : MethodName) (host : String) (bytes : ByteArray) (maxL : Nat) (rt : Option FieldType) (n : Nat) : Prop := ((own, index, y, host) ∈ nestL ∧ Cond.initialized y.cls ∈ TB ∧ Cond.code y bytes maxL rt ∈ TB ∧ (y.cls ≠ "java/lang/invoke/MethodHandle" ∧ y.cls ≠ "java/lang/invoke/VarHandle" ∧ (parseMethodDescriptor y.desc).map (fun d => d.parameters.length) = some n)) ∧ Cond.static y ∈ TB
def RmOk (rm R : Room) (maxL : Nat) : Prop := (rm.cells = 0 ∧ rm.slots = 0) ∧ rm.frames + 1 ≤ R.frames ∧ 8 + (maxL + 11) + rm.locals ≤ R.locals
theorem rm_calliV (hc : CX p s m args meth c cc nL own ret D cy ad) {y0 : MethodName} {bytes : ByteArray} {maxL n : Nat} {rt : Option FieldType} {rm : Room} {index : Nat} {As rest : List Value} {post : Int32 → Mem → Prop} {k c0 j ci N : Nat} {T : u_T} {fs : List Value} (hd : decode cc pc = .ok (.invokevirtual index, 3)) (hC : Cti l y0 bytes maxL rt rm D cy ad (.ref (ad k c0 j) :: As) x post) (hL : MV own index y0 bytes maxL rt n) (hm : dm k c0 j) (hE : EE cy ad x k c0 j = .inr (ci, fs)) (hcl : vwCl[ci]? = some (y0.cls, T, N)) (hn : As.length = n) (hst : st = As.reverse ++ .ref (ad k c0 j) :: rest) (hw : (rest.map fun v => v.category).sum ≤ 8) (hR : RmOk rm R maxL) (hnc : nc ≤ R.cells ∧ ns ≤ R.slots) (kk : ∀ (r : Int32) (y : Mem), post r y → RM p l e R s m args below meth c nL (AA ad s.heap.size) (GG D cy ad y) nc ns Q (pc + 3) ls (.int r :: rest)) : RM p l e R s m args below meth c nL (AA ad s.heap.size) (GG D cy ad x) nc ns Q pc ls st := by
  intro H locs la hP hS hl
  subst hst
  have hF : ∀ q, AA ad H.size q → AA ad s.heap.size q := fun q h => h.elim Or.inl (fun h => Or.inr (Nat.le_trans hS.1 h))
  obtain ⟨q0, hq, -⟩ := wl_get (cy := cy) (ad := ad) x hm
  rw [hE] at hq
  have cw : CallW R s args own y0.cls index y0 bytes maxL rt (.code y0 bytes maxL rt :: TB) rm 0 0 n := ⟨callB_of n hc.1.2.2.2.2 (goodTB hL.1.2.2.1) rfl hR.1.1 hR.1.2 (hc.1.2.2.2.2 _ hL.1.2.1) (hc.1.2.2.2.2 _ hL.1.1) hL.1.2.2.2 hR.2, hc.1.2.2.2.2 _ hL.2.1, hc.1.2.2.2.2 _ hL.2.2⟩
  exact va_calli (va_runV (As := As) (rest := rest) hc.1 (hC H.size) cw ⟨fun a U g mk q => by obtain ⟨q0, q1, qP, qK, qN⟩ := q; exact ⟨q0, q1, qP, va_K.moved (u := U) (U := U.calling g mk a) (Vm.Alike.refl U.vm) qK, NW.same (u := U) (U := U.calling g mk a) rfl qN⟩, va_recv hc.2.2.2.1 hP hcl hq, fun U hU hW => ⟨rfl, by rw [hU], by rw [hU]; exact hP, va_K.moved hW.alike hc.2.2.2.1, hc.2.2.2.2.2.warm hW⟩⟩ rfl hn hl.1 rfl (lv_room hw) hd ⟨hnc.1, hnc.2⟩) (hS) (fun q _ h => hF q h) hF (fun r u t H1 locs1 ht hvm hw hB hz1 hk1 hS1 => kk r u hw H1 locs1 la (by rw [← ht]; exact hB) hS1 hl)
theorem rm_calliS (hc : CX p s m args meth c cc nL own ret D cy ad) {y0 : MethodName} {bytes : ByteArray} {maxL n : Nat} {rt : Option FieldType} {rm : Room} {index : Nat} {As rest : List Value} {post : Int32 → Mem → Prop} (hd : decode cc pc = .ok (.invokestatic index, 3)) (hC : Cti l y0 bytes maxL rt rm D cy ad As x post) (hL : MS own index y0 bytes maxL rt n) (hn : As.length = n) (hst : st = As.reverse ++ rest) (hw : (rest.map fun v => v.category).sum ≤ 8) (hR : RmOk rm R maxL) (hnc : nc ≤ R.cells ∧ ns ≤ R.slots) (kk : ∀ (r : Int32) (y : Mem), post r y → RM p l e R s m args below meth c nL (AA ad s.heap.size) (GG D cy ad y) nc ns Q (pc + 3) ls (.int r :: rest)) : RM p l e R s m args below meth c nL (AA ad s.heap.size) (GG D cy ad x) nc ns Q pc ls st := by
  intro H locs la hP hS hl
  subst hst
  have hF : ∀ q, AA ad H.size q → AA ad s.heap.size q := fun q h => h.elim Or.inl (fun h => Or.inr (Nat.le_trans hS.1 h))
  exact va_calli (va_runS (As := As) (rest := rest) hc.1 (hC H.size) ⟨callB_of n hc.1.2.2.2.2 (goodTB hL.1.2.2.1) rfl hR.1.1 hR.1.2 (hc.1.2.2.2.2 _ hL.1.2.1) (hc.1.2.2.2.2 _ hL.1.1) hL.1.2.2.2 hR.2, hc.1.2.2.2.2 _ hL.2⟩ ⟨fun a U g mk q => by obtain ⟨q0, q1, qP, qK, qN⟩ := q; exact ⟨q0, q1, qP, va_K.moved (u := U) (U := U.calling g mk a) (Vm.Alike.refl U.vm) qK, NW.same (u := U) (U := U.calling g mk a) rfl qN⟩, fun U hU hW => ⟨rfl, by rw [hU], by rw [hU]; exact hP, va_K.moved hW.alike hc.2.2.2.1, hc.2.2.2.2.2.warm hW⟩⟩ rfl hn hl.1 rfl (lv_room hw) hd ⟨hnc.1, hnc.2⟩) (hS) (fun q _ h => hF q h) hF (fun r u t H1 locs1 ht hvm hw hB hz1 hk1 hS1 => kk r u hw H1 locs1 la (by rw [← ht]; exact hB) hS1 hl)
theorem rm_calliN (hc : CX p s m args meth c cc nL own ret D cy ad) {y0 : MethodName} {bytes : ByteArray} {maxL n : Nat} {rt : Option FieldType} {rm : Room} {index : Nat} {As rest : List Value} {post : Int32 → Mem → Prop} {host : String} (hd : decode cc pc = .ok (.invokestatic index, 3)) (hC : Cti l y0 bytes maxL rt rm D cy ad As x post) (hL : MN own index y0 host bytes maxL rt n) (hn : As.length = n) (hst : st = As.reverse ++ rest) (hw : (rest.map fun v => v.category).sum ≤ 8) (hR : RmOk rm R maxL) (hnc : nc ≤ R.cells ∧ ns ≤ R.slots) (kk : ∀ (r : Int32) (y : Mem), post r y → RM p l e R s m args below meth c nL (AA ad s.heap.size) (GG D cy ad y) nc ns Q (pc + 3) ls (.int r :: rest)) : RM p l e R s m args below meth c nL (AA ad s.heap.size) (GG D cy ad x) nc ns Q pc ls st := by
  intro H locs la hP hS hl
  subst hst
  have hF : ∀ q, AA ad H.size q → AA ad s.heap.size q := fun q h => h.elim Or.inl (fun h => Or.inr (Nat.le_trans hS.1 h))
  exact va_calli (va_runSN (As := As) (rest := rest) hc.1 (hC H.size) ⟨va_cnB n hc.1.2.2.2.2 (goodTB hL.1.2.2.1) rfl hR.1.1 hR.1.2 (hc.2.2.2.2.2 _ hL.1.1) (hc.1.2.2.2.2 _ hL.1.2.1) hL.1.2.2.2 hR.2, hc.1.2.2.2.2 _ hL.2, trivial⟩ ⟨fun a U g mk q => by obtain ⟨q0, q1, qP, qK, qN⟩ := q; exact ⟨q0, q1, qP, va_K.moved (u := U) (U := U.calling g mk a) (Vm.Alike.refl U.vm) qK, NW.same (u := U) (U := U.calling g mk a) rfl qN⟩, fun U hU hW => ⟨rfl, by rw [hU], by rw [hU]; exact hP, va_K.moved hW.alike hc.2.2.2.1, hc.2.2.2.2.2.warm hW⟩⟩ rfl hn hl.1 rfl (lv_room hw) hd ⟨hnc.1, hnc.2⟩) (hS) (fun q _ h => hF q h) hF (fun r u t H1 locs1 ht hvm hw hB hz1 hk1 hS1 => kk r u hw H1 locs1 la (by rw [← ht]; exact hB) hS1 hl)
theorem rm_calllV (hc : CX p s m args meth c cc nL own ret D cy ad) {y0 : MethodName} {bytes : ByteArray} {maxL n : Nat} {rt : Option FieldType} {rm : Room} {index : Nat} {As rest : List Value} {post : Int64 → Mem → Prop} {k c0 j ci N : Nat} {T : u_T} {fs : List Value} (hd : decode cc pc = .ok (.invokevirtual index, 3)) (hC : Ctl l y0 bytes maxL rt rm D cy ad (.ref (ad k c0 j) :: As) x post) (hL : MV own index y0 bytes maxL rt n) (hm : dm k c0 j) (hE : EE cy ad x k c0 j = .inr (ci, fs)) (hcl : vwCl[ci]? = some (y0.cls, T, N)) (hn : As.length = n) (hst : st = As.reverse ++ .ref (ad k c0 j) :: rest) (hw : (rest.map fun v => v.category).sum ≤ 8) (hR : RmOk rm R maxL) (hnc : nc ≤ R.cells ∧ ns ≤ R.slots) (kk : ∀ (r : Int64) (y : Mem), post r y → RM p l e R s m args below meth c nL (AA ad s.heap.size) (GG D cy ad y) nc ns Q (pc + 3) ls (.long r :: rest)) : RM p l e R s m args below meth c nL (AA ad s.heap.size) (GG D cy ad x) nc ns Q pc ls st := by
  intro H locs la hP hS hl
  subst hst
  have hF : ∀ q, AA ad H.size q → AA ad s.heap.size q := fun q h => h.elim Or.inl (fun h => Or.inr (Nat.le_trans hS.1 h))
  obtain ⟨q0, hq, -⟩ := wl_get (cy := cy) (ad := ad) x hm
  rw [hE] at hq
  have cw : CallW R s args own y0.cls index y0 bytes maxL rt (.code y0 bytes maxL rt :: TB) rm 0 0 n := ⟨callB_of n hc.1.2.2.2.2 (goodTB hL.1.2.2.1) rfl hR.1.1 hR.1.2 (hc.1.2.2.2.2 _ hL.1.2.1) (hc.1.2.2.2.2 _ hL.1.1) hL.1.2.2.2 hR.2, hc.1.2.2.2.2 _ hL.2.1, hc.1.2.2.2.2 _ hL.2.2⟩
  exact va_calll (va_runV (As := As) (rest := rest) hc.1 (hC H.size) cw ⟨fun a U g mk q => by obtain ⟨q0, q1, qP, qK, qN⟩ := q; exact ⟨q0, q1, qP, va_K.moved (u := U) (U := U.calling g mk a) (Vm.Alike.refl U.vm) qK, NW.same (u := U) (U := U.calling g mk a) rfl qN⟩, va_recv hc.2.2.2.1 hP hcl hq, fun U hU hW => ⟨rfl, by rw [hU], by rw [hU]; exact hP, va_K.moved hW.alike hc.2.2.2.1, hc.2.2.2.2.2.warm hW⟩⟩ rfl hn hl.1 rfl (lv_room hw) hd ⟨hnc.1, hnc.2⟩) (hS) (fun q _ h => hF q h) hF (fun r u t H1 locs1 ht hvm hw hB hz1 hk1 hS1 => kk r u hw H1 locs1 la (by rw [← ht]; exact hB) hS1 hl)
theorem rm_calllS (hc : CX p s m args meth c cc nL own ret D cy ad) {y0 : MethodName} {bytes : ByteArray} {maxL n : Nat} {rt : Option FieldType} {rm : Room} {index : Nat} {As rest : List Value} {post : Int64 → Mem → Prop} (hd : decode cc pc = .ok (.invokestatic index, 3)) (hC : Ctl l y0 bytes maxL rt rm D cy ad As x post) (hL : MS own index y0 bytes maxL rt n) (hn : As.length = n) (hst : st = As.reverse ++ rest) (hw : (rest.map fun v => v.category).sum ≤ 8) (hR : RmOk rm R maxL) (hnc : nc ≤ R.cells ∧ ns ≤ R.slots) (kk : ∀ (r : Int64) (y : Mem), post r y → RM p l e R s m args below meth c nL (AA ad s.heap.size) (GG D cy ad y) nc ns Q (pc + 3) ls (.long r :: rest)) : RM p l e R s m args below meth c nL (AA ad s.heap.size) (GG D cy ad x) nc ns Q pc ls st := by
  intro H locs la hP hS hl
  subst hst
  have hF : ∀ q, AA ad H.size q → AA ad s.heap.size q := fun q h => h.elim Or.inl (fun h => Or.inr (Nat.le_trans hS.1 h))
  exact va_calll (va_runS (As := As) (rest := rest) hc.1 (hC H.size) ⟨callB_of n hc.1.2.2.2.2 (goodTB hL.1.2.2.1) rfl hR.1.1 hR.1.2 (hc.1.2.2.2.2 _ hL.1.2.1) (hc.1.2.2.2.2 _ hL.1.1) hL.1.2.2.2 hR.2, hc.1.2.2.2.2 _ hL.2⟩ ⟨fun a U g mk q => by obtain ⟨q0, q1, qP, qK, qN⟩ := q; exact ⟨q0, q1, qP, va_K.moved (u := U) (U := U.calling g mk a) (Vm.Alike.refl U.vm) qK, NW.same (u := U) (U := U.calling g mk a) rfl qN⟩, fun U hU hW => ⟨rfl, by rw [hU], by rw [hU]; exact hP, va_K.moved hW.alike hc.2.2.2.1, hc.2.2.2.2.2.warm hW⟩⟩ rfl hn hl.1 rfl (lv_room hw) hd ⟨hnc.1, hnc.2⟩) (hS) (fun q _ h => hF q h) hF (fun r u t H1 locs1 ht hvm hw hB hz1 hk1 hS1 => kk r u hw H1 locs1 la (by rw [← ht]; exact hB) hS1 hl)
theorem rm_calldV (hc : CX p s m args meth c cc nL own ret D cy ad) {y0 : MethodName} {bytes : ByteArray} {maxL n : Nat} {rt : Option FieldType} {rm : Room} {index : Nat} {As rest : List Value} {post : UInt64 → Mem → Prop} {k c0 j ci N : Nat} {T : u_T} {fs : List Value} (hd : decode cc pc = .ok (.invokevirtual index, 3)) (hC : Ctd l y0 bytes maxL rt rm D cy ad (.ref (ad k c0 j) :: As) x post) (hL : MV own index y0 bytes maxL rt n) (hm : dm k c0 j) (hE : EE cy ad x k c0 j = .inr (ci, fs)) (hcl : vwCl[ci]? = some (y0.cls, T, N)) (hn : As.length = n) (hst : st = As.reverse ++ .ref (ad k c0 j) :: rest) (hw : (rest.map fun v => v.category).sum ≤ 8) (hR : RmOk rm R maxL) (hnc : nc ≤ R.cells ∧ ns ≤ R.slots) (kk : ∀ (r : UInt64) (y : Mem), post r y → RM p l e R s m args below meth c nL (AA ad s.heap.size) (GG D cy ad y) nc ns Q (pc + 3) ls (.double r :: rest)) : RM p l e R s m args below meth c nL (AA ad s.heap.size) (GG D cy ad x) nc ns Q pc ls st := by
  intro H locs la hP hS hl
  subst hst
  have hF : ∀ q, AA ad H.size q → AA ad s.heap.size q := fun q h => h.elim Or.inl (fun h => Or.inr (Nat.le_trans hS.1 h))
  obtain ⟨q0, hq, -⟩ := wl_get (cy := cy) (ad := ad) x hm
  rw [hE] at hq
  have cw : CallW R s args own y0.cls index y0 bytes maxL rt (.code y0 bytes maxL rt :: TB) rm 0 0 n := ⟨callB_of n hc.1.2.2.2.2 (goodTB hL.1.2.2.1) rfl hR.1.1 hR.1.2 (hc.1.2.2.2.2 _ hL.1.2.1) (hc.1.2.2.2.2 _ hL.1.1) hL.1.2.2.2 hR.2, hc.1.2.2.2.2 _ hL.2.1, hc.1.2.2.2.2 _ hL.2.2⟩
  exact va_calld (va_runV (As := As) (rest := rest) hc.1 (hC H.size) cw ⟨fun a U g mk q => by obtain ⟨q0, q1, qP, qK, qN⟩ := q; exact ⟨q0, q1, qP, va_K.moved (u := U) (U := U.calling g mk a) (Vm.Alike.refl U.vm) qK, NW.same (u := U) (U := U.calling g mk a) rfl qN⟩, va_recv hc.2.2.2.1 hP hcl hq, fun U hU hW => ⟨rfl, by rw [hU], by rw [hU]; exact hP, va_K.moved hW.alike hc.2.2.2.1, hc.2.2.2.2.2.warm hW⟩⟩ rfl hn hl.1 rfl (lv_room hw) hd ⟨hnc.1, hnc.2⟩) (hS) (fun q _ h => hF q h) hF (fun r u t H1 locs1 ht hvm hw hB hz1 hk1 hS1 => kk r u hw H1 locs1 la (by rw [← ht]; exact hB) hS1 hl)
theorem rm_calldS (hc : CX p s m args meth c cc nL own ret D cy ad) {y0 : MethodName} {bytes : ByteArray} {maxL n : Nat} {rt : Option FieldType} {rm : Room} {index : Nat} {As rest : List Value} {post : UInt64 → Mem → Prop} (hd : decode cc pc = .ok (.invokestatic index, 3)) (hC : Ctd l y0 bytes maxL rt rm D cy ad As x post) (hL : MS own index y0 bytes maxL rt n) (hn : As.length = n) (hst : st = As.reverse ++ rest) (hw : (rest.map fun v => v.category).sum ≤ 8) (hR : RmOk rm R maxL) (hnc : nc ≤ R.cells ∧ ns ≤ R.slots) (kk : ∀ (r : UInt64) (y : Mem), post r y → RM p l e R s m args below meth c nL (AA ad s.heap.size) (GG D cy ad y) nc ns Q (pc + 3) ls (.double r :: rest)) : RM p l e R s m args below meth c nL (AA ad s.heap.size) (GG D cy ad x) nc ns Q pc ls st := by
  intro H locs la hP hS hl
  subst hst
  have hF : ∀ q, AA ad H.size q → AA ad s.heap.size q := fun q h => h.elim Or.inl (fun h => Or.inr (Nat.le_trans hS.1 h))
  exact va_calld (va_runS (As := As) (rest := rest) hc.1 (hC H.size) ⟨callB_of n hc.1.2.2.2.2 (goodTB hL.1.2.2.1) rfl hR.1.1 hR.1.2 (hc.1.2.2.2.2 _ hL.1.2.1) (hc.1.2.2.2.2 _ hL.1.1) hL.1.2.2.2 hR.2, hc.1.2.2.2.2 _ hL.2⟩ ⟨fun a U g mk q => by obtain ⟨q0, q1, qP, qK, qN⟩ := q; exact ⟨q0, q1, qP, va_K.moved (u := U) (U := U.calling g mk a) (Vm.Alike.refl U.vm) qK, NW.same (u := U) (U := U.calling g mk a) rfl qN⟩, fun U hU hW => ⟨rfl, by rw [hU], by rw [hU]; exact hP, va_K.moved hW.alike hc.2.2.2.1, hc.2.2.2.2.2.warm hW⟩⟩ rfl hn hl.1 rfl (lv_room hw) hd ⟨hnc.1, hnc.2⟩) (hS) (fun q _ h => hF q h) hF (fun r u t H1 locs1 ht hvm hw hB hz1 hk1 hS1 => kk r u hw H1 locs1 la (by rw [← ht]; exact hB) hS1 hl)
theorem rm_callvV (hc : CX p s m args meth c cc nL own ret D cy ad) {y0 : MethodName} {bytes : ByteArray} {maxL n : Nat} {rt : Option FieldType} {rm : Room} {index : Nat} {As rest : List Value} {post : Mem → Prop} {k c0 j ci N : Nat} {T : u_T} {fs : List Value} (hd : decode cc pc = .ok (.invokevirtual index, 3)) (hC : Ctv l y0 bytes maxL rt rm D cy ad (.ref (ad k c0 j) :: As) x post) (hL : MV own index y0 bytes maxL rt n) (hm : dm k c0 j) (hE : EE cy ad x k c0 j = .inr (ci, fs)) (hcl : vwCl[ci]? = some (y0.cls, T, N)) (hn : As.length = n) (hst : st = As.reverse ++ .ref (ad k c0 j) :: rest) (hw : (rest.map fun v => v.category).sum ≤ 8) (hR : RmOk rm R maxL) (hnc : nc ≤ R.cells ∧ ns ≤ R.slots) (kk : ∀ (y : Mem), post y → RM p l e R s m args below meth c nL (AA ad s.heap.size) (GG D cy ad y) nc ns Q (pc + 3) ls rest) : RM p l e R s m args below meth c nL (AA ad s.heap.size) (GG D cy ad x) nc ns Q pc ls st := by
  intro H locs la hP hS hl
  subst hst
  have hF : ∀ q, AA ad H.size q → AA ad s.heap.size q := fun q h => h.elim Or.inl (fun h => Or.inr (Nat.le_trans hS.1 h))
  obtain ⟨q0, hq, -⟩ := wl_get (cy := cy) (ad := ad) x hm
  rw [hE] at hq
  have cw : CallW R s args own y0.cls index y0 bytes maxL rt (.code y0 bytes maxL rt :: TB) rm 0 0 n := ⟨callB_of n hc.1.2.2.2.2 (goodTB hL.1.2.2.1) rfl hR.1.1 hR.1.2 (hc.1.2.2.2.2 _ hL.1.2.1) (hc.1.2.2.2.2 _ hL.1.1) hL.1.2.2.2 hR.2, hc.1.2.2.2.2 _ hL.2.1, hc.1.2.2.2.2 _ hL.2.2⟩
  exact va_callv (va_runV (As := As) (rest := rest) hc.1 (hC H.size) cw ⟨fun a U g mk q => by obtain ⟨q0, q1, qP, qK, qN⟩ := q; exact ⟨q0, q1, qP, va_K.moved (u := U) (U := U.calling g mk a) (Vm.Alike.refl U.vm) qK, NW.same (u := U) (U := U.calling g mk a) rfl qN⟩, va_recv hc.2.2.2.1 hP hcl hq, fun U hU hW => ⟨rfl, by rw [hU], by rw [hU]; exact hP, va_K.moved hW.alike hc.2.2.2.1, hc.2.2.2.2.2.warm hW⟩⟩ rfl hn hl.1 rfl (lv_room hw) hd ⟨hnc.1, hnc.2⟩) (hS) (fun q _ h => hF q h) hF (fun u t H1 locs1 ht hvm hw hB hz1 hk1 hS1 => kk u hw H1 locs1 la (by rw [← ht]; exact hB) hS1 hl)
theorem rm_callvS (hc : CX p s m args meth c cc nL own ret D cy ad) {y0 : MethodName} {bytes : ByteArray} {maxL n : Nat} {rt : Option FieldType} {rm : Room} {index : Nat} {As rest : List Value} {post : Mem → Prop} (hd : decode cc pc = .ok (.invokestatic index, 3)) (hC : Ctv l y0 bytes maxL rt rm D cy ad As x post) (hL : MS own index y0 bytes maxL rt n) (hn : As.length = n) (hst : st = As.reverse ++ rest) (hw : (rest.map fun v => v.category).sum ≤ 8) (hR : RmOk rm R maxL) (hnc : nc ≤ R.cells ∧ ns ≤ R.slots) (kk : ∀ (y : Mem), post y → RM p l e R s m args below meth c nL (AA ad s.heap.size) (GG D cy ad y) nc ns Q (pc + 3) ls rest) : RM p l e R s m args below meth c nL (AA ad s.heap.size) (GG D cy ad x) nc ns Q pc ls st := by
  intro H locs la hP hS hl
  subst hst
  have hF : ∀ q, AA ad H.size q → AA ad s.heap.size q := fun q h => h.elim Or.inl (fun h => Or.inr (Nat.le_trans hS.1 h))
  exact va_callv (va_runS (As := As) (rest := rest) hc.1 (hC H.size) ⟨callB_of n hc.1.2.2.2.2 (goodTB hL.1.2.2.1) rfl hR.1.1 hR.1.2 (hc.1.2.2.2.2 _ hL.1.2.1) (hc.1.2.2.2.2 _ hL.1.1) hL.1.2.2.2 hR.2, hc.1.2.2.2.2 _ hL.2⟩ ⟨fun a U g mk q => by obtain ⟨q0, q1, qP, qK, qN⟩ := q; exact ⟨q0, q1, qP, va_K.moved (u := U) (U := U.calling g mk a) (Vm.Alike.refl U.vm) qK, NW.same (u := U) (U := U.calling g mk a) rfl qN⟩, fun U hU hW => ⟨rfl, by rw [hU], by rw [hU]; exact hP, va_K.moved hW.alike hc.2.2.2.1, hc.2.2.2.2.2.warm hW⟩⟩ rfl hn hl.1 rfl (lv_room hw) hd ⟨hnc.1, hnc.2⟩) (hS) (fun q _ h => hF q h) hF (fun u t H1 locs1 ht hvm hw hB hz1 hk1 hS1 => kk u hw H1 locs1 la (by rw [← ht]; exact hB) hS1 hl)
end ROWS2
end
section
theorem yk_X8_fob : Cond.initialized yX8_fob.cls ∈ TB ∧ Cond.code yX8_fob cX8_fob 3 (some .int) ∈ TB ∧ (yX8_fob.cls ≠ "java/lang/invoke/MethodHandle" ∧ yX8_fob.cls ≠ "java/lang/invoke/VarHandle" ∧ (parseMethodDescriptor yX8_fob.desc).map (fun d => d.parameters.length) = some 2) := ⟨tbm (i := 8) (by decide +kernel) (by decide +kernel), tbm (i := 233) (by decide +kernel) (by decide +kernel), by decide +kernel⟩
theorem yk_X8_needIndex : Cond.initialized yX8_needIndex.cls ∈ TB ∧ Cond.code yX8_needIndex cX8_needIndex 2 none ∈ TB ∧ (yX8_needIndex.cls ≠ "java/lang/invoke/MethodHandle" ∧ yX8_needIndex.cls ≠ "java/lang/invoke/VarHandle" ∧ (parseMethodDescriptor yX8_needIndex.desc).map (fun d => d.parameters.length) = some 2) := ⟨tbm (i := 8) (by decide +kernel) (by decide +kernel), tbm (i := 236) (by decide +kernel) (by decide +kernel), by decide +kernel⟩
theorem yk_X8_needRange : Cond.initialized yX8_needRange.cls ∈ TB ∧ Cond.code yX8_needRange cX8_needRange 3 none ∈ TB ∧ (yX8_needRange.cls ≠ "java/lang/invoke/MethodHandle" ∧ yX8_needRange.cls ≠ "java/lang/invoke/VarHandle" ∧ (parseMethodDescriptor yX8_needRange.desc).map (fun d => d.parameters.length) = some 3) := ⟨tbm (i := 8) (by decide +kernel) (by decide +kernel), tbm (i := 302) (by decide +kernel) (by decide +kernel), by decide +kernel⟩
theorem yk_X8_needArgument : Cond.initialized yX8_needArgument.cls ∈ TB ∧ Cond.code yX8_needArgument cX8_needArgument 1 none ∈ TB ∧ (yX8_needArgument.cls ≠ "java/lang/invoke/MethodHandle" ∧ yX8_needArgument.cls ≠ "java/lang/invoke/VarHandle" ∧ (parseMethodDescriptor yX8_needArgument.desc).map (fun d => d.parameters.length) = some 1) := ⟨tbm (i := 8) (by decide +kernel) (by decide +kernel), tbm (i := 305) (by decide +kernel) (by decide +kernel), by decide +kernel⟩
theorem yk_X2_look : Cond.initialized yX2_look.cls ∈ TB ∧ Cond.code yX2_look cX2_look 2 (some .int) ∈ TB ∧ (yX2_look.cls ≠ "java/lang/invoke/MethodHandle" ∧ yX2_look.cls ≠ "java/lang/invoke/VarHandle" ∧ (parseMethodDescriptor yX2_look.desc).map (fun d => d.parameters.length) = some 1) := ⟨tbm (i := 10) (by decide +kernel) (by decide +kernel), tbm (i := 324) (by decide +kernel) (by decide +kernel), by decide +kernel⟩
theorem yk_X8_counterBehind : Cond.initialized yX8_counterBehind.cls ∈ TB ∧ Cond.code yX8_counterBehind cX8_counterBehind 1 (some .int) ∈ TB ∧ (yX8_counterBehind.cls ≠ "java/lang/invoke/MethodHandle" ∧ yX8_counterBehind.cls ≠ "java/lang/invoke/VarHandle" ∧ (parseMethodDescriptor yX8_counterBehind.desc).map (fun d => d.parameters.length) = some 1) := ⟨tbm (i := 8) (by decide +kernel) (by decide +kernel), tbm (i := 327) (by decide +kernel) (by decide +kernel), by decide +kernel⟩
theorem yk_X8_numberOf : Cond.initialized yX8_numberOf.cls ∈ TB ∧ Cond.code yX8_numberOf cX8_numberOf 2 (some .int) ∈ TB ∧ (yX8_numberOf.cls ≠ "java/lang/invoke/MethodHandle" ∧ yX8_numberOf.cls ≠ "java/lang/invoke/VarHandle" ∧ (parseMethodDescriptor yX8_numberOf.desc).map (fun d => d.parameters.length) = some 2) := ⟨tbm (i := 8) (by decide +kernel) (by decide +kernel), tbm (i := 330) (by decide +kernel) (by decide +kernel), by decide +kernel⟩
theorem yk_X8_door : Cond.initialized yX8_door.cls ∈ TB ∧ Cond.code yX8_door cX8_door 3 (some .int) ∈ TB ∧ (yX8_door.cls ≠ "java/lang/invoke/MethodHandle" ∧ yX8_door.cls ≠ "java/lang/invoke/VarHandle" ∧ (parseMethodDescriptor yX8_door.desc).map (fun d => d.parameters.length) = some 2) := ⟨tbm (i := 8) (by decide +kernel) (by decide +kernel), tbm (i := 336) (by decide +kernel) (by decide +kernel), by decide +kernel⟩
theorem yk_X1_look : Cond.initialized yX1_look.cls ∈ TB ∧ Cond.code yX1_look cX1_look 3 (some .int) ∈ TB ∧ (yX1_look.cls ≠ "java/lang/invoke/MethodHandle" ∧ yX1_look.cls ≠ "java/lang/invoke/VarHandle" ∧ (parseMethodDescriptor yX1_look.desc).map (fun d => d.parameters.length) = some 2) := ⟨tbm (i := 11) (by decide +kernel) (by decide +kernel), tbm (i := 340) (by decide +kernel) (by decide +kernel), by decide +kernel⟩
theorem yk_X1_isLocked : Cond.initialized yX1_isLocked.cls ∈ TB ∧ Cond.code yX1_isLocked cX1_isLocked 2 (some .boolean) ∈ TB ∧ (yX1_isLocked.cls ≠ "java/lang/invoke/MethodHandle" ∧ yX1_isLocked.cls ≠ "java/lang/invoke/VarHandle" ∧ (parseMethodDescriptor yX1_isLocked.desc).map (fun d => d.parameters.length) = some 1) := ⟨tbm (i := 11) (by decide +kernel) (by decide +kernel), tbm (i := 344) (by decide +kernel) (by decide +kernel), by decide +kernel⟩
theorem yk_X1_learntSlots : Cond.initialized yX1_learntSlots.cls ∈ TB ∧ Cond.code yX1_learntSlots cX1_learntSlots 6 (some .int) ∈ TB ∧ (yX1_learntSlots.cls ≠ "java/lang/invoke/MethodHandle" ∧ yX1_learntSlots.cls ≠ "java/lang/invoke/VarHandle" ∧ (parseMethodDescriptor yX1_learntSlots.desc).map (fun d => d.parameters.length) = some 0) := ⟨tbm (i := 11) (by decide +kernel) (by decide +kernel), tbm (i := 348) (by decide +kernel) (by decide +kernel), by decide +kernel⟩
theorem yk_X5_look : Cond.initialized yX5_look.cls ∈ TB ∧ Cond.code yX5_look cX5_look 2 (some .int) ∈ TB ∧ (yX5_look.cls ≠ "java/lang/invoke/MethodHandle" ∧ yX5_look.cls ≠ "java/lang/invoke/VarHandle" ∧ (parseMethodDescriptor yX5_look.desc).map (fun d => d.parameters.length) = some 1) := ⟨tbm (i := 12) (by decide +kernel) (by decide +kernel), tbm (i := 352) (by decide +kernel) (by decide +kernel), by decide +kernel⟩
theorem yk_X8_air : Cond.initialized yX8_air.cls ∈ TB ∧ Cond.code yX8_air cX8_air 2 (some .int) ∈ TB ∧ (yX8_air.cls ≠ "java/lang/invoke/MethodHandle" ∧ yX8_air.cls ≠ "java/lang/invoke/VarHandle" ∧ (parseMethodDescriptor yX8_air.desc).map (fun d => d.parameters.length) = some 1) := ⟨tbm (i := 8) (by decide +kernel) (by decide +kernel), tbm (i := 356) (by decide +kernel) (by decide +kernel), by decide +kernel⟩
theorem yk_X0_number : Cond.initialized yX0_number.cls ∈ TB ∧ Cond.code yX0_number cX0_number 2 (some .int) ∈ TB ∧ (yX0_number.cls ≠ "java/lang/invoke/MethodHandle" ∧ yX0_number.cls ≠ "java/lang/invoke/VarHandle" ∧ (parseMethodDescriptor yX0_number.desc).map (fun d => d.parameters.length) = some 1) := ⟨tbm (i := 13) (by decide +kernel) (by decide +kernel), tbm (i := 360) (by decide +kernel) (by decide +kernel), by decide +kernel⟩
theorem yk_X8_count : Cond.initialized yX8_count.cls ∈ TB ∧ Cond.code yX8_count cX8_count 2 (some .int) ∈ TB ∧ (yX8_count.cls ≠ "java/lang/invoke/MethodHandle" ∧ yX8_count.cls ≠ "java/lang/invoke/VarHandle" ∧ (parseMethodDescriptor yX8_count.desc).map (fun d => d.parameters.length) = some 1) := ⟨tbm (i := 8) (by decide +kernel) (by decide +kernel), tbm (i := 364) (by decide +kernel) (by decide +kernel), by decide +kernel⟩
theorem yk_X8_counted : Cond.initialized yX8_counted.cls ∈ TB ∧ Cond.code yX8_counted cX8_counted 2 (some .int) ∈ TB ∧ (yX8_counted.cls ≠ "java/lang/invoke/MethodHandle" ∧ yX8_counted.cls ≠ "java/lang/invoke/VarHandle" ∧ (parseMethodDescriptor yX8_counted.desc).map (fun d => d.parameters.length) = some 1) := ⟨tbm (i := 8) (by decide +kernel) (by decide +kernel), tbm (i := 368) (by decide +kernel) (by decide +kernel), by decide +kernel⟩
theorem yk_X6_presses : Cond.initialized yX6_presses.cls ∈ TB ∧ Cond.code yX6_presses cX6_presses 6 (some .int) ∈ TB ∧ (yX6_presses.cls ≠ "java/lang/invoke/MethodHandle" ∧ yX6_presses.cls ≠ "java/lang/invoke/VarHandle" ∧ (parseMethodDescriptor yX6_presses.desc).map (fun d => d.parameters.length) = some 0) := ⟨tbm (i := 9) (by decide +kernel) (by decide +kernel), tbm (i := 372) (by decide +kernel) (by decide +kernel), by decide +kernel⟩
theorem yk_X6_timesOpened : Cond.initialized yX6_timesOpened.cls ∈ TB ∧ Cond.code yX6_timesOpened cX6_timesOpened 6 (some .int) ∈ TB ∧ (yX6_timesOpened.cls ≠ "java/lang/invoke/MethodHandle" ∧ yX6_timesOpened.cls ≠ "java/lang/invoke/VarHandle" ∧ (parseMethodDescriptor yX6_timesOpened.desc).map (fun d => d.parameters.length) = some 0) := ⟨tbm (i := 9) (by decide +kernel) (by decide +kernel), tbm (i := 376) (by decide +kernel) (by decide +kernel), by decide +kernel⟩
theorem yk_X6_openDoors : Cond.initialized yX6_openDoors.cls ∈ TB ∧ Cond.code yX6_openDoors cX6_openDoors 6 (some .int) ∈ TB ∧ (yX6_openDoors.cls ≠ "java/lang/invoke/MethodHandle" ∧ yX6_openDoors.cls ≠ "java/lang/invoke/VarHandle" ∧ (parseMethodDescriptor yX6_openDoors.desc).map (fun d => d.parameters.length) = some 0) := ⟨tbm (i := 9) (by decide +kernel) (by decide +kernel), tbm (i := 380) (by decide +kernel) (by decide +kernel), by decide +kernel⟩
theorem yk_X6_lockedDoors : Cond.initialized yX6_lockedDoors.cls ∈ TB ∧ Cond.code yX6_lockedDoors cX6_lockedDoors 6 (some .int) ∈ TB ∧ (yX6_lockedDoors.cls ≠ "java/lang/invoke/MethodHandle" ∧ yX6_lockedDoors.cls ≠ "java/lang/invoke/VarHandle" ∧ (parseMethodDescriptor yX6_lockedDoors.desc).map (fun d => d.parameters.length) = some 0) := ⟨tbm (i := 9) (by decide +kernel) (by decide +kernel), tbm (i := 384) (by decide +kernel) (by decide +kernel), by decide +kernel⟩
theorem yk_X8_ifHeard : Cond.initialized yX8_ifHeard.cls ∈ TB ∧ Cond.code yX8_ifHeard cX8_ifHeard 3 (some .int) ∈ TB ∧ (yX8_ifHeard.cls ≠ "java/lang/invoke/MethodHandle" ∧ yX8_ifHeard.cls ≠ "java/lang/invoke/VarHandle" ∧ (parseMethodDescriptor yX8_ifHeard.desc).map (fun d => d.parameters.length) = some 2) := ⟨tbm (i := 8) (by decide +kernel) (by decide +kernel), tbm (i := 389) (by decide +kernel) (by decide +kernel), by decide +kernel⟩
theorem yk_X8_tryNumber : Cond.initialized yX8_tryNumber.cls ∈ TB ∧ Cond.code yX8_tryNumber cX8_tryNumber 3 (some .int) ∈ TB ∧ (yX8_tryNumber.cls ≠ "java/lang/invoke/MethodHandle" ∧ yX8_tryNumber.cls ≠ "java/lang/invoke/VarHandle" ∧ (parseMethodDescriptor yX8_tryNumber.desc).map (fun d => d.parameters.length) = some 2) := ⟨tbm (i := 8) (by decide +kernel) (by decide +kernel), tbm (i := 393) (by decide +kernel) (by decide +kernel), by decide +kernel⟩
theorem yk_X1_copyFrom : Cond.initialized yX1_copyFrom.cls ∈ TB ∧ Cond.code yX1_copyFrom cX1_copyFrom 3 none ∈ TB ∧ (yX1_copyFrom.cls ≠ "java/lang/invoke/MethodHandle" ∧ yX1_copyFrom.cls ≠ "java/lang/invoke/VarHandle" ∧ (parseMethodDescriptor yX1_copyFrom.desc).map (fun d => d.parameters.length) = some 1) := ⟨tbm (i := 11) (by decide +kernel) (by decide +kernel), tbm (i := 397) (by decide +kernel) (by decide +kernel), by decide +kernel⟩
theorem yk_X5_copyFrom : Cond.initialized yX5_copyFrom.cls ∈ TB ∧ Cond.code yX5_copyFrom cX5_copyFrom 2 none ∈ TB ∧ (yX5_copyFrom.cls ≠ "java/lang/invoke/MethodHandle" ∧ yX5_copyFrom.cls ≠ "java/lang/invoke/VarHandle" ∧ (parseMethodDescriptor yX5_copyFrom.desc).map (fun d => d.parameters.length) = some 1) := ⟨tbm (i := 12) (by decide +kernel) (by decide +kernel), tbm (i := 401) (by decide +kernel) (by decide +kernel), by decide +kernel⟩
theorem yk_X1_hear : Cond.initialized yX1_hear.cls ∈ TB ∧ Cond.code yX1_hear cX1_hear 8 (some .int) ∈ TB ∧ (yX1_hear.cls ≠ "java/lang/invoke/MethodHandle" ∧ yX1_hear.cls ≠ "java/lang/invoke/VarHandle" ∧ (parseMethodDescriptor yX1_hear.desc).map (fun d => d.parameters.length) = some 2) := ⟨tbm (i := 11) (by decide +kernel) (by decide +kernel), tbm (i := 405) (by decide +kernel) (by decide +kernel), by decide +kernel⟩
theorem yk_X5_stepsTo : Cond.initialized yX5_stepsTo.cls ∈ TB ∧ Cond.code yX5_stepsTo cX5_stepsTo 5 (some .int) ∈ TB ∧ (yX5_stepsTo.cls ≠ "java/lang/invoke/MethodHandle" ∧ yX5_stepsTo.cls ≠ "java/lang/invoke/VarHandle" ∧ (parseMethodDescriptor yX5_stepsTo.desc).map (fun d => d.parameters.length) = some 2) := ⟨tbm (i := 12) (by decide +kernel) (by decide +kernel), tbm (i := 409) (by decide +kernel) (by decide +kernel), by decide +kernel⟩
theorem yk_X5_take : Cond.initialized yX5_take.cls ∈ TB ∧ Cond.code yX5_take cX5_take 4 (some .boolean) ∈ TB ∧ (yX5_take.cls ≠ "java/lang/invoke/MethodHandle" ∧ yX5_take.cls ≠ "java/lang/invoke/VarHandle" ∧ (parseMethodDescriptor yX5_take.desc).map (fun d => d.parameters.length) = some 2) := ⟨tbm (i := 12) (by decide +kernel) (by decide +kernel), tbm (i := 415) (by decide +kernel) (by decide +kernel), by decide +kernel⟩
theorem yk_X8_opensIn : Cond.initialized yX8_opensIn.cls ∈ TB ∧ Cond.code yX8_opensIn cX8_opensIn 3 (some .int) ∈ TB ∧ (yX8_opensIn.cls ≠ "java/lang/invoke/MethodHandle" ∧ yX8_opensIn.cls ≠ "java/lang/invoke/VarHandle" ∧ (parseMethodDescriptor yX8_opensIn.desc).map (fun d => d.parameters.length) = some 2) := ⟨tbm (i := 8) (by decide +kernel) (by decide +kernel), tbm (i := 419) (by decide +kernel) (by decide +kernel), by decide +kernel⟩
theorem yk_X8_pressesToOpen : Cond.initialized yX8_pressesToOpen.cls ∈ TB ∧ Cond.code yX8_pressesToOpen cX8_pressesToOpen 7 (some .int) ∈ TB ∧ (yX8_pressesToOpen.cls ≠ "java/lang/invoke/MethodHandle" ∧ yX8_pressesToOpen.cls ≠ "java/lang/invoke/VarHandle" ∧ (parseMethodDescriptor yX8_pressesToOpen.desc).map (fun d => d.parameters.length) = some 2) := ⟨tbm (i := 8) (by decide +kernel) (by decide +kernel), tbm (i := 423) (by decide +kernel) (by decide +kernel), by decide +kernel⟩
theorem yk_X8_unheard : Cond.initialized yX8_unheard.cls ∈ TB ∧ Cond.code yX8_unheard cX8_unheard 3 (some .int) ∈ TB ∧ (yX8_unheard.cls ≠ "java/lang/invoke/MethodHandle" ∧ yX8_unheard.cls ≠ "java/lang/invoke/VarHandle" ∧ (parseMethodDescriptor yX8_unheard.desc).map (fun d => d.parameters.length) = some 2) := ⟨tbm (i := 8) (by decide +kernel) (by decide +kernel), tbm (i := 432) (by decide +kernel) (by decide +kernel), by decide +kernel⟩
theorem yk_X8_mostUnheard : Cond.initialized yX8_mostUnheard.cls ∈ TB ∧ Cond.code yX8_mostUnheard cX8_mostUnheard 6 (some .int) ∈ TB ∧ (yX8_mostUnheard.cls ≠ "java/lang/invoke/MethodHandle" ∧ yX8_mostUnheard.cls ≠ "java/lang/invoke/VarHandle" ∧ (parseMethodDescriptor yX8_mostUnheard.desc).map (fun d => d.parameters.length) = some 2) := ⟨tbm (i := 8) (by decide +kernel) (by decide +kernel), tbm (i := 436) (by decide +kernel) (by decide +kernel), by decide +kernel⟩
theorem yk_L_low : Cond.initialized yL_low.cls ∈ TB ∧ Cond.code yL_low cL_low 2 (some .int) ∈ TB ∧ (yL_low.cls ≠ "java/lang/invoke/MethodHandle" ∧ yL_low.cls ≠ "java/lang/invoke/VarHandle" ∧ (parseMethodDescriptor yL_low.desc).map (fun d => d.parameters.length) = some 2) := ⟨tbm (i := 7) (by decide +kernel) (by decide +kernel), tbm (i := 439) (by decide +kernel) (by decide +kernel), by decide +kernel⟩
theorem yk_L_cell : Cond.initialized yL_cell.cls ∈ TB ∧ Cond.code yL_cell cL_cell 2 (some .int) ∈ TB ∧ (yL_cell.cls ≠ "java/lang/invoke/MethodHandle" ∧ yL_cell.cls ≠ "java/lang/invoke/VarHandle" ∧ (parseMethodDescriptor yL_cell.desc).map (fun d => d.parameters.length) = some 2) := ⟨tbm (i := 7) (by decide +kernel) (by decide +kernel), tbm (i := 443) (by decide +kernel) (by decide +kernel), by decide +kernel⟩
theorem yk_L_yard : Cond.initialized yL_yard.cls ∈ TB ∧ Cond.code yL_yard cL_yard 10 (some .boolean) ∈ TB ∧ (yL_yard.cls ≠ "java/lang/invoke/MethodHandle" ∧ yL_yard.cls ≠ "java/lang/invoke/VarHandle" ∧ (parseMethodDescriptor yL_yard.desc).map (fun d => d.parameters.length) = some 1) := ⟨tbm (i := 7) (by decide +kernel) (by decide +kernel), tbm (i := 447) (by decide +kernel) (by decide +kernel), by decide +kernel⟩
theorem yk_X8_slot : Cond.initialized yX8_slot.cls ∈ TB ∧ Cond.code yX8_slot cX8_slot 4 (some .int) ∈ TB ∧ (yX8_slot.cls ≠ "java/lang/invoke/MethodHandle" ∧ yX8_slot.cls ≠ "java/lang/invoke/VarHandle" ∧ (parseMethodDescriptor yX8_slot.desc).map (fun d => d.parameters.length) = some 3) := ⟨tbm (i := 8) (by decide +kernel) (by decide +kernel), tbm (i := 452) (by decide +kernel) (by decide +kernel), by decide +kernel⟩
theorem yk_X8_useful : Cond.initialized yX8_useful.cls ∈ TB ∧ Cond.code yX8_useful cX8_useful 2 (some .int) ∈ TB ∧ (yX8_useful.cls ≠ "java/lang/invoke/MethodHandle" ∧ yX8_useful.cls ≠ "java/lang/invoke/VarHandle" ∧ (parseMethodDescriptor yX8_useful.desc).map (fun d => d.parameters.length) = some 1) := ⟨tbm (i := 8) (by decide +kernel) (by decide +kernel), tbm (i := 457) (by decide +kernel) (by decide +kernel), by decide +kernel⟩
theorem yk_X8_firstUseful : Cond.initialized yX8_firstUseful.cls ∈ TB ∧ Cond.code yX8_firstUseful cX8_firstUseful 3 (some .int) ∈ TB ∧ (yX8_firstUseful.cls ≠ "java/lang/invoke/MethodHandle" ∧ yX8_firstUseful.cls ≠ "java/lang/invoke/VarHandle" ∧ (parseMethodDescriptor yX8_firstUseful.desc).map (fun d => d.parameters.length) = some 1) := ⟨tbm (i := 8) (by decide +kernel) (by decide +kernel), tbm (i := 461) (by decide +kernel) (by decide +kernel), by decide +kernel⟩
theorem yk_X8_setting : Cond.initialized yX8_setting.cls ∈ TB ∧ Cond.code yX8_setting cX8_setting 2 (some .int) ∈ TB ∧ (yX8_setting.cls ≠ "java/lang/invoke/MethodHandle" ∧ yX8_setting.cls ≠ "java/lang/invoke/VarHandle" ∧ (parseMethodDescriptor yX8_setting.desc).map (fun d => d.parameters.length) = some 1) := ⟨tbm (i := 8) (by decide +kernel) (by decide +kernel), tbm (i := 465) (by decide +kernel) (by decide +kernel), by decide +kernel⟩
theorem yk_X4_value : Cond.initialized yX4_value.cls ∈ TB ∧ Cond.code yX4_value cX4_value 2 (some .int) ∈ TB ∧ (yX4_value.cls ≠ "java/lang/invoke/MethodHandle" ∧ yX4_value.cls ≠ "java/lang/invoke/VarHandle" ∧ (parseMethodDescriptor yX4_value.desc).map (fun d => d.parameters.length) = some 1) := ⟨tbm (i := 14) (by decide +kernel) (by decide +kernel), tbm (i := 469) (by decide +kernel) (by decide +kernel), by decide +kernel⟩
theorem yk_X8_openShare : Cond.initialized yX8_openShare.cls ∈ TB ∧ Cond.code yX8_openShare cX8_openShare 3 (some .double) ∈ TB ∧ (yX8_openShare.cls ≠ "java/lang/invoke/MethodHandle" ∧ yX8_openShare.cls ≠ "java/lang/invoke/VarHandle" ∧ (parseMethodDescriptor yX8_openShare.desc).map (fun d => d.parameters.length) = some 0) := ⟨tbm (i := 8) (by decide +kernel) (by decide +kernel), tbm (i := 473) (by decide +kernel) (by decide +kernel), by decide +kernel⟩
theorem yk_X6_wrongNumbers : Cond.initialized yX6_wrongNumbers.cls ∈ TB ∧ Cond.code yX6_wrongNumbers cX6_wrongNumbers 6 (some .int) ∈ TB ∧ (yX6_wrongNumbers.cls ≠ "java/lang/invoke/MethodHandle" ∧ yX6_wrongNumbers.cls ≠ "java/lang/invoke/VarHandle" ∧ (parseMethodDescriptor yX6_wrongNumbers.desc).map (fun d => d.parameters.length) = some 0) := ⟨tbm (i := 9) (by decide +kernel) (by decide +kernel), tbm (i := 477) (by decide +kernel) (by decide +kernel), by decide +kernel⟩
theorem yk_L_act : Cond.initialized yL_act.cls ∈ TB ∧ Cond.code yL_act cL_act 7 (some .int) ∈ TB ∧ (yL_act.cls ≠ "java/lang/invoke/MethodHandle" ∧ yL_act.cls ≠ "java/lang/invoke/VarHandle" ∧ (parseMethodDescriptor yL_act.desc).map (fun d => d.parameters.length) = some 3) := ⟨tbm (i := 7) (by decide +kernel) (by decide +kernel), tbm (i := 480) (by decide +kernel) (by decide +kernel), by decide +kernel⟩
theorem yk_X8_learn : Cond.initialized yX8_learn.cls ∈ TB ∧ Cond.code yX8_learn cX8_learn 5 (some .int) ∈ TB ∧ (yX8_learn.cls ≠ "java/lang/invoke/MethodHandle" ∧ yX8_learn.cls ≠ "java/lang/invoke/VarHandle" ∧ (parseMethodDescriptor yX8_learn.desc).map (fun d => d.parameters.length) = some 3) := ⟨tbm (i := 8) (by decide +kernel) (by decide +kernel), tbm (i := 484) (by decide +kernel) (by decide +kernel), by decide +kernel⟩
theorem yk_X3_keep : Cond.initialized yX3_keep.cls ∈ TB ∧ Cond.code yX3_keep cX3_keep 2 none ∈ TB ∧ (yX3_keep.cls ≠ "java/lang/invoke/MethodHandle" ∧ yX3_keep.cls ≠ "java/lang/invoke/VarHandle" ∧ (parseMethodDescriptor yX3_keep.desc).map (fun d => d.parameters.length) = some 1) := ⟨tbm (i := 15) (by decide +kernel) (by decide +kernel), tbm (i := 488) (by decide +kernel) (by decide +kernel), by decide +kernel⟩
theorem yk_X6_copyFrom : Cond.initialized yX6_copyFrom.cls ∈ TB ∧ Cond.code yX6_copyFrom cX6_copyFrom 3 none ∈ TB ∧ (yX6_copyFrom.cls ≠ "java/lang/invoke/MethodHandle" ∧ yX6_copyFrom.cls ≠ "java/lang/invoke/VarHandle" ∧ (parseMethodDescriptor yX6_copyFrom.desc).map (fun d => d.parameters.length) = some 1) := ⟨tbm (i := 9) (by decide +kernel) (by decide +kernel), tbm (i := 495) (by decide +kernel) (by decide +kernel), by decide +kernel⟩
theorem yk_X2_copyFrom : Cond.initialized yX2_copyFrom.cls ∈ TB ∧ Cond.code yX2_copyFrom cX2_copyFrom 2 none ∈ TB ∧ (yX2_copyFrom.cls ≠ "java/lang/invoke/MethodHandle" ∧ yX2_copyFrom.cls ≠ "java/lang/invoke/VarHandle" ∧ (parseMethodDescriptor yX2_copyFrom.desc).map (fun d => d.parameters.length) = some 1) := ⟨tbm (i := 10) (by decide +kernel) (by decide +kernel), tbm (i := 499) (by decide +kernel) (by decide +kernel), by decide +kernel⟩
theorem yk_X0_copyFrom : Cond.initialized yX0_copyFrom.cls ∈ TB ∧ Cond.code yX0_copyFrom cX0_copyFrom 2 none ∈ TB ∧ (yX0_copyFrom.cls ≠ "java/lang/invoke/MethodHandle" ∧ yX0_copyFrom.cls ≠ "java/lang/invoke/VarHandle" ∧ (parseMethodDescriptor yX0_copyFrom.desc).map (fun d => d.parameters.length) = some 1) := ⟨tbm (i := 13) (by decide +kernel) (by decide +kernel), tbm (i := 504) (by decide +kernel) (by decide +kernel), by decide +kernel⟩
theorem yk_X4_copyFrom : Cond.initialized yX4_copyFrom.cls ∈ TB ∧ Cond.code yX4_copyFrom cX4_copyFrom 2 none ∈ TB ∧ (yX4_copyFrom.cls ≠ "java/lang/invoke/MethodHandle" ∧ yX4_copyFrom.cls ≠ "java/lang/invoke/VarHandle" ∧ (parseMethodDescriptor yX4_copyFrom.desc).map (fun d => d.parameters.length) = some 1) := ⟨tbm (i := 14) (by decide +kernel) (by decide +kernel), tbm (i := 511) (by decide +kernel) (by decide +kernel), by decide +kernel⟩
theorem yk_X5_learnFrom : Cond.initialized yX5_learnFrom.cls ∈ TB ∧ Cond.code yX5_learnFrom cX5_learnFrom 2 none ∈ TB ∧ (yX5_learnFrom.cls ≠ "java/lang/invoke/MethodHandle" ∧ yX5_learnFrom.cls ≠ "java/lang/invoke/VarHandle" ∧ (parseMethodDescriptor yX5_learnFrom.desc).map (fun d => d.parameters.length) = some 1) := ⟨tbm (i := 12) (by decide +kernel) (by decide +kernel), tbm (i := 516) (by decide +kernel) (by decide +kernel), by decide +kernel⟩
theorem yk_X8_forget : Cond.initialized yX8_forget.cls ∈ TB ∧ Cond.code yX8_forget cX8_forget 5 (some .int) ∈ TB ∧ (yX8_forget.cls ≠ "java/lang/invoke/MethodHandle" ∧ yX8_forget.cls ≠ "java/lang/invoke/VarHandle" ∧ (parseMethodDescriptor yX8_forget.desc).map (fun d => d.parameters.length) = some 2) := ⟨tbm (i := 8) (by decide +kernel) (by decide +kernel), tbm (i := 521) (by decide +kernel) (by decide +kernel), by decide +kernel⟩
theorem yk_X5_empty : Cond.initialized yX5_empty.cls ∈ TB ∧ Cond.code yX5_empty cX5_empty 1 none ∈ TB ∧ (yX5_empty.cls ≠ "java/lang/invoke/MethodHandle" ∧ yX5_empty.cls ≠ "java/lang/invoke/VarHandle" ∧ (parseMethodDescriptor yX5_empty.desc).map (fun d => d.parameters.length) = some 0) := ⟨tbm (i := 12) (by decide +kernel) (by decide +kernel), tbm (i := 525) (by decide +kernel) (by decide +kernel), by decide +kernel⟩
theorem yk_X8_shut : Cond.initialized yX8_shut.cls ∈ TB ∧ Cond.code yX8_shut cX8_shut 4 (some .int) ∈ TB ∧ (yX8_shut.cls ≠ "java/lang/invoke/MethodHandle" ∧ yX8_shut.cls ≠ "java/lang/invoke/VarHandle" ∧ (parseMethodDescriptor yX8_shut.desc).map (fun d => d.parameters.length) = some 1) := ⟨tbm (i := 8) (by decide +kernel) (by decide +kernel), tbm (i := 529) (by decide +kernel) (by decide +kernel), by decide +kernel⟩
theorem yk_X8_unlock : Cond.initialized yX8_unlock.cls ∈ TB ∧ Cond.code yX8_unlock cX8_unlock 4 (some .int) ∈ TB ∧ (yX8_unlock.cls ≠ "java/lang/invoke/MethodHandle" ∧ yX8_unlock.cls ≠ "java/lang/invoke/VarHandle" ∧ (parseMethodDescriptor yX8_unlock.desc).map (fun d => d.parameters.length) = some 1) := ⟨tbm (i := 8) (by decide +kernel) (by decide +kernel), tbm (i := 533) (by decide +kernel) (by decide +kernel), by decide +kernel⟩
theorem yk_X8_make : Cond.initialized yX8_make.cls ∈ TB ∧ Cond.code yX8_make cX8_make 6 (some .int) ∈ TB ∧ (yX8_make.cls ≠ "java/lang/invoke/MethodHandle" ∧ yX8_make.cls ≠ "java/lang/invoke/VarHandle" ∧ (parseMethodDescriptor yX8_make.desc).map (fun d => d.parameters.length) = some 3) := ⟨tbm (i := 8) (by decide +kernel) (by decide +kernel), tbm (i := 537) (by decide +kernel) (by decide +kernel), by decide +kernel⟩
theorem yk_X8_battery : Cond.initialized yX8_battery.cls ∈ TB ∧ Cond.code yX8_battery cX8_battery 5 (some .int) ∈ TB ∧ (yX8_battery.cls ≠ "java/lang/invoke/MethodHandle" ∧ yX8_battery.cls ≠ "java/lang/invoke/VarHandle" ∧ (parseMethodDescriptor yX8_battery.desc).map (fun d => d.parameters.length) = some 2) := ⟨tbm (i := 8) (by decide +kernel) (by decide +kernel), tbm (i := 541) (by decide +kernel) (by decide +kernel), by decide +kernel⟩
theorem yk_X8_set : Cond.initialized yX8_set.cls ∈ TB ∧ Cond.code yX8_set cX8_set 4 (some .int) ∈ TB ∧ (yX8_set.cls ≠ "java/lang/invoke/MethodHandle" ∧ yX8_set.cls ≠ "java/lang/invoke/VarHandle" ∧ (parseMethodDescriptor yX8_set.desc).map (fun d => d.parameters.length) = some 2) := ⟨tbm (i := 8) (by decide +kernel) (by decide +kernel), tbm (i := 545) (by decide +kernel) (by decide +kernel), by decide +kernel⟩
theorem yk_X4_least : Cond.initialized yX4_least.cls ∈ TB ∧ Cond.code yX4_least cX4_least 1 (some .int) ∈ TB ∧ (yX4_least.cls ≠ "java/lang/invoke/MethodHandle" ∧ yX4_least.cls ≠ "java/lang/invoke/VarHandle" ∧ (parseMethodDescriptor yX4_least.desc).map (fun d => d.parameters.length) = some 1) := ⟨tbm (i := 14) (by decide +kernel) (by decide +kernel), tbm (i := 548) (by decide +kernel) (by decide +kernel), by decide +kernel⟩
theorem yk_X4_most : Cond.initialized yX4_most.cls ∈ TB ∧ Cond.code yX4_most cX4_most 1 (some .int) ∈ TB ∧ (yX4_most.cls ≠ "java/lang/invoke/MethodHandle" ∧ yX4_most.cls ≠ "java/lang/invoke/VarHandle" ∧ (parseMethodDescriptor yX4_most.desc).map (fun d => d.parameters.length) = some 1) := ⟨tbm (i := 14) (by decide +kernel) (by decide +kernel), tbm (i := 551) (by decide +kernel) (by decide +kernel), by decide +kernel⟩
theorem yk_X4_change : Cond.initialized yX4_change.cls ∈ TB ∧ Cond.code yX4_change cX4_change 3 none ∈ TB ∧ (yX4_change.cls ≠ "java/lang/invoke/MethodHandle" ∧ yX4_change.cls ≠ "java/lang/invoke/VarHandle" ∧ (parseMethodDescriptor yX4_change.desc).map (fun d => d.parameters.length) = some 2) := ⟨tbm (i := 14) (by decide +kernel) (by decide +kernel), tbm (i := 555) (by decide +kernel) (by decide +kernel), by decide +kernel⟩
theorem yk_X8_press : Cond.initialized yX8_press.cls ∈ TB ∧ Cond.code yX8_press cX8_press 3 (some .int) ∈ TB ∧ (yX8_press.cls ≠ "java/lang/invoke/MethodHandle" ∧ yX8_press.cls ≠ "java/lang/invoke/VarHandle" ∧ (parseMethodDescriptor yX8_press.desc).map (fun d => d.parameters.length) = some 2) := ⟨tbm (i := 8) (by decide +kernel) (by decide +kernel), tbm (i := 563) (by decide +kernel) (by decide +kernel), by decide +kernel⟩
theorem yk_X6_canPress : Cond.initialized yX6_canPress.cls ∈ TB ∧ Cond.code yX6_canPress cX6_canPress 2 (some .boolean) ∈ TB ∧ (yX6_canPress.cls ≠ "java/lang/invoke/MethodHandle" ∧ yX6_canPress.cls ≠ "java/lang/invoke/VarHandle" ∧ (parseMethodDescriptor yX6_canPress.desc).map (fun d => d.parameters.length) = some 1) := ⟨tbm (i := 9) (by decide +kernel) (by decide +kernel), tbm (i := 567) (by decide +kernel) (by decide +kernel), by decide +kernel⟩
theorem yk_X8_needState : Cond.initialized yX8_needState.cls ∈ TB ∧ Cond.code yX8_needState cX8_needState 1 none ∈ TB ∧ (yX8_needState.cls ≠ "java/lang/invoke/MethodHandle" ∧ yX8_needState.cls ≠ "java/lang/invoke/VarHandle" ∧ (parseMethodDescriptor yX8_needState.desc).map (fun d => d.parameters.length) = some 1) := ⟨tbm (i := 8) (by decide +kernel) (by decide +kernel), tbm (i := 570) (by decide +kernel) (by decide +kernel), by decide +kernel⟩
theorem yk_X6_pressFob : Cond.initialized yX6_pressFob.cls ∈ TB ∧ Cond.code yX6_pressFob cX6_pressFob 4 (some .int) ∈ TB ∧ (yX6_pressFob.cls ≠ "java/lang/invoke/MethodHandle" ∧ yX6_pressFob.cls ≠ "java/lang/invoke/VarHandle" ∧ (parseMethodDescriptor yX6_pressFob.desc).map (fun d => d.parameters.length) = some 2) := ⟨tbm (i := 9) (by decide +kernel) (by decide +kernel), tbm (i := 589) (by decide +kernel) (by decide +kernel), by decide +kernel⟩
theorem yk_X2_sendNext : Cond.initialized yX2_sendNext.cls ∈ TB ∧ Cond.code yX2_sendNext cX2_sendNext 1 (some .int) ∈ TB ∧ (yX2_sendNext.cls ≠ "java/lang/invoke/MethodHandle" ∧ yX2_sendNext.cls ≠ "java/lang/invoke/VarHandle" ∧ (parseMethodDescriptor yX2_sendNext.desc).map (fun d => d.parameters.length) = some 0) := ⟨tbm (i := 10) (by decide +kernel) (by decide +kernel), tbm (i := 594) (by decide +kernel) (by decide +kernel), by decide +kernel⟩
theorem yk_X0_record : Cond.initialized yX0_record.cls ∈ TB ∧ Cond.code yX0_record cX0_record 2 none ∈ TB ∧ (yX0_record.cls ≠ "java/lang/invoke/MethodHandle" ∧ yX0_record.cls ≠ "java/lang/invoke/VarHandle" ∧ (parseMethodDescriptor yX0_record.desc).map (fun d => d.parameters.length) = some 1) := ⟨tbm (i := 13) (by decide +kernel) (by decide +kernel), tbm (i := 598) (by decide +kernel) (by decide +kernel), by decide +kernel⟩
theorem yk_X6_send : Cond.initialized yX6_send.cls ∈ TB ∧ Cond.code yX6_send cX6_send 6 (some .int) ∈ TB ∧ (yX6_send.cls ≠ "java/lang/invoke/MethodHandle" ∧ yX6_send.cls ≠ "java/lang/invoke/VarHandle" ∧ (parseMethodDescriptor yX6_send.desc).map (fun d => d.parameters.length) = some 2) := ⟨tbm (i := 9) (by decide +kernel) (by decide +kernel), tbm (i := 603) (by decide +kernel) (by decide +kernel), by decide +kernel⟩
theorem yk_X8_again : Cond.initialized yX8_again.cls ∈ TB ∧ Cond.code yX8_again cX8_again 3 (some .int) ∈ TB ∧ (yX8_again.cls ≠ "java/lang/invoke/MethodHandle" ∧ yX8_again.cls ≠ "java/lang/invoke/VarHandle" ∧ (parseMethodDescriptor yX8_again.desc).map (fun d => d.parameters.length) = some 2) := ⟨tbm (i := 8) (by decide +kernel) (by decide +kernel), tbm (i := 612) (by decide +kernel) (by decide +kernel), by decide +kernel⟩
theorem yk_X6_sendAgain : Cond.initialized yX6_sendAgain.cls ∈ TB ∧ Cond.code yX6_sendAgain cX6_sendAgain 4 (some .int) ∈ TB ∧ (yX6_sendAgain.cls ≠ "java/lang/invoke/MethodHandle" ∧ yX6_sendAgain.cls ≠ "java/lang/invoke/VarHandle" ∧ (parseMethodDescriptor yX6_sendAgain.desc).map (fun d => d.parameters.length) = some 2) := ⟨tbm (i := 9) (by decide +kernel) (by decide +kernel), tbm (i := 616) (by decide +kernel) (by decide +kernel), by decide +kernel⟩
theorem yk_X6_canSendAgain : Cond.initialized yX6_canSendAgain.cls ∈ TB ∧ Cond.code yX6_canSendAgain cX6_canSendAgain 2 (some .boolean) ∈ TB ∧ (yX6_canSendAgain.cls ≠ "java/lang/invoke/MethodHandle" ∧ yX6_canSendAgain.cls ≠ "java/lang/invoke/VarHandle" ∧ (parseMethodDescriptor yX6_canSendAgain.desc).map (fun d => d.parameters.length) = some 1) := ⟨tbm (i := 9) (by decide +kernel) (by decide +kernel), tbm (i := 620) (by decide +kernel) (by decide +kernel), by decide +kernel⟩
theorem yk_X8_undo : Cond.initialized yX8_undo.cls ∈ TB ∧ Cond.code yX8_undo cX8_undo 1 (some .int) ∈ TB ∧ (yX8_undo.cls ≠ "java/lang/invoke/MethodHandle" ∧ yX8_undo.cls ≠ "java/lang/invoke/VarHandle" ∧ (parseMethodDescriptor yX8_undo.desc).map (fun d => d.parameters.length) = some 0) := ⟨tbm (i := 8) (by decide +kernel) (by decide +kernel), tbm (i := 634) (by decide +kernel) (by decide +kernel), by decide +kernel⟩
theorem yk_X3_restore : Cond.initialized yX3_restore.cls ∈ TB ∧ Cond.code yX3_restore cX3_restore 2 none ∈ TB ∧ (yX3_restore.cls ≠ "java/lang/invoke/MethodHandle" ∧ yX3_restore.cls ≠ "java/lang/invoke/VarHandle" ∧ (parseMethodDescriptor yX3_restore.desc).map (fun d => d.parameters.length) = some 1) := ⟨tbm (i := 15) (by decide +kernel) (by decide +kernel), tbm (i := 638) (by decide +kernel) (by decide +kernel), by decide +kernel⟩
theorem fl_X2_9 : FL RX2 9 2 0 := ⟨RX2, TX2, 4, rfl, by decide, tbm (i := 47) (by decide +kernel) (by decide +kernel)⟩
theorem fl_X8_59 : FL RX8 59 2 0 := ⟨RX2, TX2, 4, rfl, by decide, tbm (i := 48) (by decide +kernel) (by decide +kernel)⟩
theorem fl_X5_25 : FL RX5 25 2 0 := ⟨RX2, TX2, 4, rfl, by decide, tbm (i := 49) (by decide +kernel) (by decide +kernel)⟩
theorem fl_X2_18 : FL RX2 18 2 1 := ⟨RX2, TX2, 4, rfl, by decide, tbm (i := 50) (by decide +kernel) (by decide +kernel)⟩
theorem fl_X8_53 : FL RX8 53 2 1 := ⟨RX2, TX2, 4, rfl, by decide, tbm (i := 51) (by decide +kernel) (by decide +kernel)⟩
theorem fl_X5_28 : FL RX5 28 2 1 := ⟨RX2, TX2, 4, rfl, by decide, tbm (i := 52) (by decide +kernel) (by decide +kernel)⟩
theorem fl_X2_15 : FL RX2 15 2 2 := ⟨RX2, TX2, 4, rfl, by decide, tbm (i := 53) (by decide +kernel) (by decide +kernel)⟩
theorem fl_X6_61 : FL RX6 61 2 2 := ⟨RX2, TX2, 4, rfl, by decide, tbm (i := 54) (by decide +kernel) (by decide +kernel)⟩
theorem fl_X8_62 : FL RX8 62 2 2 := ⟨RX2, TX2, 4, rfl, by decide, tbm (i := 55) (by decide +kernel) (by decide +kernel)⟩
theorem fl_X2_21 : FL RX2 21 2 3 := ⟨RX2, TX2, 4, rfl, by decide, tbm (i := 56) (by decide +kernel) (by decide +kernel)⟩
theorem fl_X6_102 : FL RX6 102 2 3 := ⟨RX2, TX2, 4, rfl, by decide, tbm (i := 57) (by decide +kernel) (by decide +kernel)⟩
theorem fl_X5_21 : FL RX5 21 5 0 := ⟨RX5, TX5, 4, rfl, by decide, tbm (i := 81) (by decide +kernel) (by decide +kernel)⟩
theorem fl_X8_107 : FL RX8 107 5 0 := ⟨RX5, TX5, 4, rfl, by decide, tbm (i := 82) (by decide +kernel) (by decide +kernel)⟩
theorem fl_X5_9 : FL RX5 9 5 1 := ⟨RX5, TX5, 4, rfl, by decide, tbm (i := 83) (by decide +kernel) (by decide +kernel)⟩
theorem fl_X5_15 : FL RX5 15 5 2 := ⟨RX5, TX5, 4, rfl, by decide, tbm (i := 84) (by decide +kernel) (by decide +kernel)⟩
theorem fl_X5_18 : FL RX5 18 5 3 := ⟨RX5, TX5, 4, rfl, by decide, tbm (i := 85) (by decide +kernel) (by decide +kernel)⟩
theorem fl_X1_11 : FL RX1 11 1 0 := ⟨RX1, TX1, 7, rfl, by decide, tbm (i := 95) (by decide +kernel) (by decide +kernel)⟩
theorem fl_X8_93 : FL RX8 93 1 0 := ⟨RX1, TX1, 7, rfl, by decide, tbm (i := 96) (by decide +kernel) (by decide +kernel)⟩
theorem fl_X1_22 : FL RX1 22 1 1 := ⟨RX1, TX1, 7, rfl, by decide, tbm (i := 97) (by decide +kernel) (by decide +kernel)⟩
theorem fl_X8_114 : FL RX8 114 1 1 := ⟨RX1, TX1, 7, rfl, by decide, tbm (i := 98) (by decide +kernel) (by decide +kernel)⟩
theorem fl_X6_98 : FL RX6 98 1 1 := ⟨RX1, TX1, 7, rfl, by decide, tbm (i := 99) (by decide +kernel) (by decide +kernel)⟩
theorem fl_X1_26 : FL RX1 26 1 2 := ⟨RX1, TX1, 7, rfl, by decide, tbm (i := 100) (by decide +kernel) (by decide +kernel)⟩
theorem fl_X8_117 : FL RX8 117 1 2 := ⟨RX1, TX1, 7, rfl, by decide, tbm (i := 101) (by decide +kernel) (by decide +kernel)⟩
theorem fl_X1_30 : FL RX1 30 1 3 := ⟨RX1, TX1, 7, rfl, by decide, tbm (i := 102) (by decide +kernel) (by decide +kernel)⟩
theorem fl_X6_105 : FL RX6 105 1 3 := ⟨RX1, TX1, 7, rfl, by decide, tbm (i := 103) (by decide +kernel) (by decide +kernel)⟩
theorem fl_X1_33 : FL RX1 33 1 4 := ⟨RX1, TX1, 7, rfl, by decide, tbm (i := 104) (by decide +kernel) (by decide +kernel)⟩
theorem fl_X1_36 : FL RX1 36 1 5 := ⟨RX1, TX1, 7, rfl, by decide, tbm (i := 105) (by decide +kernel) (by decide +kernel)⟩
theorem fl_X6_108 : FL RX6 108 1 5 := ⟨RX1, TX1, 7, rfl, by decide, tbm (i := 106) (by decide +kernel) (by decide +kernel)⟩
theorem fl_X1_39 : FL RX1 39 1 6 := ⟨RX1, TX1, 7, rfl, by decide, tbm (i := 107) (by decide +kernel) (by decide +kernel)⟩
theorem fl_X0_9 : FL RX0 9 0 0 := ⟨RX0, TX0, 2, rfl, by decide, tbm (i := 129) (by decide +kernel) (by decide +kernel)⟩
theorem fl_X0_21 : FL RX0 21 0 1 := ⟨RX0, TX0, 2, rfl, by decide, tbm (i := 130) (by decide +kernel) (by decide +kernel)⟩
theorem fl_X6_64 : FL RX6 64 0 1 := ⟨RX0, TX0, 2, rfl, by decide, tbm (i := 131) (by decide +kernel) (by decide +kernel)⟩
theorem fl_X8_81 : FL RX8 81 0 1 := ⟨RX0, TX0, 2, rfl, by decide, tbm (i := 132) (by decide +kernel) (by decide +kernel)⟩
theorem fl_X4_7 : FL RX4 7 4 0 := ⟨RX4, TX4, 3, rfl, by decide, tbm (i := 145) (by decide +kernel) (by decide +kernel)⟩
theorem fl_X1_62 : FL RX1 62 4 0 := ⟨RX4, TX4, 3, rfl, by decide, tbm (i := 146) (by decide +kernel) (by decide +kernel)⟩
theorem fl_X4_13 : FL RX4 13 4 1 := ⟨RX4, TX4, 3, rfl, by decide, tbm (i := 147) (by decide +kernel) (by decide +kernel)⟩
theorem fl_X1_55 : FL RX1 55 4 1 := ⟨RX4, TX4, 3, rfl, by decide, tbm (i := 148) (by decide +kernel) (by decide +kernel)⟩
theorem fl_X4_16 : FL RX4 16 4 2 := ⟨RX4, TX4, 3, rfl, by decide, tbm (i := 149) (by decide +kernel) (by decide +kernel)⟩
theorem fl_X1_42 : FL RX1 42 4 2 := ⟨RX4, TX4, 3, rfl, by decide, tbm (i := 150) (by decide +kernel) (by decide +kernel)⟩
theorem fl_X6_11 : FL RX6 11 6 0 := ⟨RX6, TX6, 6, rfl, by decide, tbm (i := 158) (by decide +kernel) (by decide +kernel)⟩
theorem fl_X8_49 : FL RX8 49 6 0 := ⟨RX6, TX6, 6, rfl, by decide, tbm (i := 159) (by decide +kernel) (by decide +kernel)⟩
theorem fl_X6_22 : FL RX6 22 6 1 := ⟨RX6, TX6, 6, rfl, by decide, tbm (i := 160) (by decide +kernel) (by decide +kernel)⟩
theorem fl_X8_89 : FL RX8 89 6 1 := ⟨RX6, TX6, 6, rfl, by decide, tbm (i := 161) (by decide +kernel) (by decide +kernel)⟩
theorem fl_X6_30 : FL RX6 30 6 2 := ⟨RX6, TX6, 6, rfl, by decide, tbm (i := 162) (by decide +kernel) (by decide +kernel)⟩
theorem fl_X8_77 : FL RX8 77 6 2 := ⟨RX6, TX6, 6, rfl, by decide, tbm (i := 163) (by decide +kernel) (by decide +kernel)⟩
theorem fl_X6_37 : FL RX6 37 6 3 := ⟨RX6, TX6, 6, rfl, by decide, tbm (i := 164) (by decide +kernel) (by decide +kernel)⟩
theorem fl_X8_129 : FL RX8 129 6 3 := ⟨RX6, TX6, 6, rfl, by decide, tbm (i := 165) (by decide +kernel) (by decide +kernel)⟩
theorem fl_X6_54 : FL RX6 54 6 4 := ⟨RX6, TX6, 6, rfl, by decide, tbm (i := 166) (by decide +kernel) (by decide +kernel)⟩
theorem fl_X8_246 : FL RX8 246 6 4 := ⟨RX6, TX6, 6, rfl, by decide, tbm (i := 167) (by decide +kernel) (by decide +kernel)⟩
theorem fl_X6_58 : FL RX6 58 6 5 := ⟨RX6, TX6, 6, rfl, by decide, tbm (i := 168) (by decide +kernel) (by decide +kernel)⟩
theorem fl_X8_249 : FL RX8 249 6 5 := ⟨RX6, TX6, 6, rfl, by decide, tbm (i := 169) (by decide +kernel) (by decide +kernel)⟩
theorem fl_X3_11 : FL RX3 11 3 0 := ⟨RX3, TX3, 3, rfl, by decide, tbm (i := 192) (by decide +kernel) (by decide +kernel)⟩
theorem fl_X3_18 : FL RX3 18 3 1 := ⟨RX3, TX3, 3, rfl, by decide, tbm (i := 193) (by decide +kernel) (by decide +kernel)⟩
theorem fl_X3_32 : FL RX3 32 3 2 := ⟨RX3, TX3, 3, rfl, by decide, tbm (i := 194) (by decide +kernel) (by decide +kernel)⟩
theorem fl_X8_161 : FL RX8 161 3 2 := ⟨RX3, TX3, 3, rfl, by decide, tbm (i := 195) (by decide +kernel) (by decide +kernel)⟩
theorem fl_X7_9 : FL RX7 9 7 0 := ⟨RX7, TX7, 2, rfl, by decide, tbm (i := 209) (by decide +kernel) (by decide +kernel)⟩
theorem fl_X8_10 : FL RX8 10 8 0 := ⟨RX8, TX8, 4, rfl, by decide, tbm (i := 217) (by decide +kernel) (by decide +kernel)⟩
theorem fl_X8_19 : FL RX8 19 8 1 := ⟨RX8, TX8, 4, rfl, by decide, tbm (i := 218) (by decide +kernel) (by decide +kernel)⟩
theorem fl_X8_26 : FL RX8 26 8 2 := ⟨RX8, TX8, 4, rfl, by decide, tbm (i := 219) (by decide +kernel) (by decide +kernel)⟩
theorem fl_X8_33 : FL RX8 33 8 3 := ⟨RX8, TX8, 4, rfl, by decide, tbm (i := 220) (by decide +kernel) (by decide +kernel)⟩
theorem mv_L_34 : MV RL 34 yX8_fob cX8_fob 3 (some .int) 2 := ⟨⟨tbm (i := 230) (by decide +kernel) (by decide +kernel), yk_X8_fob⟩, tbm (i := 231) (by decide +kernel) (by decide +kernel), tbm (i := 232) (by decide +kernel) (by decide +kernel)⟩
theorem ms_X8_37 : MS RX8 37 yX8_needIndex cX8_needIndex 2 none 2 := ⟨⟨tbm (i := 234) (by decide +kernel) (by decide +kernel), yk_X8_needIndex⟩, tbm (i := 235) (by decide +kernel) (by decide +kernel)⟩
theorem ms_X8_41 : MS RX8 41 yX8_needRange cX8_needRange 3 none 3 := ⟨⟨tbm (i := 300) (by decide +kernel) (by decide +kernel), yk_X8_needRange⟩, tbm (i := 301) (by decide +kernel) (by decide +kernel)⟩
theorem ms_X8_151 : MS RX8 151 yX8_needArgument cX8_needArgument 1 none 1 := ⟨⟨tbm (i := 303) (by decide +kernel) (by decide +kernel), yk_X8_needArgument⟩, tbm (i := 304) (by decide +kernel) (by decide +kernel)⟩
theorem mv_X8_165 : MV RX8 165 yX2_look cX2_look 2 (some .int) 1 := ⟨⟨tbm (i := 321) (by decide +kernel) (by decide +kernel), yk_X2_look⟩, tbm (i := 322) (by decide +kernel) (by decide +kernel), tbm (i := 323) (by decide +kernel) (by decide +kernel)⟩
theorem mn_X2_24 : MN RX2 24 yX8_counterBehind "RollingFob" cX8_counterBehind 1 (some .int) 1 := ⟨⟨by decide +kernel, yk_X8_counterBehind⟩, tbm (i := 326) (by decide +kernel) (by decide +kernel)⟩
theorem mn_X2_28 : MN RX2 28 yX8_numberOf "RollingFob" cX8_numberOf 2 (some .int) 2 := ⟨⟨by decide +kernel, yk_X8_numberOf⟩, tbm (i := 329) (by decide +kernel) (by decide +kernel)⟩
theorem kc_X8_230 : Cond.constant RX8 230 (40503 : Int32) ∈ TB := tbm (i := 331) (by decide +kernel) (by decide +kernel)
theorem kc_X8_178 : Cond.constant RX8 178 (65535 : Int32) ∈ TB := tbm (i := 332) (by decide +kernel) (by decide +kernel)
theorem mv_L_41 : MV RL 41 yX8_door cX8_door 3 (some .int) 2 := ⟨⟨tbm (i := 333) (by decide +kernel) (by decide +kernel), yk_X8_door⟩, tbm (i := 334) (by decide +kernel) (by decide +kernel), tbm (i := 335) (by decide +kernel) (by decide +kernel)⟩
theorem mv_X8_169 : MV RX8 169 yX1_look cX1_look 3 (some .int) 2 := ⟨⟨tbm (i := 337) (by decide +kernel) (by decide +kernel), yk_X1_look⟩, tbm (i := 338) (by decide +kernel) (by decide +kernel), tbm (i := 339) (by decide +kernel) (by decide +kernel)⟩
theorem mv_X1_51 : MV RX1 51 yX1_isLocked cX1_isLocked 2 (some .boolean) 1 := ⟨⟨tbm (i := 341) (by decide +kernel) (by decide +kernel), yk_X1_isLocked⟩, tbm (i := 342) (by decide +kernel) (by decide +kernel), tbm (i := 343) (by decide +kernel) (by decide +kernel)⟩
theorem mv_X1_69 : MV RX1 69 yX1_learntSlots cX1_learntSlots 6 (some .int) 0 := ⟨⟨tbm (i := 345) (by decide +kernel) (by decide +kernel), yk_X1_learntSlots⟩, tbm (i := 346) (by decide +kernel) (by decide +kernel), tbm (i := 347) (by decide +kernel) (by decide +kernel)⟩
theorem mv_X1_47 : MV RX1 47 yX5_look cX5_look 2 (some .int) 1 := ⟨⟨tbm (i := 349) (by decide +kernel) (by decide +kernel), yk_X5_look⟩, tbm (i := 350) (by decide +kernel) (by decide +kernel), tbm (i := 351) (by decide +kernel) (by decide +kernel)⟩
theorem mv_L_30 : MV RL 30 yX8_air cX8_air 2 (some .int) 1 := ⟨⟨tbm (i := 353) (by decide +kernel) (by decide +kernel), yk_X8_air⟩, tbm (i := 354) (by decide +kernel) (by decide +kernel), tbm (i := 355) (by decide +kernel) (by decide +kernel)⟩
theorem mv_X8_172 : MV RX8 172 yX0_number cX0_number 2 (some .int) 1 := ⟨⟨tbm (i := 357) (by decide +kernel) (by decide +kernel), yk_X0_number⟩, tbm (i := 358) (by decide +kernel) (by decide +kernel), tbm (i := 359) (by decide +kernel) (by decide +kernel)⟩
theorem mv_L_26 : MV RL 26 yX8_count cX8_count 2 (some .int) 1 := ⟨⟨tbm (i := 361) (by decide +kernel) (by decide +kernel), yk_X8_count⟩, tbm (i := 362) (by decide +kernel) (by decide +kernel), tbm (i := 363) (by decide +kernel) (by decide +kernel)⟩
theorem mv_X8_175 : MV RX8 175 yX8_counted cX8_counted 2 (some .int) 1 := ⟨⟨tbm (i := 365) (by decide +kernel) (by decide +kernel), yk_X8_counted⟩, tbm (i := 367) (by decide +kernel) (by decide +kernel), tbm (i := 1) (by decide +kernel) (by decide +kernel)⟩
theorem mv_X8_243 : MV RX8 243 yX6_presses cX6_presses 6 (some .int) 0 := ⟨⟨tbm (i := 369) (by decide +kernel) (by decide +kernel), yk_X6_presses⟩, tbm (i := 370) (by decide +kernel) (by decide +kernel), tbm (i := 371) (by decide +kernel) (by decide +kernel)⟩
theorem mv_X8_194 : MV RX8 194 yX6_timesOpened cX6_timesOpened 6 (some .int) 0 := ⟨⟨tbm (i := 373) (by decide +kernel) (by decide +kernel), yk_X6_timesOpened⟩, tbm (i := 374) (by decide +kernel) (by decide +kernel), tbm (i := 375) (by decide +kernel) (by decide +kernel)⟩
theorem mv_X8_252 : MV RX8 252 yX6_openDoors cX6_openDoors 6 (some .int) 0 := ⟨⟨tbm (i := 377) (by decide +kernel) (by decide +kernel), yk_X6_openDoors⟩, tbm (i := 378) (by decide +kernel) (by decide +kernel), tbm (i := 379) (by decide +kernel) (by decide +kernel)⟩
theorem mv_X8_255 : MV RX8 255 yX6_lockedDoors cX6_lockedDoors 6 (some .int) 0 := ⟨⟨tbm (i := 381) (by decide +kernel) (by decide +kernel), yk_X6_lockedDoors⟩, tbm (i := 382) (by decide +kernel) (by decide +kernel), tbm (i := 383) (by decide +kernel) (by decide +kernel)⟩
theorem mv_X6_111 : MV RX6 111 yX1_isLocked cX1_isLocked 2 (some .boolean) 1 := ⟨⟨tbm (i := 385) (by decide +kernel) (by decide +kernel), yk_X1_isLocked⟩, tbm (i := 342) (by decide +kernel) (by decide +kernel), tbm (i := 343) (by decide +kernel) (by decide +kernel)⟩
theorem mv_L_50 : MV RL 50 yX8_ifHeard cX8_ifHeard 3 (some .int) 2 := ⟨⟨tbm (i := 386) (by decide +kernel) (by decide +kernel), yk_X8_ifHeard⟩, tbm (i := 387) (by decide +kernel) (by decide +kernel), tbm (i := 388) (by decide +kernel) (by decide +kernel)⟩
theorem mv_X8_179 : MV RX8 179 yX8_tryNumber cX8_tryNumber 3 (some .int) 2 := ⟨⟨tbm (i := 390) (by decide +kernel) (by decide +kernel), yk_X8_tryNumber⟩, tbm (i := 392) (by decide +kernel) (by decide +kernel), tbm (i := 2) (by decide +kernel) (by decide +kernel)⟩
theorem mv_X8_258 : MV RX8 258 yX1_copyFrom cX1_copyFrom 3 none 1 := ⟨⟨tbm (i := 394) (by decide +kernel) (by decide +kernel), yk_X1_copyFrom⟩, tbm (i := 395) (by decide +kernel) (by decide +kernel), tbm (i := 396) (by decide +kernel) (by decide +kernel)⟩
theorem mv_X1_18 : MV RX1 18 yX5_copyFrom cX5_copyFrom 2 none 1 := ⟨⟨tbm (i := 398) (by decide +kernel) (by decide +kernel), yk_X5_copyFrom⟩, tbm (i := 399) (by decide +kernel) (by decide +kernel), tbm (i := 400) (by decide +kernel) (by decide +kernel)⟩
theorem mv_X8_262 : MV RX8 262 yX1_hear cX1_hear 8 (some .int) 2 := ⟨⟨tbm (i := 402) (by decide +kernel) (by decide +kernel), yk_X1_hear⟩, tbm (i := 403) (by decide +kernel) (by decide +kernel), tbm (i := 404) (by decide +kernel) (by decide +kernel)⟩
theorem mv_X1_58 : MV RX1 58 yX5_stepsTo cX5_stepsTo 5 (some .int) 2 := ⟨⟨tbm (i := 406) (by decide +kernel) (by decide +kernel), yk_X5_stepsTo⟩, tbm (i := 407) (by decide +kernel) (by decide +kernel), tbm (i := 408) (by decide +kernel) (by decide +kernel)⟩
theorem mn_X5_31 : MN RX5 31 yX8_counterBehind "RollingFob" cX8_counterBehind 1 (some .int) 1 := ⟨⟨by decide +kernel, yk_X8_counterBehind⟩, tbm (i := 326) (by decide +kernel) (by decide +kernel)⟩
theorem mn_X5_35 : MN RX5 35 yX8_numberOf "RollingFob" cX8_numberOf 2 (some .int) 2 := ⟨⟨by decide +kernel, yk_X8_numberOf⟩, tbm (i := 329) (by decide +kernel) (by decide +kernel)⟩
theorem mv_X1_65 : MV RX1 65 yX5_take cX5_take 4 (some .boolean) 2 := ⟨⟨tbm (i := 412) (by decide +kernel) (by decide +kernel), yk_X5_take⟩, tbm (i := 413) (by decide +kernel) (by decide +kernel), tbm (i := 414) (by decide +kernel) (by decide +kernel)⟩
theorem mv_L_99 : MV RL 99 yX8_opensIn cX8_opensIn 3 (some .int) 2 := ⟨⟨tbm (i := 416) (by decide +kernel) (by decide +kernel), yk_X8_opensIn⟩, tbm (i := 417) (by decide +kernel) (by decide +kernel), tbm (i := 418) (by decide +kernel) (by decide +kernel)⟩
theorem mv_X8_183 : MV RX8 183 yX8_pressesToOpen cX8_pressesToOpen 7 (some .int) 2 := ⟨⟨tbm (i := 420) (by decide +kernel) (by decide +kernel), yk_X8_pressesToOpen⟩, tbm (i := 422) (by decide +kernel) (by decide +kernel), tbm (i := 3) (by decide +kernel) (by decide +kernel)⟩
theorem ms_X8_270 : MS RX8 270 yX8_counterBehind cX8_counterBehind 1 (some .int) 1 := ⟨⟨tbm (i := 427) (by decide +kernel) (by decide +kernel), yk_X8_counterBehind⟩, tbm (i := 326) (by decide +kernel) (by decide +kernel)⟩
theorem ms_X8_273 : MS RX8 273 yX8_numberOf cX8_numberOf 2 (some .int) 2 := ⟨⟨tbm (i := 428) (by decide +kernel) (by decide +kernel), yk_X8_numberOf⟩, tbm (i := 329) (by decide +kernel) (by decide +kernel)⟩
theorem mv_L_96 : MV RL 96 yX8_unheard cX8_unheard 3 (some .int) 2 := ⟨⟨tbm (i := 429) (by decide +kernel) (by decide +kernel), yk_X8_unheard⟩, tbm (i := 430) (by decide +kernel) (by decide +kernel), tbm (i := 431) (by decide +kernel) (by decide +kernel)⟩
theorem mv_X8_187 : MV RX8 187 yX8_mostUnheard cX8_mostUnheard 6 (some .int) 2 := ⟨⟨tbm (i := 433) (by decide +kernel) (by decide +kernel), yk_X8_mostUnheard⟩, tbm (i := 435) (by decide +kernel) (by decide +kernel), tbm (i := 4) (by decide +kernel) (by decide +kernel)⟩
theorem ms_L_63 : MS RL 63 yL_low cL_low 2 (some .int) 2 := ⟨⟨tbm (i := 437) (by decide +kernel) (by decide +kernel), yk_L_low⟩, tbm (i := 438) (by decide +kernel) (by decide +kernel)⟩
theorem kc_L_7 : Cond.constant RL 7 (2147483647 : Int32) ∈ TB := tbm (i := 440) (by decide +kernel) (by decide +kernel)
theorem ms_L_57 : MS RL 57 yL_cell cL_cell 2 (some .int) 2 := ⟨⟨tbm (i := 441) (by decide +kernel) (by decide +kernel), yk_L_cell⟩, tbm (i := 442) (by decide +kernel) (by decide +kernel)⟩
theorem kc_L_8 : Cond.constant RL 8 (40503 : Int32) ∈ TB := tbm (i := 444) (by decide +kernel) (by decide +kernel)
theorem ms_L_106 : MS RL 106 yL_yard cL_yard 10 (some .boolean) 1 := ⟨⟨tbm (i := 445) (by decide +kernel) (by decide +kernel), yk_L_yard⟩, tbm (i := 446) (by decide +kernel) (by decide +kernel)⟩
theorem kc_L_33 : Cond.constant RL 33 (65535 : Int32) ∈ TB := tbm (i := 448) (by decide +kernel) (by decide +kernel)
theorem mv_L_37 : MV RL 37 yX8_slot cX8_slot 4 (some .int) 3 := ⟨⟨tbm (i := 449) (by decide +kernel) (by decide +kernel), yk_X8_slot⟩, tbm (i := 450) (by decide +kernel) (by decide +kernel), tbm (i := 451) (by decide +kernel) (by decide +kernel)⟩
theorem mv_X8_168 : MV RX8 168 yX5_look cX5_look 2 (some .int) 1 := ⟨⟨tbm (i := 453) (by decide +kernel) (by decide +kernel), yk_X5_look⟩, tbm (i := 350) (by decide +kernel) (by decide +kernel), tbm (i := 351) (by decide +kernel) (by decide +kernel)⟩
theorem mv_L_44 : MV RL 44 yX8_useful cX8_useful 2 (some .int) 1 := ⟨⟨tbm (i := 454) (by decide +kernel) (by decide +kernel), yk_X8_useful⟩, tbm (i := 455) (by decide +kernel) (by decide +kernel), tbm (i := 456) (by decide +kernel) (by decide +kernel)⟩
theorem mv_X8_190 : MV RX8 190 yX8_firstUseful cX8_firstUseful 3 (some .int) 1 := ⟨⟨tbm (i := 458) (by decide +kernel) (by decide +kernel), yk_X8_firstUseful⟩, tbm (i := 460) (by decide +kernel) (by decide +kernel), tbm (i := 5) (by decide +kernel) (by decide +kernel)⟩
theorem mv_L_47 : MV RL 47 yX8_setting cX8_setting 2 (some .int) 1 := ⟨⟨tbm (i := 462) (by decide +kernel) (by decide +kernel), yk_X8_setting⟩, tbm (i := 463) (by decide +kernel) (by decide +kernel), tbm (i := 464) (by decide +kernel) (by decide +kernel)⟩
theorem mv_X8_133 : MV RX8 133 yX4_value cX4_value 2 (some .int) 1 := ⟨⟨tbm (i := 466) (by decide +kernel) (by decide +kernel), yk_X4_value⟩, tbm (i := 467) (by decide +kernel) (by decide +kernel), tbm (i := 468) (by decide +kernel) (by decide +kernel)⟩
theorem mv_L_53 : MV RL 53 yX8_openShare cX8_openShare 3 (some .double) 0 := ⟨⟨tbm (i := 470) (by decide +kernel) (by decide +kernel), yk_X8_openShare⟩, tbm (i := 471) (by decide +kernel) (by decide +kernel), tbm (i := 472) (by decide +kernel) (by decide +kernel)⟩
theorem mv_X8_197 : MV RX8 197 yX6_wrongNumbers cX6_wrongNumbers 6 (some .int) 0 := ⟨⟨tbm (i := 474) (by decide +kernel) (by decide +kernel), yk_X6_wrongNumbers⟩, tbm (i := 475) (by decide +kernel) (by decide +kernel), tbm (i := 476) (by decide +kernel) (by decide +kernel)⟩
theorem ms_L_102 : MS RL 102 yL_act cL_act 7 (some .int) 3 := ⟨⟨tbm (i := 478) (by decide +kernel) (by decide +kernel), yk_L_act⟩, tbm (i := 479) (by decide +kernel) (by decide +kernel)⟩
theorem mv_L_66 : MV RL 66 yX8_learn cX8_learn 5 (some .int) 3 := ⟨⟨tbm (i := 481) (by decide +kernel) (by decide +kernel), yk_X8_learn⟩, tbm (i := 482) (by decide +kernel) (by decide +kernel), tbm (i := 483) (by decide +kernel) (by decide +kernel)⟩
theorem mv_X8_45 : MV RX8 45 yX3_keep cX3_keep 2 none 1 := ⟨⟨tbm (i := 485) (by decide +kernel) (by decide +kernel), yk_X3_keep⟩, tbm (i := 486) (by decide +kernel) (by decide +kernel), tbm (i := 487) (by decide +kernel) (by decide +kernel)⟩
theorem mv_X3_28 : MV RX3 28 yX6_copyFrom cX6_copyFrom 3 none 1 := ⟨⟨tbm (i := 492) (by decide +kernel) (by decide +kernel), yk_X6_copyFrom⟩, tbm (i := 493) (by decide +kernel) (by decide +kernel), tbm (i := 494) (by decide +kernel) (by decide +kernel)⟩
theorem mv_X6_41 : MV RX6 41 yX2_copyFrom cX2_copyFrom 2 none 1 := ⟨⟨tbm (i := 496) (by decide +kernel) (by decide +kernel), yk_X2_copyFrom⟩, tbm (i := 497) (by decide +kernel) (by decide +kernel), tbm (i := 498) (by decide +kernel) (by decide +kernel)⟩
theorem mv_X6_45 : MV RX6 45 yX1_copyFrom cX1_copyFrom 3 none 1 := ⟨⟨tbm (i := 500) (by decide +kernel) (by decide +kernel), yk_X1_copyFrom⟩, tbm (i := 395) (by decide +kernel) (by decide +kernel), tbm (i := 396) (by decide +kernel) (by decide +kernel)⟩
theorem mv_X6_48 : MV RX6 48 yX0_copyFrom cX0_copyFrom 2 none 1 := ⟨⟨tbm (i := 501) (by decide +kernel) (by decide +kernel), yk_X0_copyFrom⟩, tbm (i := 502) (by decide +kernel) (by decide +kernel), tbm (i := 503) (by decide +kernel) (by decide +kernel)⟩
theorem mv_X6_51 : MV RX6 51 yX4_copyFrom cX4_copyFrom 2 none 1 := ⟨⟨tbm (i := 508) (by decide +kernel) (by decide +kernel), yk_X4_copyFrom⟩, tbm (i := 509) (by decide +kernel) (by decide +kernel), tbm (i := 510) (by decide +kernel) (by decide +kernel)⟩
theorem mv_X8_97 : MV RX8 97 yX5_learnFrom cX5_learnFrom 2 none 1 := ⟨⟨tbm (i := 513) (by decide +kernel) (by decide +kernel), yk_X5_learnFrom⟩, tbm (i := 514) (by decide +kernel) (by decide +kernel), tbm (i := 515) (by decide +kernel) (by decide +kernel)⟩
theorem mv_X8_103 : MV RX8 103 yX1_learntSlots cX1_learntSlots 6 (some .int) 0 := ⟨⟨tbm (i := 517) (by decide +kernel) (by decide +kernel), yk_X1_learntSlots⟩, tbm (i := 346) (by decide +kernel) (by decide +kernel), tbm (i := 347) (by decide +kernel) (by decide +kernel)⟩
theorem mv_L_69 : MV RL 69 yX8_forget cX8_forget 5 (some .int) 2 := ⟨⟨tbm (i := 518) (by decide +kernel) (by decide +kernel), yk_X8_forget⟩, tbm (i := 519) (by decide +kernel) (by decide +kernel), tbm (i := 520) (by decide +kernel) (by decide +kernel)⟩
theorem mv_X8_111 : MV RX8 111 yX5_empty cX5_empty 1 none 0 := ⟨⟨tbm (i := 522) (by decide +kernel) (by decide +kernel), yk_X5_empty⟩, tbm (i := 523) (by decide +kernel) (by decide +kernel), tbm (i := 524) (by decide +kernel) (by decide +kernel)⟩
theorem mv_L_72 : MV RL 72 yX8_shut cX8_shut 4 (some .int) 1 := ⟨⟨tbm (i := 526) (by decide +kernel) (by decide +kernel), yk_X8_shut⟩, tbm (i := 527) (by decide +kernel) (by decide +kernel), tbm (i := 528) (by decide +kernel) (by decide +kernel)⟩
theorem mv_L_75 : MV RL 75 yX8_unlock cX8_unlock 4 (some .int) 1 := ⟨⟨tbm (i := 530) (by decide +kernel) (by decide +kernel), yk_X8_unlock⟩, tbm (i := 531) (by decide +kernel) (by decide +kernel), tbm (i := 532) (by decide +kernel) (by decide +kernel)⟩
theorem mv_L_78 : MV RL 78 yX8_make cX8_make 6 (some .int) 3 := ⟨⟨tbm (i := 534) (by decide +kernel) (by decide +kernel), yk_X8_make⟩, tbm (i := 535) (by decide +kernel) (by decide +kernel), tbm (i := 536) (by decide +kernel) (by decide +kernel)⟩
theorem mv_L_81 : MV RL 81 yX8_battery cX8_battery 5 (some .int) 2 := ⟨⟨tbm (i := 538) (by decide +kernel) (by decide +kernel), yk_X8_battery⟩, tbm (i := 539) (by decide +kernel) (by decide +kernel), tbm (i := 540) (by decide +kernel) (by decide +kernel)⟩
theorem mv_L_84 : MV RL 84 yX8_set cX8_set 4 (some .int) 2 := ⟨⟨tbm (i := 542) (by decide +kernel) (by decide +kernel), yk_X8_set⟩, tbm (i := 543) (by decide +kernel) (by decide +kernel), tbm (i := 544) (by decide +kernel) (by decide +kernel)⟩
theorem ms_X8_120 : MS RX8 120 yX4_least cX4_least 1 (some .int) 1 := ⟨⟨tbm (i := 546) (by decide +kernel) (by decide +kernel), yk_X4_least⟩, tbm (i := 547) (by decide +kernel) (by decide +kernel)⟩
theorem ms_X8_126 : MS RX8 126 yX4_most cX4_most 1 (some .int) 1 := ⟨⟨tbm (i := 549) (by decide +kernel) (by decide +kernel), yk_X4_most⟩, tbm (i := 550) (by decide +kernel) (by decide +kernel)⟩
theorem mv_X8_136 : MV RX8 136 yX4_change cX4_change 3 none 2 := ⟨⟨tbm (i := 552) (by decide +kernel) (by decide +kernel), yk_X4_change⟩, tbm (i := 553) (by decide +kernel) (by decide +kernel), tbm (i := 554) (by decide +kernel) (by decide +kernel)⟩
theorem mv_L_9 : MV RL 9 yX8_press cX8_press 3 (some .int) 2 := ⟨⟨tbm (i := 560) (by decide +kernel) (by decide +kernel), yk_X8_press⟩, tbm (i := 561) (by decide +kernel) (by decide +kernel), tbm (i := 562) (by decide +kernel) (by decide +kernel)⟩
theorem mv_X8_65 : MV RX8 65 yX6_canPress cX6_canPress 2 (some .boolean) 1 := ⟨⟨tbm (i := 564) (by decide +kernel) (by decide +kernel), yk_X6_canPress⟩, tbm (i := 565) (by decide +kernel) (by decide +kernel), tbm (i := 566) (by decide +kernel) (by decide +kernel)⟩
theorem ms_X8_69 : MS RX8 69 yX8_needState cX8_needState 1 none 1 := ⟨⟨tbm (i := 568) (by decide +kernel) (by decide +kernel), yk_X8_needState⟩, tbm (i := 569) (by decide +kernel) (by decide +kernel)⟩
theorem mv_X8_73 : MV RX8 73 yX6_pressFob cX6_pressFob 4 (some .int) 2 := ⟨⟨tbm (i := 586) (by decide +kernel) (by decide +kernel), yk_X6_pressFob⟩, tbm (i := 587) (by decide +kernel) (by decide +kernel), tbm (i := 588) (by decide +kernel) (by decide +kernel)⟩
theorem mv_X6_67 : MV RX6 67 yX6_canPress cX6_canPress 2 (some .boolean) 1 := ⟨⟨tbm (i := 590) (by decide +kernel) (by decide +kernel), yk_X6_canPress⟩, tbm (i := 565) (by decide +kernel) (by decide +kernel), tbm (i := 566) (by decide +kernel) (by decide +kernel)⟩
theorem mv_X6_71 : MV RX6 71 yX2_sendNext cX2_sendNext 1 (some .int) 0 := ⟨⟨tbm (i := 591) (by decide +kernel) (by decide +kernel), yk_X2_sendNext⟩, tbm (i := 592) (by decide +kernel) (by decide +kernel), tbm (i := 593) (by decide +kernel) (by decide +kernel)⟩
theorem mv_X6_75 : MV RX6 75 yX0_record cX0_record 2 none 1 := ⟨⟨tbm (i := 595) (by decide +kernel) (by decide +kernel), yk_X0_record⟩, tbm (i := 596) (by decide +kernel) (by decide +kernel), tbm (i := 597) (by decide +kernel) (by decide +kernel)⟩
theorem mv_X6_78 : MV RX6 78 yX6_send cX6_send 6 (some .int) 2 := ⟨⟨tbm (i := 600) (by decide +kernel) (by decide +kernel), yk_X6_send⟩, tbm (i := 602) (by decide +kernel) (by decide +kernel), tbm (i := 6) (by decide +kernel) (by decide +kernel)⟩
theorem mv_X6_94 : MV RX6 94 yX1_hear cX1_hear 8 (some .int) 2 := ⟨⟨tbm (i := 604) (by decide +kernel) (by decide +kernel), yk_X1_hear⟩, tbm (i := 403) (by decide +kernel) (by decide +kernel), tbm (i := 404) (by decide +kernel) (by decide +kernel)⟩
theorem mv_L_17 : MV RL 17 yX8_again cX8_again 3 (some .int) 2 := ⟨⟨tbm (i := 609) (by decide +kernel) (by decide +kernel), yk_X8_again⟩, tbm (i := 610) (by decide +kernel) (by decide +kernel), tbm (i := 611) (by decide +kernel) (by decide +kernel)⟩
theorem mv_X8_86 : MV RX8 86 yX6_sendAgain cX6_sendAgain 4 (some .int) 2 := ⟨⟨tbm (i := 613) (by decide +kernel) (by decide +kernel), yk_X6_sendAgain⟩, tbm (i := 614) (by decide +kernel) (by decide +kernel), tbm (i := 615) (by decide +kernel) (by decide +kernel)⟩
theorem mv_X6_82 : MV RX6 82 yX6_canSendAgain cX6_canSendAgain 2 (some .boolean) 1 := ⟨⟨tbm (i := 617) (by decide +kernel) (by decide +kernel), yk_X6_canSendAgain⟩, tbm (i := 618) (by decide +kernel) (by decide +kernel), tbm (i := 619) (by decide +kernel) (by decide +kernel)⟩
theorem mv_X6_85 : MV RX6 85 yX0_number cX0_number 2 (some .int) 1 := ⟨⟨tbm (i := 621) (by decide +kernel) (by decide +kernel), yk_X0_number⟩, tbm (i := 358) (by decide +kernel) (by decide +kernel), tbm (i := 359) (by decide +kernel) (by decide +kernel)⟩
theorem mv_L_22 : MV RL 22 yX8_undo cX8_undo 1 (some .int) 0 := ⟨⟨tbm (i := 631) (by decide +kernel) (by decide +kernel), yk_X8_undo⟩, tbm (i := 632) (by decide +kernel) (by decide +kernel), tbm (i := 633) (by decide +kernel) (by decide +kernel)⟩
theorem mv_X8_162 : MV RX8 162 yX3_restore cX3_restore 2 none 1 := ⟨⟨tbm (i := 635) (by decide +kernel) (by decide +kernel), yk_X3_restore⟩, tbm (i := 636) (by decide +kernel) (by decide +kernel), tbm (i := 637) (by decide +kernel) (by decide +kernel)⟩
theorem dm_0 {k : Nat} (h : k < 7) : dm k 0 0 := ⟨h, rfl⟩
theorem dm_1 {k : Nat} (h : k < 7) : dm k 1 0 := ⟨h, rfl⟩
theorem dm_2 {k j : Nat} (h : k < 7) (hj : j < 4) : dm k 2 j := ⟨h, hj⟩
theorem dm_3 {k : Nat} (h : k < 7) : dm k 3 0 := ⟨h, rfl⟩
theorem dm_4 {k j : Nat} (h : k < 8) (hj : j < 3) (hk : k = 7 → j = 0) : dm k 4 j := ⟨h, hj, hk⟩
theorem dm_5 {k j : Nat} (h : k < 8) (hj : j < 3) (hk : k = 7 → j = 0) : dm k 5 j := ⟨h, hj, hk⟩
theorem dm_6 {k : Nat} (h : k < 7) : dm k 6 0 := ⟨h, rfl⟩
theorem dm_7 {k : Nat} (h : k < 7) : dm k 7 0 := ⟨h, rfl⟩
theorem dm_8 {k : Nat} (h : k < 7) : dm k 8 0 := ⟨h, rfl⟩
theorem dm_9 : dm 8 9 0 := ⟨rfl, rfl⟩
theorem dm_10 : dm 8 10 0 := ⟨rfl, rfl⟩
theorem dm_11 : dm 8 11 0 := ⟨rfl, rfl⟩
theorem dm_12 : dm 8 12 0 := ⟨rfl, rfl⟩
theorem dm_13 : dm 9 13 0 := ⟨rfl, rfl⟩
theorem dm_s {k d j : Nat} (h : k < 8) (hd : d < 3) (hj : j < 4) (hk : k = 7 → d = 0) : dm k (d + 20) j := ⟨h, hd, hj, hk⟩
theorem so_0_4 {cy : Nat → ClassId} {ad : Ads} {x : Mem} {v : Int32} {k : Nat} (h : k < 7) : SO cy ad x (up x k (3) v) k 0 0 (.inr (6, [.ref (ad k 1 0), .ref (ad k 3 0), .ref (ad k 6 0), .ref (ad k 8 0), .int (x k 3), .int (x k 4)].set 4 (.int v))) :=
  so_up (ow_sta (by omega) (by omega) (by omega)) (by simp [EE, up])
theorem so_0_5 {cy : Nat → ClassId} {ad : Ads} {x : Mem} {v : Int32} {k : Nat} (h : k < 7) : SO cy ad x (up x k (4) v) k 0 0 (.inr (6, [.ref (ad k 1 0), .ref (ad k 3 0), .ref (ad k 6 0), .ref (ad k 8 0), .int (x k 3), .int (x k 4)].set 5 (.int v))) :=
  so_up (ow_sta (by omega) (by omega) (by omega)) (by simp [EE, up])
theorem so_2_0 {cy : Nat → ClassId} {ad : Ads} {x : Mem} {v : Int32} {k j : Nat} (h : k < 7) (hj : j < 4) : SO cy ad x (up x k (14 + 4 * j) v) k 2 j (.inr (2, [.int (x k (14 + 4 * j)), .int (x k (15 + 4 * j)), .int (x k (16 + 4 * j)), .int (x k (17 + 4 * j))].set 0 (.int v))) :=
  so_up (by rw [show 14 + 4 * j = 14 + 4 * j + 0 by omega]; exact ow_fob (by omega) hj (by omega)) (by simp [EE, up])
theorem so_2_1 {cy : Nat → ClassId} {ad : Ads} {x : Mem} {v : Int32} {k j : Nat} (h : k < 7) (hj : j < 4) : SO cy ad x (up x k (15 + 4 * j) v) k 2 j (.inr (2, [.int (x k (14 + 4 * j)), .int (x k (15 + 4 * j)), .int (x k (16 + 4 * j)), .int (x k (17 + 4 * j))].set 1 (.int v))) :=
  so_up (by rw [show 15 + 4 * j = 14 + 4 * j + 1 by omega]; exact ow_fob (by omega) hj (by omega)) (by simp [EE, up])
theorem so_2_2 {cy : Nat → ClassId} {ad : Ads} {x : Mem} {v : Int32} {k j : Nat} (h : k < 7) (hj : j < 4) : SO cy ad x (up x k (16 + 4 * j) v) k 2 j (.inr (2, [.int (x k (14 + 4 * j)), .int (x k (15 + 4 * j)), .int (x k (16 + 4 * j)), .int (x k (17 + 4 * j))].set 2 (.int v))) :=
  so_up (by rw [show 16 + 4 * j = 14 + 4 * j + 2 by omega]; exact ow_fob (by omega) hj (by omega)) (by simp [EE, up])
theorem so_2_3 {cy : Nat → ClassId} {ad : Ads} {x : Mem} {v : Int32} {k j : Nat} (h : k < 7) (hj : j < 4) : SO cy ad x (up x k (17 + 4 * j) v) k 2 j (.inr (2, [.int (x k (14 + 4 * j)), .int (x k (15 + 4 * j)), .int (x k (16 + 4 * j)), .int (x k (17 + 4 * j))].set 3 (.int v))) :=
  so_up (by rw [show 17 + 4 * j = 14 + 4 * j + 3 by omega]; exact ow_fob (by omega) hj (by omega)) (by simp [EE, up])
theorem so_4_1 {cy : Nat → ClassId} {ad : Ads} {x : Mem} {v : Int32} {k j : Nat} (h : k < 8) (hj : j < 3) : SO cy ad x (up x k (30 + 22 * j) v) k 4 j (.inr (1, [.ref (ad k 5 j), .int (x k (30 + 22 * j)), .int (x k (31 + 22 * j)), .int (x k (32 + 22 * j)), .int (x k (33 + 22 * j)), .int (x k (34 + 22 * j)), .int (x k (35 + 22 * j))].set 1 (.int v))) :=
  so_up (by rw [show 30 + 22 * j = 30 + 22 * j + 0 by omega]; exact ow_door h hj (by omega)) (by simp [EE, up])
theorem so_4_2 {cy : Nat → ClassId} {ad : Ads} {x : Mem} {v : Int32} {k j : Nat} (h : k < 8) (hj : j < 3) : SO cy ad x (up x k (31 + 22 * j) v) k 4 j (.inr (1, [.ref (ad k 5 j), .int (x k (30 + 22 * j)), .int (x k (31 + 22 * j)), .int (x k (32 + 22 * j)), .int (x k (33 + 22 * j)), .int (x k (34 + 22 * j)), .int (x k (35 + 22 * j))].set 2 (.int v))) :=
  so_up (by rw [show 31 + 22 * j = 30 + 22 * j + 1 by omega]; exact ow_door h hj (by omega)) (by simp [EE, up])
theorem so_4_3 {cy : Nat → ClassId} {ad : Ads} {x : Mem} {v : Int32} {k j : Nat} (h : k < 8) (hj : j < 3) : SO cy ad x (up x k (32 + 22 * j) v) k 4 j (.inr (1, [.ref (ad k 5 j), .int (x k (30 + 22 * j)), .int (x k (31 + 22 * j)), .int (x k (32 + 22 * j)), .int (x k (33 + 22 * j)), .int (x k (34 + 22 * j)), .int (x k (35 + 22 * j))].set 3 (.int v))) :=
  so_up (by rw [show 32 + 22 * j = 30 + 22 * j + 2 by omega]; exact ow_door h hj (by omega)) (by simp [EE, up])
theorem so_4_4 {cy : Nat → ClassId} {ad : Ads} {x : Mem} {v : Int32} {k j : Nat} (h : k < 8) (hj : j < 3) : SO cy ad x (up x k (33 + 22 * j) v) k 4 j (.inr (1, [.ref (ad k 5 j), .int (x k (30 + 22 * j)), .int (x k (31 + 22 * j)), .int (x k (32 + 22 * j)), .int (x k (33 + 22 * j)), .int (x k (34 + 22 * j)), .int (x k (35 + 22 * j))].set 4 (.int v))) :=
  so_up (by rw [show 33 + 22 * j = 30 + 22 * j + 3 by omega]; exact ow_door h hj (by omega)) (by simp [EE, up])
theorem so_4_5 {cy : Nat → ClassId} {ad : Ads} {x : Mem} {v : Int32} {k j : Nat} (h : k < 8) (hj : j < 3) : SO cy ad x (up x k (34 + 22 * j) v) k 4 j (.inr (1, [.ref (ad k 5 j), .int (x k (30 + 22 * j)), .int (x k (31 + 22 * j)), .int (x k (32 + 22 * j)), .int (x k (33 + 22 * j)), .int (x k (34 + 22 * j)), .int (x k (35 + 22 * j))].set 5 (.int v))) :=
  so_up (by rw [show 34 + 22 * j = 30 + 22 * j + 4 by omega]; exact ow_door h hj (by omega)) (by simp [EE, up])
theorem so_4_6 {cy : Nat → ClassId} {ad : Ads} {x : Mem} {v : Int32} {k j : Nat} (h : k < 8) (hj : j < 3) : SO cy ad x (up x k (35 + 22 * j) v) k 4 j (.inr (1, [.ref (ad k 5 j), .int (x k (30 + 22 * j)), .int (x k (31 + 22 * j)), .int (x k (32 + 22 * j)), .int (x k (33 + 22 * j)), .int (x k (34 + 22 * j)), .int (x k (35 + 22 * j))].set 6 (.int v))) :=
  so_up (by rw [show 35 + 22 * j = 30 + 22 * j + 5 by omega]; exact ow_door h hj (by omega)) (by simp [EE, up])
theorem so_6_1 {cy : Nat → ClassId} {ad : Ads} {x : Mem} {v : Int32} {k : Nat} (h : k < 7) : SO cy ad x (up x k (5) v) k 6 0 (.inr (0, [.ref (ad k 7 0), .int (x k 5)].set 1 (.int v))) :=
  so_up (ow_len (by omega)) (by simp [EE, up])
theorem so_8_0 {cy : Nat → ClassId} {ad : Ads} {x : Mem} {v : Int32} {k : Nat} (h : k < 7) : SO cy ad x (up x k (0) v) k 8 0 (.inr (4, [.int (x k 0), .int (x k 1), .int (x k 2)].set 0 (.int v))) :=
  so_up (ow_set (by omega) (by omega)) (by simp [EE, up])
theorem so_8_1 {cy : Nat → ClassId} {ad : Ads} {x : Mem} {v : Int32} {k : Nat} (h : k < 7) : SO cy ad x (up x k (1) v) k 8 0 (.inr (4, [.int (x k 0), .int (x k 1), .int (x k 2)].set 1 (.int v))) :=
  so_up (ow_set (by omega) (by omega)) (by simp [EE, up])
theorem so_8_2 {cy : Nat → ClassId} {ad : Ads} {x : Mem} {v : Int32} {k : Nat} (h : k < 7) : SO cy ad x (up x k (2) v) k 8 0 (.inr (4, [.int (x k 0), .int (x k 1), .int (x k 2)].set 2 (.int v))) :=
  so_up (ow_set (by omega) (by omega)) (by simp [EE, up])
theorem so_10_1 {cy : Nat → ClassId} {ad : Ads} {x : Mem} {v : Int32}   : SO cy ad x (up x 8 (0) v) 8 10 0 (.inr (3, [.ref (ad 8 11 0), .int (x 8 0), .int (x 8 1)].set 1 (.int v))) :=
  so_up (ow_h (by omega)) (by simp [EE, up])
theorem so_10_2 {cy : Nat → ClassId} {ad : Ads} {x : Mem} {v : Int32}   : SO cy ad x (up x 8 (1) v) 8 10 0 (.inr (3, [.ref (ad 8 11 0), .int (x 8 0), .int (x 8 1)].set 2 (.int v))) :=
  so_up (ow_h (by omega)) (by simp [EE, up])
theorem so_12_1 {cy : Nat → ClassId} {ad : Ads} {x : Mem} {v : Int32}   : SO cy ad x (up x 8 (2) v) 8 12 0 (.inr (7, [.ref (ad 9 13 0), .int (x 8 2)].set 1 (.int v))) :=
  so_up (rfl) (by simp [EE, up])
theorem so_s_0 {cy : Nat → ClassId} {ad : Ads} {x : Mem} {v : Int32} {k d j : Nat} (h : k < 8) (hd : d < 3) (hj : j < 4) : SO cy ad x (up x k (36 + 22 * d + 4 * j) v) k (d + 20) j (.inr (5, [.int (x k (36 + 22 * d + 4 * j)), .int (x k (37 + 22 * d + 4 * j)), .int (x k (38 + 22 * d + 4 * j)), .int (x k (39 + 22 * d + 4 * j))].set 0 (.int v))) :=
  so_up (by rw [show 36 + 22 * d + 4 * j = 36 + 22 * d + 4 * j + 0 by omega]; exact ow_slot h hd hj (by omega)) (by simp [EE, up])
theorem so_s_1 {cy : Nat → ClassId} {ad : Ads} {x : Mem} {v : Int32} {k d j : Nat} (h : k < 8) (hd : d < 3) (hj : j < 4) : SO cy ad x (up x k (37 + 22 * d + 4 * j) v) k (d + 20) j (.inr (5, [.int (x k (36 + 22 * d + 4 * j)), .int (x k (37 + 22 * d + 4 * j)), .int (x k (38 + 22 * d + 4 * j)), .int (x k (39 + 22 * d + 4 * j))].set 1 (.int v))) :=
  so_up (by rw [show 37 + 22 * d + 4 * j = 36 + 22 * d + 4 * j + 1 by omega]; exact ow_slot h hd hj (by omega)) (by simp [EE, up])
theorem so_s_2 {cy : Nat → ClassId} {ad : Ads} {x : Mem} {v : Int32} {k d j : Nat} (h : k < 8) (hd : d < 3) (hj : j < 4) : SO cy ad x (up x k (38 + 22 * d + 4 * j) v) k (d + 20) j (.inr (5, [.int (x k (36 + 22 * d + 4 * j)), .int (x k (37 + 22 * d + 4 * j)), .int (x k (38 + 22 * d + 4 * j)), .int (x k (39 + 22 * d + 4 * j))].set 2 (.int v))) :=
  so_up (by rw [show 38 + 22 * d + 4 * j = 36 + 22 * d + 4 * j + 2 by omega]; exact ow_slot h hd hj (by omega)) (by simp [EE, up])
theorem so_s_3 {cy : Nat → ClassId} {ad : Ads} {x : Mem} {v : Int32} {k d j : Nat} (h : k < 8) (hd : d < 3) (hj : j < 4) : SO cy ad x (up x k (39 + 22 * d + 4 * j) v) k (d + 20) j (.inr (5, [.int (x k (36 + 22 * d + 4 * j)), .int (x k (37 + 22 * d + 4 * j)), .int (x k (38 + 22 * d + 4 * j)), .int (x k (39 + 22 * d + 4 * j))].set 3 (.int v))) :=
  so_up (by rw [show 39 + 22 * d + 4 * j = 36 + 22 * d + 4 * j + 3 by omega]; exact ow_slot h hd hj (by omega)) (by simp [EE, up])
theorem up_fun (x : Mem) (b i : Nat) (v : Int32) : up x b i v b = upd (x b) i v := by
  funext n
  by_cases h : n = i <;> simp [up, upd, h]
theorem so_13 {cy : Nat → ClassId} {ad : Ads} {x : Mem} {v : Int32} {i : Nat} : SO cy ad x (up x 9 i v) 9 13 0 (.inl (cy 0, 60, .inl (upd (x 9) i v))) := so_up rfl (by show Sum.inl _ = _; rw [up_fun])
end
section
theorem dX0_init_0 : decode cX0_init 0 = .ok (.aload_n 0, 1) := by decide +kernel
theorem dX0_init_1 : decode cX0_init 1 = .ok (.invokespecial 3, 3) := by decide +kernel
theorem dX0_init_4 : decode cX0_init 4 = .ok (.aload_n 0, 1) := by decide +kernel
theorem dX0_init_5 : decode cX0_init 5 = .ok (.bipush 8, 2) := by decide +kernel
theorem dX0_init_7 : decode cX0_init 7 = .ok (.newarray .int, 2) := by decide +kernel
theorem dX0_init_9 : decode cX0_init 9 = .ok (.putfield 9, 3) := by decide +kernel
theorem dX0_init_12 : decode cX0_init 12 = .ok (.return_, 1) := by decide +kernel
theorem dX0_copyFrom_0 : decode cX0_copyFrom 0 = .ok (.aload_n 1, 1) := by decide +kernel
theorem dX0_copyFrom_1 : decode cX0_copyFrom 1 = .ok (.getfield 9, 3) := by decide +kernel
theorem dX0_copyFrom_4 : decode cX0_copyFrom 4 = .ok (.iconst 0, 1) := by decide +kernel
theorem dX0_copyFrom_5 : decode cX0_copyFrom 5 = .ok (.aload_n 0, 1) := by decide +kernel
theorem dX0_copyFrom_6 : decode cX0_copyFrom 6 = .ok (.getfield 9, 3) := by decide +kernel
theorem dX0_copyFrom_9 : decode cX0_copyFrom 9 = .ok (.iconst 0, 1) := by decide +kernel
theorem dX0_copyFrom_10 : decode cX0_copyFrom 10 = .ok (.bipush 8, 2) := by decide +kernel
theorem dX0_copyFrom_12 : decode cX0_copyFrom 12 = .ok (.invokestatic 15, 3) := by decide +kernel
theorem dX0_copyFrom_15 : decode cX0_copyFrom 15 = .ok (.aload_n 0, 1) := by decide +kernel
theorem dX0_copyFrom_16 : decode cX0_copyFrom 16 = .ok (.aload_n 1, 1) := by decide +kernel
theorem dX0_copyFrom_17 : decode cX0_copyFrom 17 = .ok (.getfield 21, 3) := by decide +kernel
theorem dX0_copyFrom_20 : decode cX0_copyFrom 20 = .ok (.putfield 21, 3) := by decide +kernel
theorem dX0_copyFrom_23 : decode cX0_copyFrom 23 = .ok (.return_, 1) := by decide +kernel
theorem dX0_record_0 : decode cX0_record 0 = .ok (.aload_n 0, 1) := by decide +kernel
theorem dX0_record_1 : decode cX0_record 1 = .ok (.getfield 9, 3) := by decide +kernel
theorem dX0_record_4 : decode cX0_record 4 = .ok (.iconst 0, 1) := by decide +kernel
theorem dX0_record_5 : decode cX0_record 5 = .ok (.aload_n 0, 1) := by decide +kernel
theorem dX0_record_6 : decode cX0_record 6 = .ok (.getfield 9, 3) := by decide +kernel
theorem dX0_record_9 : decode cX0_record 9 = .ok (.iconst 1, 1) := by decide +kernel
theorem dX0_record_10 : decode cX0_record 10 = .ok (.bipush 7, 2) := by decide +kernel
theorem dX0_record_12 : decode cX0_record 12 = .ok (.invokestatic 15, 3) := by decide +kernel
theorem dX0_record_15 : decode cX0_record 15 = .ok (.aload_n 0, 1) := by decide +kernel
theorem dX0_record_16 : decode cX0_record 16 = .ok (.getfield 9, 3) := by decide +kernel
theorem dX0_record_19 : decode cX0_record 19 = .ok (.iconst 0, 1) := by decide +kernel
theorem dX0_record_20 : decode cX0_record 20 = .ok (.iload_n 1, 1) := by decide +kernel
theorem dX0_record_21 : decode cX0_record 21 = .ok (.iastore, 1) := by decide +kernel
theorem dX0_record_22 : decode cX0_record 22 = .ok (.aload_n 0, 1) := by decide +kernel
theorem dX0_record_23 : decode cX0_record 23 = .ok (.aload_n 0, 1) := by decide +kernel
theorem dX0_record_24 : decode cX0_record 24 = .ok (.getfield 21, 3) := by decide +kernel
theorem dX0_record_27 : decode cX0_record 27 = .ok (.iconst 1, 1) := by decide +kernel
theorem dX0_record_28 : decode cX0_record 28 = .ok (.iadd, 1) := by decide +kernel
theorem dX0_record_29 : decode cX0_record 29 = .ok (.bipush 8, 2) := by decide +kernel
theorem dX0_record_31 : decode cX0_record 31 = .ok (.invokestatic 25, 3) := by decide +kernel
theorem dX0_record_34 : decode cX0_record 34 = .ok (.putfield 21, 3) := by decide +kernel
theorem dX0_record_37 : decode cX0_record 37 = .ok (.return_, 1) := by decide +kernel
theorem dX0_number_0 : decode cX0_number 0 = .ok (.iload_n 1, 1) := by decide +kernel
theorem dX0_number_1 : decode cX0_number 1 = .ok (.ifCond .lt 26, 3) := by decide +kernel
theorem dX0_number_4 : decode cX0_number 4 = .ok (.iload_n 1, 1) := by decide +kernel
theorem dX0_number_5 : decode cX0_number 5 = .ok (.aload_n 0, 1) := by decide +kernel
theorem dX0_number_6 : decode cX0_number 6 = .ok (.getfield 21, 3) := by decide +kernel
theorem dX0_number_9 : decode cX0_number 9 = .ok (.if_icmp .ge 18, 3) := by decide +kernel
theorem dX0_number_12 : decode cX0_number 12 = .ok (.iload_n 1, 1) := by decide +kernel
theorem dX0_number_13 : decode cX0_number 13 = .ok (.bipush 8, 2) := by decide +kernel
theorem dX0_number_15 : decode cX0_number 15 = .ok (.if_icmp .ge 12, 3) := by decide +kernel
theorem dX0_number_18 : decode cX0_number 18 = .ok (.aload_n 0, 1) := by decide +kernel
theorem dX0_number_19 : decode cX0_number 19 = .ok (.getfield 9, 3) := by decide +kernel
theorem dX0_number_22 : decode cX0_number 22 = .ok (.iload_n 1, 1) := by decide +kernel
theorem dX0_number_23 : decode cX0_number 23 = .ok (.iaload, 1) := by decide +kernel
theorem dX0_number_24 : decode cX0_number 24 = .ok (.goto 4, 3) := by decide +kernel
theorem dX0_number_27 : decode cX0_number 27 = .ok (.iconst (-1), 1) := by decide +kernel
theorem dX0_number_28 : decode cX0_number 28 = .ok (.ireturn, 1) := by decide +kernel
theorem dX1_init_0 : decode cX1_init 0 = .ok (.aload_n 0, 1) := by decide +kernel
theorem dX1_init_1 : decode cX1_init 1 = .ok (.invokespecial 3, 3) := by decide +kernel
theorem dX1_init_4 : decode cX1_init 4 = .ok (.aload_n 0, 1) := by decide +kernel
theorem dX1_init_5 : decode cX1_init 5 = .ok (.iconst 4, 1) := by decide +kernel
theorem dX1_init_6 : decode cX1_init 6 = .ok (.anewarray 9, 3) := by decide +kernel
theorem dX1_init_9 : decode cX1_init 9 = .ok (.putfield 11, 3) := by decide +kernel
theorem dX1_init_12 : decode cX1_init 12 = .ok (.iconst 0, 1) := by decide +kernel
theorem dX1_init_13 : decode cX1_init 13 = .ok (.istore_n 1, 1) := by decide +kernel
theorem dX1_init_14 : decode cX1_init 14 = .ok (.iload_n 1, 1) := by decide +kernel
theorem dX1_init_15 : decode cX1_init 15 = .ok (.iconst 4, 1) := by decide +kernel
theorem dX1_init_16 : decode cX1_init 16 = .ok (.if_icmp .ge 22, 3) := by decide +kernel
theorem dX1_init_19 : decode cX1_init 19 = .ok (.aload_n 0, 1) := by decide +kernel
theorem dX1_init_20 : decode cX1_init 20 = .ok (.getfield 11, 3) := by decide +kernel
theorem dX1_init_23 : decode cX1_init 23 = .ok (.iload_n 1, 1) := by decide +kernel
theorem dX1_init_24 : decode cX1_init 24 = .ok (.new 9, 3) := by decide +kernel
theorem dX1_init_27 : decode cX1_init 27 = .ok (.dup, 1) := by decide +kernel
theorem dX1_init_28 : decode cX1_init 28 = .ok (.invokespecial 17, 3) := by decide +kernel
theorem dX1_init_31 : decode cX1_init 31 = .ok (.aastore, 1) := by decide +kernel
theorem dX1_init_32 : decode cX1_init 32 = .ok (.iinc 1 1, 3) := by decide +kernel
theorem dX1_init_35 : decode cX1_init 35 = .ok (.goto (-21), 3) := by decide +kernel
theorem dX1_init_38 : decode cX1_init 38 = .ok (.return_, 1) := by decide +kernel
theorem dX1_copyFrom_0 : decode cX1_copyFrom 0 = .ok (.iconst 0, 1) := by decide +kernel
theorem dX1_copyFrom_1 : decode cX1_copyFrom 1 = .ok (.istore_n 2, 1) := by decide +kernel
theorem dX1_copyFrom_2 : decode cX1_copyFrom 2 = .ok (.iload_n 2, 1) := by decide +kernel
theorem dX1_copyFrom_3 : decode cX1_copyFrom 3 = .ok (.iconst 4, 1) := by decide +kernel
theorem dX1_copyFrom_4 : decode cX1_copyFrom 4 = .ok (.if_icmp .ge 24, 3) := by decide +kernel
theorem dX1_copyFrom_7 : decode cX1_copyFrom 7 = .ok (.aload_n 0, 1) := by decide +kernel
theorem dX1_copyFrom_8 : decode cX1_copyFrom 8 = .ok (.getfield 11, 3) := by decide +kernel
theorem dX1_copyFrom_11 : decode cX1_copyFrom 11 = .ok (.iload_n 2, 1) := by decide +kernel
theorem dX1_copyFrom_12 : decode cX1_copyFrom 12 = .ok (.aaload, 1) := by decide +kernel
theorem dX1_copyFrom_13 : decode cX1_copyFrom 13 = .ok (.aload_n 1, 1) := by decide +kernel
theorem dX1_copyFrom_14 : decode cX1_copyFrom 14 = .ok (.getfield 11, 3) := by decide +kernel
theorem dX1_copyFrom_17 : decode cX1_copyFrom 17 = .ok (.iload_n 2, 1) := by decide +kernel
theorem dX1_copyFrom_18 : decode cX1_copyFrom 18 = .ok (.aaload, 1) := by decide +kernel
theorem dX1_copyFrom_19 : decode cX1_copyFrom 19 = .ok (.invokevirtual 18, 3) := by decide +kernel
theorem dX1_copyFrom_22 : decode cX1_copyFrom 22 = .ok (.iinc 2 1, 3) := by decide +kernel
theorem dX1_copyFrom_25 : decode cX1_copyFrom 25 = .ok (.goto (-23), 3) := by decide +kernel
theorem dX1_copyFrom_28 : decode cX1_copyFrom 28 = .ok (.aload_n 0, 1) := by decide +kernel
theorem dX1_copyFrom_29 : decode cX1_copyFrom 29 = .ok (.aload_n 1, 1) := by decide +kernel
theorem dX1_copyFrom_30 : decode cX1_copyFrom 30 = .ok (.getfield 22, 3) := by decide +kernel
theorem dX1_copyFrom_33 : decode cX1_copyFrom 33 = .ok (.putfield 22, 3) := by decide +kernel
theorem dX1_copyFrom_36 : decode cX1_copyFrom 36 = .ok (.aload_n 0, 1) := by decide +kernel
theorem dX1_copyFrom_37 : decode cX1_copyFrom 37 = .ok (.aload_n 1, 1) := by decide +kernel
theorem dX1_copyFrom_38 : decode cX1_copyFrom 38 = .ok (.getfield 26, 3) := by decide +kernel
theorem dX1_copyFrom_41 : decode cX1_copyFrom 41 = .ok (.putfield 26, 3) := by decide +kernel
theorem dX1_copyFrom_44 : decode cX1_copyFrom 44 = .ok (.aload_n 0, 1) := by decide +kernel
theorem dX1_copyFrom_45 : decode cX1_copyFrom 45 = .ok (.aload_n 1, 1) := by decide +kernel
theorem dX1_copyFrom_46 : decode cX1_copyFrom 46 = .ok (.getfield 30, 3) := by decide +kernel
theorem dX1_copyFrom_49 : decode cX1_copyFrom 49 = .ok (.putfield 30, 3) := by decide +kernel
theorem dX1_copyFrom_52 : decode cX1_copyFrom 52 = .ok (.aload_n 0, 1) := by decide +kernel
theorem dX1_copyFrom_53 : decode cX1_copyFrom 53 = .ok (.aload_n 1, 1) := by decide +kernel
theorem dX1_copyFrom_54 : decode cX1_copyFrom 54 = .ok (.getfield 33, 3) := by decide +kernel
theorem dX1_copyFrom_57 : decode cX1_copyFrom 57 = .ok (.putfield 33, 3) := by decide +kernel
theorem dX1_copyFrom_60 : decode cX1_copyFrom 60 = .ok (.aload_n 0, 1) := by decide +kernel
theorem dX1_copyFrom_61 : decode cX1_copyFrom 61 = .ok (.aload_n 1, 1) := by decide +kernel
theorem dX1_copyFrom_62 : decode cX1_copyFrom 62 = .ok (.getfield 36, 3) := by decide +kernel
theorem dX1_copyFrom_65 : decode cX1_copyFrom 65 = .ok (.putfield 36, 3) := by decide +kernel
theorem dX1_copyFrom_68 : decode cX1_copyFrom 68 = .ok (.aload_n 0, 1) := by decide +kernel
theorem dX1_copyFrom_69 : decode cX1_copyFrom 69 = .ok (.aload_n 1, 1) := by decide +kernel
theorem dX1_copyFrom_70 : decode cX1_copyFrom 70 = .ok (.getfield 39, 3) := by decide +kernel
theorem dX1_copyFrom_73 : decode cX1_copyFrom 73 = .ok (.putfield 39, 3) := by decide +kernel
theorem dX1_copyFrom_76 : decode cX1_copyFrom 76 = .ok (.return_, 1) := by decide +kernel
theorem dX1_isLocked_0 : decode cX1_isLocked 0 = .ok (.aload_n 1, 1) := by decide +kernel
theorem dX1_isLocked_1 : decode cX1_isLocked 1 = .ok (.getfield 42, 3) := by decide +kernel
theorem dX1_isLocked_4 : decode cX1_isLocked 4 = .ok (.ifCond .le 18, 3) := by decide +kernel
theorem dX1_isLocked_7 : decode cX1_isLocked 7 = .ok (.aload_n 0, 1) := by decide +kernel
theorem dX1_isLocked_8 : decode cX1_isLocked 8 = .ok (.getfield 26, 3) := by decide +kernel
theorem dX1_isLocked_11 : decode cX1_isLocked 11 = .ok (.aload_n 1, 1) := by decide +kernel
theorem dX1_isLocked_12 : decode cX1_isLocked 12 = .ok (.getfield 42, 3) := by decide +kernel
theorem dX1_isLocked_15 : decode cX1_isLocked 15 = .ok (.if_icmp .lt 7, 3) := by decide +kernel
theorem dX1_isLocked_18 : decode cX1_isLocked 18 = .ok (.iconst 1, 1) := by decide +kernel
theorem dX1_isLocked_19 : decode cX1_isLocked 19 = .ok (.goto 4, 3) := by decide +kernel
theorem dX1_isLocked_22 : decode cX1_isLocked 22 = .ok (.iconst 0, 1) := by decide +kernel
theorem dX1_isLocked_23 : decode cX1_isLocked 23 = .ok (.ireturn, 1) := by decide +kernel
theorem dX1_learntSlots_0 : decode cX1_learntSlots 0 = .ok (.iconst 0, 1) := by decide +kernel
theorem dX1_learntSlots_1 : decode cX1_learntSlots 1 = .ok (.istore_n 1, 1) := by decide +kernel
theorem dX1_learntSlots_2 : decode cX1_learntSlots 2 = .ok (.aload_n 0, 1) := by decide +kernel
theorem dX1_learntSlots_3 : decode cX1_learntSlots 3 = .ok (.getfield 11, 3) := by decide +kernel
theorem dX1_learntSlots_6 : decode cX1_learntSlots 6 = .ok (.astore_n 2, 1) := by decide +kernel
theorem dX1_learntSlots_7 : decode cX1_learntSlots 7 = .ok (.aload_n 2, 1) := by decide +kernel
theorem dX1_learntSlots_8 : decode cX1_learntSlots 8 = .ok (.arraylength, 1) := by decide +kernel
theorem dX1_learntSlots_9 : decode cX1_learntSlots 9 = .ok (.istore_n 3, 1) := by decide +kernel
theorem dX1_learntSlots_10 : decode cX1_learntSlots 10 = .ok (.iconst 0, 1) := by decide +kernel
theorem dX1_learntSlots_11 : decode cX1_learntSlots 11 = .ok (.istore 4, 2) := by decide +kernel
theorem dX1_learntSlots_13 : decode cX1_learntSlots 13 = .ok (.iload 4, 2) := by decide +kernel
theorem dX1_learntSlots_15 : decode cX1_learntSlots 15 = .ok (.iload_n 3, 1) := by decide +kernel
theorem dX1_learntSlots_16 : decode cX1_learntSlots 16 = .ok (.if_icmp .ge 24, 3) := by decide +kernel
theorem dX1_learntSlots_19 : decode cX1_learntSlots 19 = .ok (.aload_n 2, 1) := by decide +kernel
theorem dX1_learntSlots_20 : decode cX1_learntSlots 20 = .ok (.iload 4, 2) := by decide +kernel
theorem dX1_learntSlots_22 : decode cX1_learntSlots 22 = .ok (.aaload, 1) := by decide +kernel
theorem dX1_learntSlots_23 : decode cX1_learntSlots 23 = .ok (.astore 5, 2) := by decide +kernel
theorem dX1_learntSlots_25 : decode cX1_learntSlots 25 = .ok (.iload_n 1, 1) := by decide +kernel
theorem dX1_learntSlots_26 : decode cX1_learntSlots 26 = .ok (.aload 5, 2) := by decide +kernel
theorem dX1_learntSlots_28 : decode cX1_learntSlots 28 = .ok (.iconst 0, 1) := by decide +kernel
theorem dX1_learntSlots_29 : decode cX1_learntSlots 29 = .ok (.invokevirtual 47, 3) := by decide +kernel
theorem dX1_learntSlots_32 : decode cX1_learntSlots 32 = .ok (.iadd, 1) := by decide +kernel
theorem dX1_learntSlots_33 : decode cX1_learntSlots 33 = .ok (.istore_n 1, 1) := by decide +kernel
theorem dX1_learntSlots_34 : decode cX1_learntSlots 34 = .ok (.iinc 4 1, 3) := by decide +kernel
theorem dX1_learntSlots_37 : decode cX1_learntSlots 37 = .ok (.goto (-24), 3) := by decide +kernel
theorem dX1_learntSlots_40 : decode cX1_learntSlots 40 = .ok (.iload_n 1, 1) := by decide +kernel
theorem dX1_learntSlots_41 : decode cX1_learntSlots 41 = .ok (.ireturn, 1) := by decide +kernel
theorem dX1_hear_0 : decode cX1_hear 0 = .ok (.aload_n 0, 1) := by decide +kernel
theorem dX1_hear_1 : decode cX1_hear 1 = .ok (.aload_n 2, 1) := by decide +kernel
theorem dX1_hear_2 : decode cX1_hear 2 = .ok (.invokevirtual 51, 3) := by decide +kernel
theorem dX1_hear_5 : decode cX1_hear 5 = .ok (.ifCond .eq 15, 3) := by decide +kernel
theorem dX1_hear_8 : decode cX1_hear 8 = .ok (.aload_n 0, 1) := by decide +kernel
theorem dX1_hear_9 : decode cX1_hear 9 = .ok (.dup, 1) := by decide +kernel
theorem dX1_hear_10 : decode cX1_hear 10 = .ok (.getfield 39, 3) := by decide +kernel
theorem dX1_hear_13 : decode cX1_hear 13 = .ok (.iconst 1, 1) := by decide +kernel
theorem dX1_hear_14 : decode cX1_hear 14 = .ok (.iadd, 1) := by decide +kernel
theorem dX1_hear_15 : decode cX1_hear 15 = .ok (.putfield 39, 3) := by decide +kernel
theorem dX1_hear_18 : decode cX1_hear 18 = .ok (.iconst 3, 1) := by decide +kernel
theorem dX1_hear_19 : decode cX1_hear 19 = .ok (.ireturn, 1) := by decide +kernel
theorem dX1_hear_20 : decode cX1_hear 20 = .ok (.aload_n 0, 1) := by decide +kernel
theorem dX1_hear_21 : decode cX1_hear 21 = .ok (.getfield 11, 3) := by decide +kernel
theorem dX1_hear_24 : decode cX1_hear 24 = .ok (.astore_n 3, 1) := by decide +kernel
theorem dX1_hear_25 : decode cX1_hear 25 = .ok (.aload_n 3, 1) := by decide +kernel
theorem dX1_hear_26 : decode cX1_hear 26 = .ok (.arraylength, 1) := by decide +kernel
theorem dX1_hear_27 : decode cX1_hear 27 = .ok (.istore 4, 2) := by decide +kernel
theorem dX1_hear_29 : decode cX1_hear 29 = .ok (.iconst 0, 1) := by decide +kernel
theorem dX1_hear_30 : decode cX1_hear 30 = .ok (.istore 5, 2) := by decide +kernel
theorem dX1_hear_32 : decode cX1_hear 32 = .ok (.iload 5, 2) := by decide +kernel
theorem dX1_hear_34 : decode cX1_hear 34 = .ok (.iload 4, 2) := by decide +kernel
theorem dX1_hear_36 : decode cX1_hear 36 = .ok (.if_icmp .ge 85, 3) := by decide +kernel
theorem dX1_hear_39 : decode cX1_hear 39 = .ok (.aload_n 3, 1) := by decide +kernel
theorem dX1_hear_40 : decode cX1_hear 40 = .ok (.iload 5, 2) := by decide +kernel
theorem dX1_hear_42 : decode cX1_hear 42 = .ok (.aaload, 1) := by decide +kernel
theorem dX1_hear_43 : decode cX1_hear 43 = .ok (.astore 6, 2) := by decide +kernel
theorem dX1_hear_45 : decode cX1_hear 45 = .ok (.aload 6, 2) := by decide +kernel
theorem dX1_hear_47 : decode cX1_hear 47 = .ok (.iload_n 1, 1) := by decide +kernel
theorem dX1_hear_48 : decode cX1_hear 48 = .ok (.aload_n 2, 1) := by decide +kernel
theorem dX1_hear_49 : decode cX1_hear 49 = .ok (.getfield 55, 3) := by decide +kernel
theorem dX1_hear_52 : decode cX1_hear 52 = .ok (.invokevirtual 58, 3) := by decide +kernel
theorem dX1_hear_55 : decode cX1_hear 55 = .ok (.istore 7, 2) := by decide +kernel
theorem dX1_hear_57 : decode cX1_hear 57 = .ok (.iload 7, 2) := by decide +kernel
theorem dX1_hear_59 : decode cX1_hear 59 = .ok (.ifCond .le 39, 3) := by decide +kernel
theorem dX1_hear_62 : decode cX1_hear 62 = .ok (.aload 6, 2) := by decide +kernel
theorem dX1_hear_64 : decode cX1_hear 64 = .ok (.iload 7, 2) := by decide +kernel
theorem dX1_hear_66 : decode cX1_hear 66 = .ok (.aload_n 2, 1) := by decide +kernel
theorem dX1_hear_67 : decode cX1_hear 67 = .ok (.getfield 62, 3) := by decide +kernel
theorem dX1_hear_70 : decode cX1_hear 70 = .ok (.invokevirtual 65, 3) := by decide +kernel
theorem dX1_hear_73 : decode cX1_hear 73 = .ok (.ifCond .eq 25, 3) := by decide +kernel
theorem dX1_hear_76 : decode cX1_hear 76 = .ok (.aload_n 0, 1) := by decide +kernel
theorem dX1_hear_77 : decode cX1_hear 77 = .ok (.iconst 1, 1) := by decide +kernel
theorem dX1_hear_78 : decode cX1_hear 78 = .ok (.putfield 22, 3) := by decide +kernel
theorem dX1_hear_81 : decode cX1_hear 81 = .ok (.aload_n 0, 1) := by decide +kernel
theorem dX1_hear_82 : decode cX1_hear 82 = .ok (.dup, 1) := by decide +kernel
theorem dX1_hear_83 : decode cX1_hear 83 = .ok (.getfield 30, 3) := by decide +kernel
theorem dX1_hear_86 : decode cX1_hear 86 = .ok (.iconst 1, 1) := by decide +kernel
theorem dX1_hear_87 : decode cX1_hear 87 = .ok (.iadd, 1) := by decide +kernel
theorem dX1_hear_88 : decode cX1_hear 88 = .ok (.putfield 30, 3) := by decide +kernel
theorem dX1_hear_91 : decode cX1_hear 91 = .ok (.aload_n 0, 1) := by decide +kernel
theorem dX1_hear_92 : decode cX1_hear 92 = .ok (.iconst 0, 1) := by decide +kernel
theorem dX1_hear_93 : decode cX1_hear 93 = .ok (.putfield 26, 3) := by decide +kernel
theorem dX1_hear_96 : decode cX1_hear 96 = .ok (.iconst 0, 1) := by decide +kernel
theorem dX1_hear_97 : decode cX1_hear 97 = .ok (.ireturn, 1) := by decide +kernel
theorem dX1_hear_98 : decode cX1_hear 98 = .ok (.iload 7, 2) := by decide +kernel
theorem dX1_hear_100 : decode cX1_hear 100 = .ok (.ifCond .le 15, 3) := by decide +kernel
theorem dX1_hear_103 : decode cX1_hear 103 = .ok (.aload_n 0, 1) := by decide +kernel
theorem dX1_hear_104 : decode cX1_hear 104 = .ok (.dup, 1) := by decide +kernel
theorem dX1_hear_105 : decode cX1_hear 105 = .ok (.getfield 33, 3) := by decide +kernel
theorem dX1_hear_108 : decode cX1_hear 108 = .ok (.iconst 1, 1) := by decide +kernel
theorem dX1_hear_109 : decode cX1_hear 109 = .ok (.iadd, 1) := by decide +kernel
theorem dX1_hear_110 : decode cX1_hear 110 = .ok (.putfield 33, 3) := by decide +kernel
theorem dX1_hear_113 : decode cX1_hear 113 = .ok (.iconst 1, 1) := by decide +kernel
theorem dX1_hear_114 : decode cX1_hear 114 = .ok (.ireturn, 1) := by decide +kernel
theorem dX1_hear_115 : decode cX1_hear 115 = .ok (.iinc 5 1, 3) := by decide +kernel
theorem dX1_hear_118 : decode cX1_hear 118 = .ok (.goto (-86), 3) := by decide +kernel
theorem dX1_hear_121 : decode cX1_hear 121 = .ok (.aload_n 0, 1) := by decide +kernel
theorem dX1_hear_122 : decode cX1_hear 122 = .ok (.dup, 1) := by decide +kernel
theorem dX1_hear_123 : decode cX1_hear 123 = .ok (.getfield 26, 3) := by decide +kernel
theorem dX1_hear_126 : decode cX1_hear 126 = .ok (.iconst 1, 1) := by decide +kernel
theorem dX1_hear_127 : decode cX1_hear 127 = .ok (.iadd, 1) := by decide +kernel
theorem dX1_hear_128 : decode cX1_hear 128 = .ok (.putfield 26, 3) := by decide +kernel
theorem dX1_hear_131 : decode cX1_hear 131 = .ok (.aload_n 0, 1) := by decide +kernel
theorem dX1_hear_132 : decode cX1_hear 132 = .ok (.dup, 1) := by decide +kernel
theorem dX1_hear_133 : decode cX1_hear 133 = .ok (.getfield 36, 3) := by decide +kernel
theorem dX1_hear_136 : decode cX1_hear 136 = .ok (.iconst 1, 1) := by decide +kernel
theorem dX1_hear_137 : decode cX1_hear 137 = .ok (.iadd, 1) := by decide +kernel
theorem dX1_hear_138 : decode cX1_hear 138 = .ok (.putfield 36, 3) := by decide +kernel
theorem dX1_hear_141 : decode cX1_hear 141 = .ok (.iconst 2, 1) := by decide +kernel
theorem dX1_hear_142 : decode cX1_hear 142 = .ok (.ireturn, 1) := by decide +kernel
theorem dX1_look_0 : decode cX1_look 0 = .ok (.iload_n 1, 1) := by decide +kernel
theorem dX1_look_1 : decode cX1_look 1 = .ok (.tableswitch 104 0 7 #[47, 60, 65, 79, 84, 89, 94, 99], 47) := by decide +kernel
theorem dX1_look_48 : decode cX1_look 48 = .ok (.aload_n 0, 1) := by decide +kernel
theorem dX1_look_49 : decode cX1_look 49 = .ok (.getfield 22, 3) := by decide +kernel
theorem dX1_look_52 : decode cX1_look 52 = .ok (.ifCond .eq 7, 3) := by decide +kernel
theorem dX1_look_55 : decode cX1_look 55 = .ok (.iconst 1, 1) := by decide +kernel
theorem dX1_look_56 : decode cX1_look 56 = .ok (.goto 4, 3) := by decide +kernel
theorem dX1_look_59 : decode cX1_look 59 = .ok (.iconst 0, 1) := by decide +kernel
theorem dX1_look_60 : decode cX1_look 60 = .ok (.ireturn, 1) := by decide +kernel
theorem dX1_look_61 : decode cX1_look 61 = .ok (.aload_n 0, 1) := by decide +kernel
theorem dX1_look_62 : decode cX1_look 62 = .ok (.getfield 26, 3) := by decide +kernel
theorem dX1_look_65 : decode cX1_look 65 = .ok (.ireturn, 1) := by decide +kernel
theorem dX1_look_66 : decode cX1_look 66 = .ok (.aload_n 0, 1) := by decide +kernel
theorem dX1_look_67 : decode cX1_look 67 = .ok (.aload_n 2, 1) := by decide +kernel
theorem dX1_look_68 : decode cX1_look 68 = .ok (.invokevirtual 51, 3) := by decide +kernel
theorem dX1_look_71 : decode cX1_look 71 = .ok (.ifCond .eq 7, 3) := by decide +kernel
theorem dX1_look_74 : decode cX1_look 74 = .ok (.iconst 1, 1) := by decide +kernel
theorem dX1_look_75 : decode cX1_look 75 = .ok (.goto 4, 3) := by decide +kernel
theorem dX1_look_78 : decode cX1_look 78 = .ok (.iconst 0, 1) := by decide +kernel
theorem dX1_look_79 : decode cX1_look 79 = .ok (.ireturn, 1) := by decide +kernel
theorem dX1_look_80 : decode cX1_look 80 = .ok (.aload_n 0, 1) := by decide +kernel
theorem dX1_look_81 : decode cX1_look 81 = .ok (.invokevirtual 69, 3) := by decide +kernel
theorem dX1_look_84 : decode cX1_look 84 = .ok (.ireturn, 1) := by decide +kernel
theorem dX1_look_85 : decode cX1_look 85 = .ok (.aload_n 0, 1) := by decide +kernel
theorem dX1_look_86 : decode cX1_look 86 = .ok (.getfield 30, 3) := by decide +kernel
theorem dX1_look_89 : decode cX1_look 89 = .ok (.ireturn, 1) := by decide +kernel
theorem dX1_look_90 : decode cX1_look 90 = .ok (.aload_n 0, 1) := by decide +kernel
theorem dX1_look_91 : decode cX1_look 91 = .ok (.getfield 33, 3) := by decide +kernel
theorem dX1_look_94 : decode cX1_look 94 = .ok (.ireturn, 1) := by decide +kernel
theorem dX1_look_95 : decode cX1_look 95 = .ok (.aload_n 0, 1) := by decide +kernel
theorem dX1_look_96 : decode cX1_look 96 = .ok (.getfield 36, 3) := by decide +kernel
theorem dX1_look_99 : decode cX1_look 99 = .ok (.ireturn, 1) := by decide +kernel
theorem dX1_look_100 : decode cX1_look 100 = .ok (.aload_n 0, 1) := by decide +kernel
theorem dX1_look_101 : decode cX1_look 101 = .ok (.getfield 39, 3) := by decide +kernel
theorem dX1_look_104 : decode cX1_look 104 = .ok (.ireturn, 1) := by decide +kernel
theorem dX1_look_105 : decode cX1_look 105 = .ok (.iconst (-1), 1) := by decide +kernel
theorem dX1_look_106 : decode cX1_look 106 = .ok (.ireturn, 1) := by decide +kernel
theorem dX2_init_0 : decode cX2_init 0 = .ok (.aload_n 0, 1) := by decide +kernel
theorem dX2_init_1 : decode cX2_init 1 = .ok (.invokespecial 3, 3) := by decide +kernel
theorem dX2_init_4 : decode cX2_init 4 = .ok (.aload_n 0, 1) := by decide +kernel
theorem dX2_init_5 : decode cX2_init 5 = .ok (.iload_n 1, 1) := by decide +kernel
theorem dX2_init_6 : decode cX2_init 6 = .ok (.putfield 9, 3) := by decide +kernel
theorem dX2_init_9 : decode cX2_init 9 = .ok (.aload_n 0, 1) := by decide +kernel
theorem dX2_init_10 : decode cX2_init 10 = .ok (.bipush 100, 2) := by decide +kernel
theorem dX2_init_12 : decode cX2_init 12 = .ok (.putfield 15, 3) := by decide +kernel
theorem dX2_init_15 : decode cX2_init 15 = .ok (.return_, 1) := by decide +kernel
theorem dX2_copyFrom_0 : decode cX2_copyFrom 0 = .ok (.aload_n 0, 1) := by decide +kernel
theorem dX2_copyFrom_1 : decode cX2_copyFrom 1 = .ok (.aload_n 1, 1) := by decide +kernel
theorem dX2_copyFrom_2 : decode cX2_copyFrom 2 = .ok (.getfield 9, 3) := by decide +kernel
theorem dX2_copyFrom_5 : decode cX2_copyFrom 5 = .ok (.putfield 9, 3) := by decide +kernel
theorem dX2_copyFrom_8 : decode cX2_copyFrom 8 = .ok (.aload_n 0, 1) := by decide +kernel
theorem dX2_copyFrom_9 : decode cX2_copyFrom 9 = .ok (.aload_n 1, 1) := by decide +kernel
theorem dX2_copyFrom_10 : decode cX2_copyFrom 10 = .ok (.getfield 18, 3) := by decide +kernel
theorem dX2_copyFrom_13 : decode cX2_copyFrom 13 = .ok (.putfield 18, 3) := by decide +kernel
theorem dX2_copyFrom_16 : decode cX2_copyFrom 16 = .ok (.aload_n 0, 1) := by decide +kernel
theorem dX2_copyFrom_17 : decode cX2_copyFrom 17 = .ok (.aload_n 1, 1) := by decide +kernel
theorem dX2_copyFrom_18 : decode cX2_copyFrom 18 = .ok (.getfield 15, 3) := by decide +kernel
theorem dX2_copyFrom_21 : decode cX2_copyFrom 21 = .ok (.putfield 15, 3) := by decide +kernel
theorem dX2_copyFrom_24 : decode cX2_copyFrom 24 = .ok (.aload_n 0, 1) := by decide +kernel
theorem dX2_copyFrom_25 : decode cX2_copyFrom 25 = .ok (.aload_n 1, 1) := by decide +kernel
theorem dX2_copyFrom_26 : decode cX2_copyFrom 26 = .ok (.getfield 21, 3) := by decide +kernel
theorem dX2_copyFrom_29 : decode cX2_copyFrom 29 = .ok (.putfield 21, 3) := by decide +kernel
theorem dX2_copyFrom_32 : decode cX2_copyFrom 32 = .ok (.return_, 1) := by decide +kernel
theorem dX2_sendNext_0 : decode cX2_sendNext 0 = .ok (.aload_n 0, 1) := by decide +kernel
theorem dX2_sendNext_1 : decode cX2_sendNext 1 = .ok (.dup, 1) := by decide +kernel
theorem dX2_sendNext_2 : decode cX2_sendNext 2 = .ok (.getfield 15, 3) := by decide +kernel
theorem dX2_sendNext_5 : decode cX2_sendNext 5 = .ok (.iconst 1, 1) := by decide +kernel
theorem dX2_sendNext_6 : decode cX2_sendNext 6 = .ok (.isub, 1) := by decide +kernel
theorem dX2_sendNext_7 : decode cX2_sendNext 7 = .ok (.putfield 15, 3) := by decide +kernel
theorem dX2_sendNext_10 : decode cX2_sendNext 10 = .ok (.aload_n 0, 1) := by decide +kernel
theorem dX2_sendNext_11 : decode cX2_sendNext 11 = .ok (.dup, 1) := by decide +kernel
theorem dX2_sendNext_12 : decode cX2_sendNext 12 = .ok (.getfield 21, 3) := by decide +kernel
theorem dX2_sendNext_15 : decode cX2_sendNext 15 = .ok (.iconst 1, 1) := by decide +kernel
theorem dX2_sendNext_16 : decode cX2_sendNext 16 = .ok (.iadd, 1) := by decide +kernel
theorem dX2_sendNext_17 : decode cX2_sendNext 17 = .ok (.putfield 21, 3) := by decide +kernel
theorem dX2_sendNext_20 : decode cX2_sendNext 20 = .ok (.aload_n 0, 1) := by decide +kernel
theorem dX2_sendNext_21 : decode cX2_sendNext 21 = .ok (.aload_n 0, 1) := by decide +kernel
theorem dX2_sendNext_22 : decode cX2_sendNext 22 = .ok (.getfield 18, 3) := by decide +kernel
theorem dX2_sendNext_25 : decode cX2_sendNext 25 = .ok (.invokestatic 24, 3) := by decide +kernel
theorem dX2_sendNext_28 : decode cX2_sendNext 28 = .ok (.putfield 18, 3) := by decide +kernel
theorem dX2_sendNext_31 : decode cX2_sendNext 31 = .ok (.aload_n 0, 1) := by decide +kernel
theorem dX2_sendNext_32 : decode cX2_sendNext 32 = .ok (.getfield 9, 3) := by decide +kernel
theorem dX2_sendNext_35 : decode cX2_sendNext 35 = .ok (.aload_n 0, 1) := by decide +kernel
theorem dX2_sendNext_36 : decode cX2_sendNext 36 = .ok (.getfield 18, 3) := by decide +kernel
theorem dX2_sendNext_39 : decode cX2_sendNext 39 = .ok (.invokestatic 28, 3) := by decide +kernel
theorem dX2_sendNext_42 : decode cX2_sendNext 42 = .ok (.ireturn, 1) := by decide +kernel
theorem dX2_look_0 : decode cX2_look 0 = .ok (.iload_n 1, 1) := by decide +kernel
theorem dX2_look_1 : decode cX2_look 1 = .ok (.tableswitch 70 0 4 #[35, 40, 45, 50, 65], 35) := by decide +kernel
theorem dX2_look_36 : decode cX2_look 36 = .ok (.aload_n 0, 1) := by decide +kernel
theorem dX2_look_37 : decode cX2_look 37 = .ok (.getfield 9, 3) := by decide +kernel
theorem dX2_look_40 : decode cX2_look 40 = .ok (.ireturn, 1) := by decide +kernel
theorem dX2_look_41 : decode cX2_look 41 = .ok (.aload_n 0, 1) := by decide +kernel
theorem dX2_look_42 : decode cX2_look 42 = .ok (.getfield 18, 3) := by decide +kernel
theorem dX2_look_45 : decode cX2_look 45 = .ok (.ireturn, 1) := by decide +kernel
theorem dX2_look_46 : decode cX2_look 46 = .ok (.aload_n 0, 1) := by decide +kernel
theorem dX2_look_47 : decode cX2_look 47 = .ok (.getfield 15, 3) := by decide +kernel
theorem dX2_look_50 : decode cX2_look 50 = .ok (.ireturn, 1) := by decide +kernel
theorem dX2_look_51 : decode cX2_look 51 = .ok (.aload_n 0, 1) := by decide +kernel
theorem dX2_look_52 : decode cX2_look 52 = .ok (.getfield 9, 3) := by decide +kernel
theorem dX2_look_55 : decode cX2_look 55 = .ok (.aload_n 0, 1) := by decide +kernel
theorem dX2_look_56 : decode cX2_look 56 = .ok (.getfield 18, 3) := by decide +kernel
theorem dX2_look_59 : decode cX2_look 59 = .ok (.invokestatic 24, 3) := by decide +kernel
theorem dX2_look_62 : decode cX2_look 62 = .ok (.invokestatic 28, 3) := by decide +kernel
theorem dX2_look_65 : decode cX2_look 65 = .ok (.ireturn, 1) := by decide +kernel
theorem dX2_look_66 : decode cX2_look 66 = .ok (.aload_n 0, 1) := by decide +kernel
theorem dX2_look_67 : decode cX2_look 67 = .ok (.getfield 21, 3) := by decide +kernel
theorem dX2_look_70 : decode cX2_look 70 = .ok (.ireturn, 1) := by decide +kernel
theorem dX2_look_71 : decode cX2_look 71 = .ok (.iconst (-1), 1) := by decide +kernel
theorem dX2_look_72 : decode cX2_look 72 = .ok (.ireturn, 1) := by decide +kernel
theorem dX3_init_0 : decode cX3_init 0 = .ok (.aload_n 0, 1) := by decide +kernel
theorem dX3_init_1 : decode cX3_init 1 = .ok (.invokespecial 3, 3) := by decide +kernel
theorem dX3_init_4 : decode cX3_init 4 = .ok (.aload_n 0, 1) := by decide +kernel
theorem dX3_init_5 : decode cX3_init 5 = .ok (.bipush 6, 2) := by decide +kernel
theorem dX3_init_7 : decode cX3_init 7 = .ok (.anewarray 9, 3) := by decide +kernel
theorem dX3_init_10 : decode cX3_init 10 = .ok (.putfield 11, 3) := by decide +kernel
theorem dX3_init_13 : decode cX3_init 13 = .ok (.iconst 0, 1) := by decide +kernel
theorem dX3_init_14 : decode cX3_init 14 = .ok (.istore_n 1, 1) := by decide +kernel
theorem dX3_init_15 : decode cX3_init 15 = .ok (.iload_n 1, 1) := by decide +kernel
theorem dX3_init_16 : decode cX3_init 16 = .ok (.bipush 6, 2) := by decide +kernel
theorem dX3_init_18 : decode cX3_init 18 = .ok (.if_icmp .ge 22, 3) := by decide +kernel
theorem dX3_init_21 : decode cX3_init 21 = .ok (.aload_n 0, 1) := by decide +kernel
theorem dX3_init_22 : decode cX3_init 22 = .ok (.getfield 11, 3) := by decide +kernel
theorem dX3_init_25 : decode cX3_init 25 = .ok (.iload_n 1, 1) := by decide +kernel
theorem dX3_init_26 : decode cX3_init 26 = .ok (.new 9, 3) := by decide +kernel
theorem dX3_init_29 : decode cX3_init 29 = .ok (.dup, 1) := by decide +kernel
theorem dX3_init_30 : decode cX3_init 30 = .ok (.invokespecial 17, 3) := by decide +kernel
theorem dX3_init_33 : decode cX3_init 33 = .ok (.aastore, 1) := by decide +kernel
theorem dX3_init_34 : decode cX3_init 34 = .ok (.iinc 1 1, 3) := by decide +kernel
theorem dX3_init_37 : decode cX3_init 37 = .ok (.goto (-22), 3) := by decide +kernel
theorem dX3_init_40 : decode cX3_init 40 = .ok (.return_, 1) := by decide +kernel
theorem dX3_keep_0 : decode cX3_keep 0 = .ok (.aload_n 0, 1) := by decide +kernel
theorem dX3_keep_1 : decode cX3_keep 1 = .ok (.getfield 11, 3) := by decide +kernel
theorem dX3_keep_4 : decode cX3_keep 4 = .ok (.aload_n 0, 1) := by decide +kernel
theorem dX3_keep_5 : decode cX3_keep 5 = .ok (.getfield 18, 3) := by decide +kernel
theorem dX3_keep_8 : decode cX3_keep 8 = .ok (.bipush 6, 2) := by decide +kernel
theorem dX3_keep_10 : decode cX3_keep 10 = .ok (.invokestatic 22, 3) := by decide +kernel
theorem dX3_keep_13 : decode cX3_keep 13 = .ok (.aaload, 1) := by decide +kernel
theorem dX3_keep_14 : decode cX3_keep 14 = .ok (.aload_n 1, 1) := by decide +kernel
theorem dX3_keep_15 : decode cX3_keep 15 = .ok (.invokevirtual 28, 3) := by decide +kernel
theorem dX3_keep_18 : decode cX3_keep 18 = .ok (.aload_n 0, 1) := by decide +kernel
theorem dX3_keep_19 : decode cX3_keep 19 = .ok (.dup, 1) := by decide +kernel
theorem dX3_keep_20 : decode cX3_keep 20 = .ok (.getfield 18, 3) := by decide +kernel
theorem dX3_keep_23 : decode cX3_keep 23 = .ok (.iconst 1, 1) := by decide +kernel
theorem dX3_keep_24 : decode cX3_keep 24 = .ok (.iadd, 1) := by decide +kernel
theorem dX3_keep_25 : decode cX3_keep 25 = .ok (.putfield 18, 3) := by decide +kernel
theorem dX3_keep_28 : decode cX3_keep 28 = .ok (.aload_n 0, 1) := by decide +kernel
theorem dX3_keep_29 : decode cX3_keep 29 = .ok (.aload_n 0, 1) := by decide +kernel
theorem dX3_keep_30 : decode cX3_keep 30 = .ok (.getfield 32, 3) := by decide +kernel
theorem dX3_keep_33 : decode cX3_keep 33 = .ok (.iconst 1, 1) := by decide +kernel
theorem dX3_keep_34 : decode cX3_keep 34 = .ok (.iadd, 1) := by decide +kernel
theorem dX3_keep_35 : decode cX3_keep 35 = .ok (.bipush 6, 2) := by decide +kernel
theorem dX3_keep_37 : decode cX3_keep 37 = .ok (.invokestatic 35, 3) := by decide +kernel
theorem dX3_keep_40 : decode cX3_keep 40 = .ok (.putfield 32, 3) := by decide +kernel
theorem dX3_keep_43 : decode cX3_keep 43 = .ok (.return_, 1) := by decide +kernel
theorem dX3_restore_0 : decode cX3_restore 0 = .ok (.aload_n 0, 1) := by decide +kernel
theorem dX3_restore_1 : decode cX3_restore 1 = .ok (.getfield 32, 3) := by decide +kernel
theorem dX3_restore_4 : decode cX3_restore 4 = .ok (.ifCond .gt 4, 3) := by decide +kernel
theorem dX3_restore_7 : decode cX3_restore 7 = .ok (.return_, 1) := by decide +kernel
theorem dX3_restore_8 : decode cX3_restore 8 = .ok (.aload_n 0, 1) := by decide +kernel
theorem dX3_restore_9 : decode cX3_restore 9 = .ok (.dup, 1) := by decide +kernel
theorem dX3_restore_10 : decode cX3_restore 10 = .ok (.getfield 18, 3) := by decide +kernel
theorem dX3_restore_13 : decode cX3_restore 13 = .ok (.iconst 1, 1) := by decide +kernel
theorem dX3_restore_14 : decode cX3_restore 14 = .ok (.isub, 1) := by decide +kernel
theorem dX3_restore_15 : decode cX3_restore 15 = .ok (.putfield 18, 3) := by decide +kernel
theorem dX3_restore_18 : decode cX3_restore 18 = .ok (.aload_n 0, 1) := by decide +kernel
theorem dX3_restore_19 : decode cX3_restore 19 = .ok (.dup, 1) := by decide +kernel
theorem dX3_restore_20 : decode cX3_restore 20 = .ok (.getfield 32, 3) := by decide +kernel
theorem dX3_restore_23 : decode cX3_restore 23 = .ok (.iconst 1, 1) := by decide +kernel
theorem dX3_restore_24 : decode cX3_restore 24 = .ok (.isub, 1) := by decide +kernel
theorem dX3_restore_25 : decode cX3_restore 25 = .ok (.putfield 32, 3) := by decide +kernel
theorem dX3_restore_28 : decode cX3_restore 28 = .ok (.aload_n 1, 1) := by decide +kernel
theorem dX3_restore_29 : decode cX3_restore 29 = .ok (.aload_n 0, 1) := by decide +kernel
theorem dX3_restore_30 : decode cX3_restore 30 = .ok (.getfield 11, 3) := by decide +kernel
theorem dX3_restore_33 : decode cX3_restore 33 = .ok (.aload_n 0, 1) := by decide +kernel
theorem dX3_restore_34 : decode cX3_restore 34 = .ok (.getfield 18, 3) := by decide +kernel
theorem dX3_restore_37 : decode cX3_restore 37 = .ok (.bipush 6, 2) := by decide +kernel
theorem dX3_restore_39 : decode cX3_restore 39 = .ok (.invokestatic 22, 3) := by decide +kernel
theorem dX3_restore_42 : decode cX3_restore 42 = .ok (.aaload, 1) := by decide +kernel
theorem dX3_restore_43 : decode cX3_restore 43 = .ok (.invokevirtual 28, 3) := by decide +kernel
theorem dX3_restore_46 : decode cX3_restore 46 = .ok (.return_, 1) := by decide +kernel
theorem dX4_init_0 : decode cX4_init 0 = .ok (.aload_n 0, 1) := by decide +kernel
theorem dX4_init_1 : decode cX4_init 1 = .ok (.invokespecial 1, 3) := by decide +kernel
theorem dX4_init_4 : decode cX4_init 4 = .ok (.aload_n 0, 1) := by decide +kernel
theorem dX4_init_5 : decode cX4_init 5 = .ok (.bipush 16, 2) := by decide +kernel
theorem dX4_init_7 : decode cX4_init 7 = .ok (.putfield 7, 3) := by decide +kernel
theorem dX4_init_10 : decode cX4_init 10 = .ok (.aload_n 0, 1) := by decide +kernel
theorem dX4_init_11 : decode cX4_init 11 = .ok (.bipush 100, 2) := by decide +kernel
theorem dX4_init_13 : decode cX4_init 13 = .ok (.putfield 13, 3) := by decide +kernel
theorem dX4_init_16 : decode cX4_init 16 = .ok (.aload_n 0, 1) := by decide +kernel
theorem dX4_init_17 : decode cX4_init 17 = .ok (.bipush 8, 2) := by decide +kernel
theorem dX4_init_19 : decode cX4_init 19 = .ok (.putfield 16, 3) := by decide +kernel
theorem dX4_init_22 : decode cX4_init 22 = .ok (.return_, 1) := by decide +kernel
theorem dX4_least_0 : decode cX4_least 0 = .ok (.iload_n 0, 1) := by decide +kernel
theorem dX4_least_1 : decode cX4_least 1 = .ok (.iconst 2, 1) := by decide +kernel
theorem dX4_least_2 : decode cX4_least 2 = .ok (.if_icmp .ne 7, 3) := by decide +kernel
theorem dX4_least_5 : decode cX4_least 5 = .ok (.iconst 0, 1) := by decide +kernel
theorem dX4_least_6 : decode cX4_least 6 = .ok (.goto 4, 3) := by decide +kernel
theorem dX4_least_9 : decode cX4_least 9 = .ok (.iconst 1, 1) := by decide +kernel
theorem dX4_least_10 : decode cX4_least 10 = .ok (.ireturn, 1) := by decide +kernel
theorem dX4_most_0 : decode cX4_most 0 = .ok (.iload_n 0, 1) := by decide +kernel
theorem dX4_most_1 : decode cX4_most 1 = .ok (.lookupswitch 34 #[(0, 27), (1, 30)], 27) := by decide +kernel
theorem dX4_most_28 : decode cX4_most 28 = .ok (.bipush 64, 2) := by decide +kernel
theorem dX4_most_30 : decode cX4_most 30 = .ok (.ireturn, 1) := by decide +kernel
theorem dX4_most_31 : decode cX4_most 31 = .ok (.sipush 500, 3) := by decide +kernel
theorem dX4_most_34 : decode cX4_most 34 = .ok (.ireturn, 1) := by decide +kernel
theorem dX4_most_35 : decode cX4_most 35 = .ok (.bipush 20, 2) := by decide +kernel
theorem dX4_most_37 : decode cX4_most 37 = .ok (.ireturn, 1) := by decide +kernel
theorem dX4_copyFrom_0 : decode cX4_copyFrom 0 = .ok (.aload_n 0, 1) := by decide +kernel
theorem dX4_copyFrom_1 : decode cX4_copyFrom 1 = .ok (.aload_n 1, 1) := by decide +kernel
theorem dX4_copyFrom_2 : decode cX4_copyFrom 2 = .ok (.getfield 7, 3) := by decide +kernel
theorem dX4_copyFrom_5 : decode cX4_copyFrom 5 = .ok (.putfield 7, 3) := by decide +kernel
theorem dX4_copyFrom_8 : decode cX4_copyFrom 8 = .ok (.aload_n 0, 1) := by decide +kernel
theorem dX4_copyFrom_9 : decode cX4_copyFrom 9 = .ok (.aload_n 1, 1) := by decide +kernel
theorem dX4_copyFrom_10 : decode cX4_copyFrom 10 = .ok (.getfield 13, 3) := by decide +kernel
theorem dX4_copyFrom_13 : decode cX4_copyFrom 13 = .ok (.putfield 13, 3) := by decide +kernel
theorem dX4_copyFrom_16 : decode cX4_copyFrom 16 = .ok (.aload_n 0, 1) := by decide +kernel
theorem dX4_copyFrom_17 : decode cX4_copyFrom 17 = .ok (.aload_n 1, 1) := by decide +kernel
theorem dX4_copyFrom_18 : decode cX4_copyFrom 18 = .ok (.getfield 16, 3) := by decide +kernel
theorem dX4_copyFrom_21 : decode cX4_copyFrom 21 = .ok (.putfield 16, 3) := by decide +kernel
theorem dX4_copyFrom_24 : decode cX4_copyFrom 24 = .ok (.return_, 1) := by decide +kernel
theorem dX4_value_0 : decode cX4_value 0 = .ok (.iload_n 1, 1) := by decide +kernel
theorem dX4_value_1 : decode cX4_value 1 = .ok (.lookupswitch 37 #[(0, 27), (1, 32)], 27) := by decide +kernel
theorem dX4_value_28 : decode cX4_value 28 = .ok (.aload_n 0, 1) := by decide +kernel
theorem dX4_value_29 : decode cX4_value 29 = .ok (.getfield 7, 3) := by decide +kernel
theorem dX4_value_32 : decode cX4_value 32 = .ok (.ireturn, 1) := by decide +kernel
theorem dX4_value_33 : decode cX4_value 33 = .ok (.aload_n 0, 1) := by decide +kernel
theorem dX4_value_34 : decode cX4_value 34 = .ok (.getfield 13, 3) := by decide +kernel
theorem dX4_value_37 : decode cX4_value 37 = .ok (.ireturn, 1) := by decide +kernel
theorem dX4_value_38 : decode cX4_value 38 = .ok (.aload_n 0, 1) := by decide +kernel
theorem dX4_value_39 : decode cX4_value 39 = .ok (.getfield 16, 3) := by decide +kernel
theorem dX4_value_42 : decode cX4_value 42 = .ok (.ireturn, 1) := by decide +kernel
theorem dX4_change_0 : decode cX4_change 0 = .ok (.iload_n 1, 1) := by decide +kernel
theorem dX4_change_1 : decode cX4_change 1 = .ok (.lookupswitch 43 #[(0, 27), (1, 35)], 27) := by decide +kernel
theorem dX4_change_28 : decode cX4_change 28 = .ok (.aload_n 0, 1) := by decide +kernel
theorem dX4_change_29 : decode cX4_change 29 = .ok (.iload_n 2, 1) := by decide +kernel
theorem dX4_change_30 : decode cX4_change 30 = .ok (.putfield 7, 3) := by decide +kernel
theorem dX4_change_33 : decode cX4_change 33 = .ok (.goto 16, 3) := by decide +kernel
theorem dX4_change_36 : decode cX4_change 36 = .ok (.aload_n 0, 1) := by decide +kernel
theorem dX4_change_37 : decode cX4_change 37 = .ok (.iload_n 2, 1) := by decide +kernel
theorem dX4_change_38 : decode cX4_change 38 = .ok (.putfield 13, 3) := by decide +kernel
theorem dX4_change_41 : decode cX4_change 41 = .ok (.goto 8, 3) := by decide +kernel
theorem dX4_change_44 : decode cX4_change 44 = .ok (.aload_n 0, 1) := by decide +kernel
theorem dX4_change_45 : decode cX4_change 45 = .ok (.iload_n 2, 1) := by decide +kernel
theorem dX4_change_46 : decode cX4_change 46 = .ok (.putfield 16, 3) := by decide +kernel
theorem dX4_change_49 : decode cX4_change 49 = .ok (.return_, 1) := by decide +kernel
theorem dX5_init_0 : decode cX5_init 0 = .ok (.aload_n 0, 1) := by decide +kernel
theorem dX5_init_1 : decode cX5_init 1 = .ok (.invokespecial 3, 3) := by decide +kernel
theorem dX5_init_4 : decode cX5_init 4 = .ok (.aload_n 0, 1) := by decide +kernel
theorem dX5_init_5 : decode cX5_init 5 = .ok (.iconst (-1), 1) := by decide +kernel
theorem dX5_init_6 : decode cX5_init 6 = .ok (.putfield 9, 3) := by decide +kernel
theorem dX5_init_9 : decode cX5_init 9 = .ok (.aload_n 0, 1) := by decide +kernel
theorem dX5_init_10 : decode cX5_init 10 = .ok (.iconst (-1), 1) := by decide +kernel
theorem dX5_init_11 : decode cX5_init 11 = .ok (.putfield 15, 3) := by decide +kernel
theorem dX5_init_14 : decode cX5_init 14 = .ok (.aload_n 0, 1) := by decide +kernel
theorem dX5_init_15 : decode cX5_init 15 = .ok (.iconst (-1), 1) := by decide +kernel
theorem dX5_init_16 : decode cX5_init 16 = .ok (.putfield 18, 3) := by decide +kernel
theorem dX5_init_19 : decode cX5_init 19 = .ok (.return_, 1) := by decide +kernel
theorem dX5_copyFrom_0 : decode cX5_copyFrom 0 = .ok (.aload_n 0, 1) := by decide +kernel
theorem dX5_copyFrom_1 : decode cX5_copyFrom 1 = .ok (.aload_n 1, 1) := by decide +kernel
theorem dX5_copyFrom_2 : decode cX5_copyFrom 2 = .ok (.getfield 21, 3) := by decide +kernel
theorem dX5_copyFrom_5 : decode cX5_copyFrom 5 = .ok (.putfield 21, 3) := by decide +kernel
theorem dX5_copyFrom_8 : decode cX5_copyFrom 8 = .ok (.aload_n 0, 1) := by decide +kernel
theorem dX5_copyFrom_9 : decode cX5_copyFrom 9 = .ok (.aload_n 1, 1) := by decide +kernel
theorem dX5_copyFrom_10 : decode cX5_copyFrom 10 = .ok (.getfield 9, 3) := by decide +kernel
theorem dX5_copyFrom_13 : decode cX5_copyFrom 13 = .ok (.putfield 9, 3) := by decide +kernel
theorem dX5_copyFrom_16 : decode cX5_copyFrom 16 = .ok (.aload_n 0, 1) := by decide +kernel
theorem dX5_copyFrom_17 : decode cX5_copyFrom 17 = .ok (.aload_n 1, 1) := by decide +kernel
theorem dX5_copyFrom_18 : decode cX5_copyFrom 18 = .ok (.getfield 15, 3) := by decide +kernel
theorem dX5_copyFrom_21 : decode cX5_copyFrom 21 = .ok (.putfield 15, 3) := by decide +kernel
theorem dX5_copyFrom_24 : decode cX5_copyFrom 24 = .ok (.aload_n 0, 1) := by decide +kernel
theorem dX5_copyFrom_25 : decode cX5_copyFrom 25 = .ok (.aload_n 1, 1) := by decide +kernel
theorem dX5_copyFrom_26 : decode cX5_copyFrom 26 = .ok (.getfield 18, 3) := by decide +kernel
theorem dX5_copyFrom_29 : decode cX5_copyFrom 29 = .ok (.putfield 18, 3) := by decide +kernel
theorem dX5_copyFrom_32 : decode cX5_copyFrom 32 = .ok (.return_, 1) := by decide +kernel
theorem dX5_learnFrom_0 : decode cX5_learnFrom 0 = .ok (.aload_n 0, 1) := by decide +kernel
theorem dX5_learnFrom_1 : decode cX5_learnFrom 1 = .ok (.iconst 1, 1) := by decide +kernel
theorem dX5_learnFrom_2 : decode cX5_learnFrom 2 = .ok (.putfield 21, 3) := by decide +kernel
theorem dX5_learnFrom_5 : decode cX5_learnFrom 5 = .ok (.aload_n 0, 1) := by decide +kernel
theorem dX5_learnFrom_6 : decode cX5_learnFrom 6 = .ok (.aload_n 1, 1) := by decide +kernel
theorem dX5_learnFrom_7 : decode cX5_learnFrom 7 = .ok (.getfield 25, 3) := by decide +kernel
theorem dX5_learnFrom_10 : decode cX5_learnFrom 10 = .ok (.putfield 9, 3) := by decide +kernel
theorem dX5_learnFrom_13 : decode cX5_learnFrom 13 = .ok (.aload_n 0, 1) := by decide +kernel
theorem dX5_learnFrom_14 : decode cX5_learnFrom 14 = .ok (.aload_n 1, 1) := by decide +kernel
theorem dX5_learnFrom_15 : decode cX5_learnFrom 15 = .ok (.getfield 28, 3) := by decide +kernel
theorem dX5_learnFrom_18 : decode cX5_learnFrom 18 = .ok (.putfield 15, 3) := by decide +kernel
theorem dX5_learnFrom_21 : decode cX5_learnFrom 21 = .ok (.aload_n 0, 1) := by decide +kernel
theorem dX5_learnFrom_22 : decode cX5_learnFrom 22 = .ok (.iconst (-1), 1) := by decide +kernel
theorem dX5_learnFrom_23 : decode cX5_learnFrom 23 = .ok (.putfield 18, 3) := by decide +kernel
theorem dX5_learnFrom_26 : decode cX5_learnFrom 26 = .ok (.return_, 1) := by decide +kernel
theorem dX5_empty_0 : decode cX5_empty 0 = .ok (.aload_n 0, 1) := by decide +kernel
theorem dX5_empty_1 : decode cX5_empty 1 = .ok (.iconst 0, 1) := by decide +kernel
theorem dX5_empty_2 : decode cX5_empty 2 = .ok (.putfield 21, 3) := by decide +kernel
theorem dX5_empty_5 : decode cX5_empty 5 = .ok (.aload_n 0, 1) := by decide +kernel
theorem dX5_empty_6 : decode cX5_empty 6 = .ok (.iconst (-1), 1) := by decide +kernel
theorem dX5_empty_7 : decode cX5_empty 7 = .ok (.putfield 9, 3) := by decide +kernel
theorem dX5_empty_10 : decode cX5_empty 10 = .ok (.aload_n 0, 1) := by decide +kernel
theorem dX5_empty_11 : decode cX5_empty 11 = .ok (.iconst (-1), 1) := by decide +kernel
theorem dX5_empty_12 : decode cX5_empty 12 = .ok (.putfield 15, 3) := by decide +kernel
theorem dX5_empty_15 : decode cX5_empty 15 = .ok (.aload_n 0, 1) := by decide +kernel
theorem dX5_empty_16 : decode cX5_empty 16 = .ok (.iconst (-1), 1) := by decide +kernel
theorem dX5_empty_17 : decode cX5_empty 17 = .ok (.putfield 18, 3) := by decide +kernel
theorem dX5_empty_20 : decode cX5_empty 20 = .ok (.return_, 1) := by decide +kernel
theorem dX5_stepsTo_0 : decode cX5_stepsTo 0 = .ok (.aload_n 0, 1) := by decide +kernel
theorem dX5_stepsTo_1 : decode cX5_stepsTo 1 = .ok (.getfield 21, 3) := by decide +kernel
theorem dX5_stepsTo_4 : decode cX5_stepsTo 4 = .ok (.ifCond .ne 5, 3) := by decide +kernel
theorem dX5_stepsTo_7 : decode cX5_stepsTo 7 = .ok (.iconst 0, 1) := by decide +kernel
theorem dX5_stepsTo_8 : decode cX5_stepsTo 8 = .ok (.ireturn, 1) := by decide +kernel
theorem dX5_stepsTo_9 : decode cX5_stepsTo 9 = .ok (.aload_n 0, 1) := by decide +kernel
theorem dX5_stepsTo_10 : decode cX5_stepsTo 10 = .ok (.getfield 15, 3) := by decide +kernel
theorem dX5_stepsTo_13 : decode cX5_stepsTo 13 = .ok (.istore_n 3, 1) := by decide +kernel
theorem dX5_stepsTo_14 : decode cX5_stepsTo 14 = .ok (.iconst 1, 1) := by decide +kernel
theorem dX5_stepsTo_15 : decode cX5_stepsTo 15 = .ok (.istore 4, 2) := by decide +kernel
theorem dX5_stepsTo_17 : decode cX5_stepsTo 17 = .ok (.iload 4, 2) := by decide +kernel
theorem dX5_stepsTo_19 : decode cX5_stepsTo 19 = .ok (.iload_n 2, 1) := by decide +kernel
theorem dX5_stepsTo_20 : decode cX5_stepsTo 20 = .ok (.if_icmp .gt 29, 3) := by decide +kernel
theorem dX5_stepsTo_23 : decode cX5_stepsTo 23 = .ok (.iload_n 3, 1) := by decide +kernel
theorem dX5_stepsTo_24 : decode cX5_stepsTo 24 = .ok (.invokestatic 31, 3) := by decide +kernel
theorem dX5_stepsTo_27 : decode cX5_stepsTo 27 = .ok (.istore_n 3, 1) := by decide +kernel
theorem dX5_stepsTo_28 : decode cX5_stepsTo 28 = .ok (.aload_n 0, 1) := by decide +kernel
theorem dX5_stepsTo_29 : decode cX5_stepsTo 29 = .ok (.getfield 9, 3) := by decide +kernel
theorem dX5_stepsTo_32 : decode cX5_stepsTo 32 = .ok (.iload_n 3, 1) := by decide +kernel
theorem dX5_stepsTo_33 : decode cX5_stepsTo 33 = .ok (.invokestatic 35, 3) := by decide +kernel
theorem dX5_stepsTo_36 : decode cX5_stepsTo 36 = .ok (.iload_n 1, 1) := by decide +kernel
theorem dX5_stepsTo_37 : decode cX5_stepsTo 37 = .ok (.if_icmp .ne 6, 3) := by decide +kernel
theorem dX5_stepsTo_40 : decode cX5_stepsTo 40 = .ok (.iload 4, 2) := by decide +kernel
theorem dX5_stepsTo_42 : decode cX5_stepsTo 42 = .ok (.ireturn, 1) := by decide +kernel
theorem dX5_stepsTo_43 : decode cX5_stepsTo 43 = .ok (.iinc 4 1, 3) := by decide +kernel
theorem dX5_stepsTo_46 : decode cX5_stepsTo 46 = .ok (.goto (-29), 3) := by decide +kernel
theorem dX5_stepsTo_49 : decode cX5_stepsTo 49 = .ok (.iconst 0, 1) := by decide +kernel
theorem dX5_stepsTo_50 : decode cX5_stepsTo 50 = .ok (.ireturn, 1) := by decide +kernel
theorem dX5_take_0 : decode cX5_take 0 = .ok (.aload_n 0, 1) := by decide +kernel
theorem dX5_take_1 : decode cX5_take 1 = .ok (.getfield 15, 3) := by decide +kernel
theorem dX5_take_4 : decode cX5_take 4 = .ok (.iload_n 1, 1) := by decide +kernel
theorem dX5_take_5 : decode cX5_take 5 = .ok (.iadd, 1) := by decide +kernel
theorem dX5_take_6 : decode cX5_take 6 = .ok (.sipush 10000, 3) := by decide +kernel
theorem dX5_take_9 : decode cX5_take 9 = .ok (.irem, 1) := by decide +kernel
theorem dX5_take_10 : decode cX5_take 10 = .ok (.istore_n 3, 1) := by decide +kernel
theorem dX5_take_11 : decode cX5_take 11 = .ok (.iload_n 1, 1) := by decide +kernel
theorem dX5_take_12 : decode cX5_take 12 = .ok (.iload_n 2, 1) := by decide +kernel
theorem dX5_take_13 : decode cX5_take 13 = .ok (.if_icmp .le 22, 3) := by decide +kernel
theorem dX5_take_16 : decode cX5_take 16 = .ok (.aload_n 0, 1) := by decide +kernel
theorem dX5_take_17 : decode cX5_take 17 = .ok (.getfield 18, 3) := by decide +kernel
theorem dX5_take_20 : decode cX5_take 20 = .ok (.iconst (-1), 1) := by decide +kernel
theorem dX5_take_21 : decode cX5_take 21 = .ok (.if_icmp .eq 26, 3) := by decide +kernel
theorem dX5_take_24 : decode cX5_take 24 = .ok (.iload_n 3, 1) := by decide +kernel
theorem dX5_take_25 : decode cX5_take 25 = .ok (.aload_n 0, 1) := by decide +kernel
theorem dX5_take_26 : decode cX5_take 26 = .ok (.getfield 18, 3) := by decide +kernel
theorem dX5_take_29 : decode cX5_take 29 = .ok (.invokestatic 31, 3) := by decide +kernel
theorem dX5_take_32 : decode cX5_take 32 = .ok (.if_icmp .ne 15, 3) := by decide +kernel
theorem dX5_take_35 : decode cX5_take 35 = .ok (.aload_n 0, 1) := by decide +kernel
theorem dX5_take_36 : decode cX5_take 36 = .ok (.iload_n 3, 1) := by decide +kernel
theorem dX5_take_37 : decode cX5_take 37 = .ok (.putfield 15, 3) := by decide +kernel
theorem dX5_take_40 : decode cX5_take 40 = .ok (.aload_n 0, 1) := by decide +kernel
theorem dX5_take_41 : decode cX5_take 41 = .ok (.iconst (-1), 1) := by decide +kernel
theorem dX5_take_42 : decode cX5_take 42 = .ok (.putfield 18, 3) := by decide +kernel
theorem dX5_take_45 : decode cX5_take 45 = .ok (.iconst 1, 1) := by decide +kernel
theorem dX5_take_46 : decode cX5_take 46 = .ok (.ireturn, 1) := by decide +kernel
theorem dX5_take_47 : decode cX5_take 47 = .ok (.aload_n 0, 1) := by decide +kernel
theorem dX5_take_48 : decode cX5_take 48 = .ok (.iload_n 3, 1) := by decide +kernel
theorem dX5_take_49 : decode cX5_take 49 = .ok (.putfield 18, 3) := by decide +kernel
theorem dX5_take_52 : decode cX5_take 52 = .ok (.iconst 0, 1) := by decide +kernel
theorem dX5_take_53 : decode cX5_take 53 = .ok (.ireturn, 1) := by decide +kernel
theorem dX5_look_0 : decode cX5_look 0 = .ok (.iload_n 1, 1) := by decide +kernel
theorem dX5_look_1 : decode cX5_look 1 = .ok (.tableswitch 59 0 3 #[31, 44, 49, 54], 31) := by decide +kernel
theorem dX5_look_32 : decode cX5_look 32 = .ok (.aload_n 0, 1) := by decide +kernel
theorem dX5_look_33 : decode cX5_look 33 = .ok (.getfield 21, 3) := by decide +kernel
theorem dX5_look_36 : decode cX5_look 36 = .ok (.ifCond .eq 7, 3) := by decide +kernel
theorem dX5_look_39 : decode cX5_look 39 = .ok (.iconst 1, 1) := by decide +kernel
theorem dX5_look_40 : decode cX5_look 40 = .ok (.goto 4, 3) := by decide +kernel
theorem dX5_look_43 : decode cX5_look 43 = .ok (.iconst 0, 1) := by decide +kernel
theorem dX5_look_44 : decode cX5_look 44 = .ok (.ireturn, 1) := by decide +kernel
theorem dX5_look_45 : decode cX5_look 45 = .ok (.aload_n 0, 1) := by decide +kernel
theorem dX5_look_46 : decode cX5_look 46 = .ok (.getfield 9, 3) := by decide +kernel
theorem dX5_look_49 : decode cX5_look 49 = .ok (.ireturn, 1) := by decide +kernel
theorem dX5_look_50 : decode cX5_look 50 = .ok (.aload_n 0, 1) := by decide +kernel
theorem dX5_look_51 : decode cX5_look 51 = .ok (.getfield 15, 3) := by decide +kernel
theorem dX5_look_54 : decode cX5_look 54 = .ok (.ireturn, 1) := by decide +kernel
theorem dX5_look_55 : decode cX5_look 55 = .ok (.aload_n 0, 1) := by decide +kernel
theorem dX5_look_56 : decode cX5_look 56 = .ok (.getfield 18, 3) := by decide +kernel
theorem dX5_look_59 : decode cX5_look 59 = .ok (.ireturn, 1) := by decide +kernel
theorem dX5_look_60 : decode cX5_look 60 = .ok (.iconst (-1), 1) := by decide +kernel
theorem dX5_look_61 : decode cX5_look 61 = .ok (.ireturn, 1) := by decide +kernel
theorem dX6_init_0 : decode cX6_init 0 = .ok (.aload_n 0, 1) := by decide +kernel
theorem dX6_init_1 : decode cX6_init 1 = .ok (.invokespecial 3, 3) := by decide +kernel
theorem dX6_init_4 : decode cX6_init 4 = .ok (.aload_n 0, 1) := by decide +kernel
theorem dX6_init_5 : decode cX6_init 5 = .ok (.iconst 4, 1) := by decide +kernel
theorem dX6_init_6 : decode cX6_init 6 = .ok (.anewarray 9, 3) := by decide +kernel
theorem dX6_init_9 : decode cX6_init 9 = .ok (.putfield 11, 3) := by decide +kernel
theorem dX6_init_12 : decode cX6_init 12 = .ok (.iconst 0, 1) := by decide +kernel
theorem dX6_init_13 : decode cX6_init 13 = .ok (.istore_n 1, 1) := by decide +kernel
theorem dX6_init_14 : decode cX6_init 14 = .ok (.iload_n 1, 1) := by decide +kernel
theorem dX6_init_15 : decode cX6_init 15 = .ok (.iconst 4, 1) := by decide +kernel
theorem dX6_init_16 : decode cX6_init 16 = .ok (.if_icmp .ge 23, 3) := by decide +kernel
theorem dX6_init_19 : decode cX6_init 19 = .ok (.aload_n 0, 1) := by decide +kernel
theorem dX6_init_20 : decode cX6_init 20 = .ok (.getfield 11, 3) := by decide +kernel
theorem dX6_init_23 : decode cX6_init 23 = .ok (.iload_n 1, 1) := by decide +kernel
theorem dX6_init_24 : decode cX6_init 24 = .ok (.new 9, 3) := by decide +kernel
theorem dX6_init_27 : decode cX6_init 27 = .ok (.dup, 1) := by decide +kernel
theorem dX6_init_28 : decode cX6_init 28 = .ok (.iload_n 1, 1) := by decide +kernel
theorem dX6_init_29 : decode cX6_init 29 = .ok (.invokespecial 17, 3) := by decide +kernel
theorem dX6_init_32 : decode cX6_init 32 = .ok (.aastore, 1) := by decide +kernel
theorem dX6_init_33 : decode cX6_init 33 = .ok (.iinc 1 1, 3) := by decide +kernel
theorem dX6_init_36 : decode cX6_init 36 = .ok (.goto (-22), 3) := by decide +kernel
theorem dX6_init_39 : decode cX6_init 39 = .ok (.aload_n 0, 1) := by decide +kernel
theorem dX6_init_40 : decode cX6_init 40 = .ok (.iconst 3, 1) := by decide +kernel
theorem dX6_init_41 : decode cX6_init 41 = .ok (.anewarray 20, 3) := by decide +kernel
theorem dX6_init_44 : decode cX6_init 44 = .ok (.putfield 22, 3) := by decide +kernel
theorem dX6_init_47 : decode cX6_init 47 = .ok (.iconst 0, 1) := by decide +kernel
theorem dX6_init_48 : decode cX6_init 48 = .ok (.istore_n 1, 1) := by decide +kernel
theorem dX6_init_49 : decode cX6_init 49 = .ok (.iload_n 1, 1) := by decide +kernel
theorem dX6_init_50 : decode cX6_init 50 = .ok (.iconst 3, 1) := by decide +kernel
theorem dX6_init_51 : decode cX6_init 51 = .ok (.if_icmp .ge 22, 3) := by decide +kernel
theorem dX6_init_54 : decode cX6_init 54 = .ok (.aload_n 0, 1) := by decide +kernel
theorem dX6_init_55 : decode cX6_init 55 = .ok (.getfield 22, 3) := by decide +kernel
theorem dX6_init_58 : decode cX6_init 58 = .ok (.iload_n 1, 1) := by decide +kernel
theorem dX6_init_59 : decode cX6_init 59 = .ok (.new 20, 3) := by decide +kernel
theorem dX6_init_62 : decode cX6_init 62 = .ok (.dup, 1) := by decide +kernel
theorem dX6_init_63 : decode cX6_init 63 = .ok (.invokespecial 26, 3) := by decide +kernel
theorem dX6_init_66 : decode cX6_init 66 = .ok (.aastore, 1) := by decide +kernel
theorem dX6_init_67 : decode cX6_init 67 = .ok (.iinc 1 1, 3) := by decide +kernel
theorem dX6_init_70 : decode cX6_init 70 = .ok (.goto (-21), 3) := by decide +kernel
theorem dX6_init_73 : decode cX6_init 73 = .ok (.aload_n 0, 1) := by decide +kernel
theorem dX6_init_74 : decode cX6_init 74 = .ok (.new 27, 3) := by decide +kernel
theorem dX6_init_77 : decode cX6_init 77 = .ok (.dup, 1) := by decide +kernel
theorem dX6_init_78 : decode cX6_init 78 = .ok (.invokespecial 29, 3) := by decide +kernel
theorem dX6_init_81 : decode cX6_init 81 = .ok (.putfield 30, 3) := by decide +kernel
theorem dX6_init_84 : decode cX6_init 84 = .ok (.aload_n 0, 1) := by decide +kernel
theorem dX6_init_85 : decode cX6_init 85 = .ok (.new 34, 3) := by decide +kernel
theorem dX6_init_88 : decode cX6_init 88 = .ok (.dup, 1) := by decide +kernel
theorem dX6_init_89 : decode cX6_init 89 = .ok (.invokespecial 36, 3) := by decide +kernel
theorem dX6_init_92 : decode cX6_init 92 = .ok (.putfield 37, 3) := by decide +kernel
theorem dX6_init_95 : decode cX6_init 95 = .ok (.return_, 1) := by decide +kernel
theorem dX6_copyFrom_0 : decode cX6_copyFrom 0 = .ok (.iconst 0, 1) := by decide +kernel
theorem dX6_copyFrom_1 : decode cX6_copyFrom 1 = .ok (.istore_n 2, 1) := by decide +kernel
theorem dX6_copyFrom_2 : decode cX6_copyFrom 2 = .ok (.iload_n 2, 1) := by decide +kernel
theorem dX6_copyFrom_3 : decode cX6_copyFrom 3 = .ok (.iconst 4, 1) := by decide +kernel
theorem dX6_copyFrom_4 : decode cX6_copyFrom 4 = .ok (.if_icmp .ge 24, 3) := by decide +kernel
theorem dX6_copyFrom_7 : decode cX6_copyFrom 7 = .ok (.aload_n 0, 1) := by decide +kernel
theorem dX6_copyFrom_8 : decode cX6_copyFrom 8 = .ok (.getfield 11, 3) := by decide +kernel
theorem dX6_copyFrom_11 : decode cX6_copyFrom 11 = .ok (.iload_n 2, 1) := by decide +kernel
theorem dX6_copyFrom_12 : decode cX6_copyFrom 12 = .ok (.aaload, 1) := by decide +kernel
theorem dX6_copyFrom_13 : decode cX6_copyFrom 13 = .ok (.aload_n 1, 1) := by decide +kernel
theorem dX6_copyFrom_14 : decode cX6_copyFrom 14 = .ok (.getfield 11, 3) := by decide +kernel
theorem dX6_copyFrom_17 : decode cX6_copyFrom 17 = .ok (.iload_n 2, 1) := by decide +kernel
theorem dX6_copyFrom_18 : decode cX6_copyFrom 18 = .ok (.aaload, 1) := by decide +kernel
theorem dX6_copyFrom_19 : decode cX6_copyFrom 19 = .ok (.invokevirtual 41, 3) := by decide +kernel
theorem dX6_copyFrom_22 : decode cX6_copyFrom 22 = .ok (.iinc 2 1, 3) := by decide +kernel
theorem dX6_copyFrom_25 : decode cX6_copyFrom 25 = .ok (.goto (-23), 3) := by decide +kernel
theorem dX6_copyFrom_28 : decode cX6_copyFrom 28 = .ok (.iconst 0, 1) := by decide +kernel
theorem dX6_copyFrom_29 : decode cX6_copyFrom 29 = .ok (.istore_n 2, 1) := by decide +kernel
theorem dX6_copyFrom_30 : decode cX6_copyFrom 30 = .ok (.iload_n 2, 1) := by decide +kernel
theorem dX6_copyFrom_31 : decode cX6_copyFrom 31 = .ok (.iconst 3, 1) := by decide +kernel
theorem dX6_copyFrom_32 : decode cX6_copyFrom 32 = .ok (.if_icmp .ge 24, 3) := by decide +kernel
theorem dX6_copyFrom_35 : decode cX6_copyFrom 35 = .ok (.aload_n 0, 1) := by decide +kernel
theorem dX6_copyFrom_36 : decode cX6_copyFrom 36 = .ok (.getfield 22, 3) := by decide +kernel
theorem dX6_copyFrom_39 : decode cX6_copyFrom 39 = .ok (.iload_n 2, 1) := by decide +kernel
theorem dX6_copyFrom_40 : decode cX6_copyFrom 40 = .ok (.aaload, 1) := by decide +kernel
theorem dX6_copyFrom_41 : decode cX6_copyFrom 41 = .ok (.aload_n 1, 1) := by decide +kernel
theorem dX6_copyFrom_42 : decode cX6_copyFrom 42 = .ok (.getfield 22, 3) := by decide +kernel
theorem dX6_copyFrom_45 : decode cX6_copyFrom 45 = .ok (.iload_n 2, 1) := by decide +kernel
theorem dX6_copyFrom_46 : decode cX6_copyFrom 46 = .ok (.aaload, 1) := by decide +kernel
theorem dX6_copyFrom_47 : decode cX6_copyFrom 47 = .ok (.invokevirtual 45, 3) := by decide +kernel
theorem dX6_copyFrom_50 : decode cX6_copyFrom 50 = .ok (.iinc 2 1, 3) := by decide +kernel
theorem dX6_copyFrom_53 : decode cX6_copyFrom 53 = .ok (.goto (-23), 3) := by decide +kernel
theorem dX6_copyFrom_56 : decode cX6_copyFrom 56 = .ok (.aload_n 0, 1) := by decide +kernel
theorem dX6_copyFrom_57 : decode cX6_copyFrom 57 = .ok (.getfield 30, 3) := by decide +kernel
theorem dX6_copyFrom_60 : decode cX6_copyFrom 60 = .ok (.aload_n 1, 1) := by decide +kernel
theorem dX6_copyFrom_61 : decode cX6_copyFrom 61 = .ok (.getfield 30, 3) := by decide +kernel
theorem dX6_copyFrom_64 : decode cX6_copyFrom 64 = .ok (.invokevirtual 48, 3) := by decide +kernel
theorem dX6_copyFrom_67 : decode cX6_copyFrom 67 = .ok (.aload_n 0, 1) := by decide +kernel
theorem dX6_copyFrom_68 : decode cX6_copyFrom 68 = .ok (.getfield 37, 3) := by decide +kernel
theorem dX6_copyFrom_71 : decode cX6_copyFrom 71 = .ok (.aload_n 1, 1) := by decide +kernel
theorem dX6_copyFrom_72 : decode cX6_copyFrom 72 = .ok (.getfield 37, 3) := by decide +kernel
theorem dX6_copyFrom_75 : decode cX6_copyFrom 75 = .ok (.invokevirtual 51, 3) := by decide +kernel
theorem dX6_copyFrom_78 : decode cX6_copyFrom 78 = .ok (.aload_n 0, 1) := by decide +kernel
theorem dX6_copyFrom_79 : decode cX6_copyFrom 79 = .ok (.aload_n 1, 1) := by decide +kernel
theorem dX6_copyFrom_80 : decode cX6_copyFrom 80 = .ok (.getfield 54, 3) := by decide +kernel
theorem dX6_copyFrom_83 : decode cX6_copyFrom 83 = .ok (.putfield 54, 3) := by decide +kernel
theorem dX6_copyFrom_86 : decode cX6_copyFrom 86 = .ok (.aload_n 0, 1) := by decide +kernel
theorem dX6_copyFrom_87 : decode cX6_copyFrom 87 = .ok (.aload_n 1, 1) := by decide +kernel
theorem dX6_copyFrom_88 : decode cX6_copyFrom 88 = .ok (.getfield 58, 3) := by decide +kernel
theorem dX6_copyFrom_91 : decode cX6_copyFrom 91 = .ok (.putfield 58, 3) := by decide +kernel
theorem dX6_copyFrom_94 : decode cX6_copyFrom 94 = .ok (.return_, 1) := by decide +kernel
theorem dX6_canPress_0 : decode cX6_canPress 0 = .ok (.iload_n 1, 1) := by decide +kernel
theorem dX6_canPress_1 : decode cX6_canPress 1 = .ok (.ifCond .lt 24, 3) := by decide +kernel
theorem dX6_canPress_4 : decode cX6_canPress 4 = .ok (.iload_n 1, 1) := by decide +kernel
theorem dX6_canPress_5 : decode cX6_canPress 5 = .ok (.iconst 4, 1) := by decide +kernel
theorem dX6_canPress_6 : decode cX6_canPress 6 = .ok (.if_icmp .ge 19, 3) := by decide +kernel
theorem dX6_canPress_9 : decode cX6_canPress 9 = .ok (.aload_n 0, 1) := by decide +kernel
theorem dX6_canPress_10 : decode cX6_canPress 10 = .ok (.getfield 11, 3) := by decide +kernel
theorem dX6_canPress_13 : decode cX6_canPress 13 = .ok (.iload_n 1, 1) := by decide +kernel
theorem dX6_canPress_14 : decode cX6_canPress 14 = .ok (.aaload, 1) := by decide +kernel
theorem dX6_canPress_15 : decode cX6_canPress 15 = .ok (.getfield 61, 3) := by decide +kernel
theorem dX6_canPress_18 : decode cX6_canPress 18 = .ok (.ifCond .le 7, 3) := by decide +kernel
theorem dX6_canPress_21 : decode cX6_canPress 21 = .ok (.iconst 1, 1) := by decide +kernel
theorem dX6_canPress_22 : decode cX6_canPress 22 = .ok (.goto 4, 3) := by decide +kernel
theorem dX6_canPress_25 : decode cX6_canPress 25 = .ok (.iconst 0, 1) := by decide +kernel
theorem dX6_canPress_26 : decode cX6_canPress 26 = .ok (.ireturn, 1) := by decide +kernel
theorem dX6_canSendAgain_0 : decode cX6_canSendAgain 0 = .ok (.iload_n 1, 1) := by decide +kernel
theorem dX6_canSendAgain_1 : decode cX6_canSendAgain 1 = .ok (.ifCond .lt 18, 3) := by decide +kernel
theorem dX6_canSendAgain_4 : decode cX6_canSendAgain 4 = .ok (.iload_n 1, 1) := by decide +kernel
theorem dX6_canSendAgain_5 : decode cX6_canSendAgain 5 = .ok (.aload_n 0, 1) := by decide +kernel
theorem dX6_canSendAgain_6 : decode cX6_canSendAgain 6 = .ok (.getfield 30, 3) := by decide +kernel
theorem dX6_canSendAgain_9 : decode cX6_canSendAgain 9 = .ok (.getfield 64, 3) := by decide +kernel
theorem dX6_canSendAgain_12 : decode cX6_canSendAgain 12 = .ok (.if_icmp .ge 7, 3) := by decide +kernel
theorem dX6_canSendAgain_15 : decode cX6_canSendAgain 15 = .ok (.iconst 1, 1) := by decide +kernel
theorem dX6_canSendAgain_16 : decode cX6_canSendAgain 16 = .ok (.goto 4, 3) := by decide +kernel
theorem dX6_canSendAgain_19 : decode cX6_canSendAgain 19 = .ok (.iconst 0, 1) := by decide +kernel
theorem dX6_canSendAgain_20 : decode cX6_canSendAgain 20 = .ok (.ireturn, 1) := by decide +kernel
theorem dX6_pressFob_0 : decode cX6_pressFob 0 = .ok (.aload_n 0, 1) := by decide +kernel
theorem dX6_pressFob_1 : decode cX6_pressFob 1 = .ok (.iload_n 1, 1) := by decide +kernel
theorem dX6_pressFob_2 : decode cX6_pressFob 2 = .ok (.invokevirtual 67, 3) := by decide +kernel
theorem dX6_pressFob_5 : decode cX6_pressFob 5 = .ok (.ifCond .ne 5, 3) := by decide +kernel
theorem dX6_pressFob_8 : decode cX6_pressFob 8 = .ok (.iconst 0, 1) := by decide +kernel
theorem dX6_pressFob_9 : decode cX6_pressFob 9 = .ok (.ireturn, 1) := by decide +kernel
theorem dX6_pressFob_10 : decode cX6_pressFob 10 = .ok (.aload_n 0, 1) := by decide +kernel
theorem dX6_pressFob_11 : decode cX6_pressFob 11 = .ok (.getfield 11, 3) := by decide +kernel
theorem dX6_pressFob_14 : decode cX6_pressFob 14 = .ok (.iload_n 1, 1) := by decide +kernel
theorem dX6_pressFob_15 : decode cX6_pressFob 15 = .ok (.aaload, 1) := by decide +kernel
theorem dX6_pressFob_16 : decode cX6_pressFob 16 = .ok (.invokevirtual 71, 3) := by decide +kernel
theorem dX6_pressFob_19 : decode cX6_pressFob 19 = .ok (.istore_n 3, 1) := by decide +kernel
theorem dX6_pressFob_20 : decode cX6_pressFob 20 = .ok (.aload_n 0, 1) := by decide +kernel
theorem dX6_pressFob_21 : decode cX6_pressFob 21 = .ok (.getfield 30, 3) := by decide +kernel
theorem dX6_pressFob_24 : decode cX6_pressFob 24 = .ok (.iload_n 3, 1) := by decide +kernel
theorem dX6_pressFob_25 : decode cX6_pressFob 25 = .ok (.invokevirtual 75, 3) := by decide +kernel
theorem dX6_pressFob_28 : decode cX6_pressFob 28 = .ok (.aload_n 0, 1) := by decide +kernel
theorem dX6_pressFob_29 : decode cX6_pressFob 29 = .ok (.iload_n 3, 1) := by decide +kernel
theorem dX6_pressFob_30 : decode cX6_pressFob 30 = .ok (.iload_n 2, 1) := by decide +kernel
theorem dX6_pressFob_31 : decode cX6_pressFob 31 = .ok (.invokevirtual 78, 3) := by decide +kernel
theorem dX6_pressFob_34 : decode cX6_pressFob 34 = .ok (.ireturn, 1) := by decide +kernel
theorem dX6_sendAgain_0 : decode cX6_sendAgain 0 = .ok (.aload_n 0, 1) := by decide +kernel
theorem dX6_sendAgain_1 : decode cX6_sendAgain 1 = .ok (.iload_n 1, 1) := by decide +kernel
theorem dX6_sendAgain_2 : decode cX6_sendAgain 2 = .ok (.invokevirtual 82, 3) := by decide +kernel
theorem dX6_sendAgain_5 : decode cX6_sendAgain 5 = .ok (.ifCond .ne 5, 3) := by decide +kernel
theorem dX6_sendAgain_8 : decode cX6_sendAgain 8 = .ok (.iconst 0, 1) := by decide +kernel
theorem dX6_sendAgain_9 : decode cX6_sendAgain 9 = .ok (.ireturn, 1) := by decide +kernel
theorem dX6_sendAgain_10 : decode cX6_sendAgain 10 = .ok (.aload_n 0, 1) := by decide +kernel
theorem dX6_sendAgain_11 : decode cX6_sendAgain 11 = .ok (.dup, 1) := by decide +kernel
theorem dX6_sendAgain_12 : decode cX6_sendAgain 12 = .ok (.getfield 54, 3) := by decide +kernel
theorem dX6_sendAgain_15 : decode cX6_sendAgain 15 = .ok (.iconst 1, 1) := by decide +kernel
theorem dX6_sendAgain_16 : decode cX6_sendAgain 16 = .ok (.iadd, 1) := by decide +kernel
theorem dX6_sendAgain_17 : decode cX6_sendAgain 17 = .ok (.putfield 54, 3) := by decide +kernel
theorem dX6_sendAgain_20 : decode cX6_sendAgain 20 = .ok (.aload_n 0, 1) := by decide +kernel
theorem dX6_sendAgain_21 : decode cX6_sendAgain 21 = .ok (.aload_n 0, 1) := by decide +kernel
theorem dX6_sendAgain_22 : decode cX6_sendAgain 22 = .ok (.getfield 30, 3) := by decide +kernel
theorem dX6_sendAgain_25 : decode cX6_sendAgain 25 = .ok (.iload_n 1, 1) := by decide +kernel
theorem dX6_sendAgain_26 : decode cX6_sendAgain 26 = .ok (.invokevirtual 85, 3) := by decide +kernel
theorem dX6_sendAgain_29 : decode cX6_sendAgain 29 = .ok (.iload_n 2, 1) := by decide +kernel
theorem dX6_sendAgain_30 : decode cX6_sendAgain 30 = .ok (.invokevirtual 78, 3) := by decide +kernel
theorem dX6_sendAgain_33 : decode cX6_sendAgain 33 = .ok (.istore_n 3, 1) := by decide +kernel
theorem dX6_sendAgain_34 : decode cX6_sendAgain 34 = .ok (.aload_n 0, 1) := by decide +kernel
theorem dX6_sendAgain_35 : decode cX6_sendAgain 35 = .ok (.dup, 1) := by decide +kernel
theorem dX6_sendAgain_36 : decode cX6_sendAgain 36 = .ok (.getfield 58, 3) := by decide +kernel
theorem dX6_sendAgain_39 : decode cX6_sendAgain 39 = .ok (.iload_n 3, 1) := by decide +kernel
theorem dX6_sendAgain_40 : decode cX6_sendAgain 40 = .ok (.invokestatic 89, 3) := by decide +kernel
theorem dX6_sendAgain_43 : decode cX6_sendAgain 43 = .ok (.iadd, 1) := by decide +kernel
theorem dX6_sendAgain_44 : decode cX6_sendAgain 44 = .ok (.putfield 58, 3) := by decide +kernel
theorem dX6_sendAgain_47 : decode cX6_sendAgain 47 = .ok (.iload_n 3, 1) := by decide +kernel
theorem dX6_sendAgain_48 : decode cX6_sendAgain 48 = .ok (.ireturn, 1) := by decide +kernel
theorem dX6_send_0 : decode cX6_send 0 = .ok (.iconst 0, 1) := by decide +kernel
theorem dX6_send_1 : decode cX6_send 1 = .ok (.istore_n 3, 1) := by decide +kernel
theorem dX6_send_2 : decode cX6_send 2 = .ok (.iconst 0, 1) := by decide +kernel
theorem dX6_send_3 : decode cX6_send 3 = .ok (.istore 4, 2) := by decide +kernel
theorem dX6_send_5 : decode cX6_send 5 = .ok (.iload 4, 2) := by decide +kernel
theorem dX6_send_7 : decode cX6_send 7 = .ok (.iconst 3, 1) := by decide +kernel
theorem dX6_send_8 : decode cX6_send 8 = .ok (.if_icmp .ge 56, 3) := by decide +kernel
theorem dX6_send_11 : decode cX6_send 11 = .ok (.iload_n 2, 1) := by decide +kernel
theorem dX6_send_12 : decode cX6_send 12 = .ok (.iload 4, 2) := by decide +kernel
theorem dX6_send_14 : decode cX6_send 14 = .ok (.ishr, 1) := by decide +kernel
theorem dX6_send_15 : decode cX6_send 15 = .ok (.iconst 1, 1) := by decide +kernel
theorem dX6_send_16 : decode cX6_send 16 = .ok (.iand, 1) := by decide +kernel
theorem dX6_send_17 : decode cX6_send 17 = .ok (.iconst 1, 1) := by decide +kernel
theorem dX6_send_18 : decode cX6_send 18 = .ok (.if_icmp .ne 7, 3) := by decide +kernel
theorem dX6_send_21 : decode cX6_send 21 = .ok (.iconst 1, 1) := by decide +kernel
theorem dX6_send_22 : decode cX6_send 22 = .ok (.goto 4, 3) := by decide +kernel
theorem dX6_send_25 : decode cX6_send 25 = .ok (.iconst 0, 1) := by decide +kernel
theorem dX6_send_26 : decode cX6_send 26 = .ok (.istore 5, 2) := by decide +kernel
theorem dX6_send_28 : decode cX6_send 28 = .ok (.iload 5, 2) := by decide +kernel
theorem dX6_send_30 : decode cX6_send 30 = .ok (.ifCond .eq 28, 3) := by decide +kernel
theorem dX6_send_33 : decode cX6_send 33 = .ok (.aload_n 0, 1) := by decide +kernel
theorem dX6_send_34 : decode cX6_send 34 = .ok (.getfield 22, 3) := by decide +kernel
theorem dX6_send_37 : decode cX6_send 37 = .ok (.iload 4, 2) := by decide +kernel
theorem dX6_send_39 : decode cX6_send 39 = .ok (.aaload, 1) := by decide +kernel
theorem dX6_send_40 : decode cX6_send 40 = .ok (.iload_n 1, 1) := by decide +kernel
theorem dX6_send_41 : decode cX6_send 41 = .ok (.aload_n 0, 1) := by decide +kernel
theorem dX6_send_42 : decode cX6_send 42 = .ok (.getfield 37, 3) := by decide +kernel
theorem dX6_send_45 : decode cX6_send 45 = .ok (.invokevirtual 94, 3) := by decide +kernel
theorem dX6_send_48 : decode cX6_send 48 = .ok (.ifCond .ne 10, 3) := by decide +kernel
theorem dX6_send_51 : decode cX6_send 51 = .ok (.iload_n 3, 1) := by decide +kernel
theorem dX6_send_52 : decode cX6_send 52 = .ok (.iconst 1, 1) := by decide +kernel
theorem dX6_send_53 : decode cX6_send 53 = .ok (.iload 4, 2) := by decide +kernel
theorem dX6_send_55 : decode cX6_send 55 = .ok (.ishl, 1) := by decide +kernel
theorem dX6_send_56 : decode cX6_send 56 = .ok (.ior, 1) := by decide +kernel
theorem dX6_send_57 : decode cX6_send 57 = .ok (.istore_n 3, 1) := by decide +kernel
theorem dX6_send_58 : decode cX6_send 58 = .ok (.iinc 4 1, 3) := by decide +kernel
theorem dX6_send_61 : decode cX6_send 61 = .ok (.goto (-56), 3) := by decide +kernel
theorem dX6_send_64 : decode cX6_send 64 = .ok (.iload_n 3, 1) := by decide +kernel
theorem dX6_send_65 : decode cX6_send 65 = .ok (.ireturn, 1) := by decide +kernel
theorem dX6_presses_0 : decode cX6_presses 0 = .ok (.iconst 0, 1) := by decide +kernel
theorem dX6_presses_1 : decode cX6_presses 1 = .ok (.istore_n 1, 1) := by decide +kernel
theorem dX6_presses_2 : decode cX6_presses 2 = .ok (.aload_n 0, 1) := by decide +kernel
theorem dX6_presses_3 : decode cX6_presses 3 = .ok (.getfield 11, 3) := by decide +kernel
theorem dX6_presses_6 : decode cX6_presses 6 = .ok (.astore_n 2, 1) := by decide +kernel
theorem dX6_presses_7 : decode cX6_presses 7 = .ok (.aload_n 2, 1) := by decide +kernel
theorem dX6_presses_8 : decode cX6_presses 8 = .ok (.arraylength, 1) := by decide +kernel
theorem dX6_presses_9 : decode cX6_presses 9 = .ok (.istore_n 3, 1) := by decide +kernel
theorem dX6_presses_10 : decode cX6_presses 10 = .ok (.iconst 0, 1) := by decide +kernel
theorem dX6_presses_11 : decode cX6_presses 11 = .ok (.istore 4, 2) := by decide +kernel
theorem dX6_presses_13 : decode cX6_presses 13 = .ok (.iload 4, 2) := by decide +kernel
theorem dX6_presses_15 : decode cX6_presses 15 = .ok (.iload_n 3, 1) := by decide +kernel
theorem dX6_presses_16 : decode cX6_presses 16 = .ok (.if_icmp .ge 23, 3) := by decide +kernel
theorem dX6_presses_19 : decode cX6_presses 19 = .ok (.aload_n 2, 1) := by decide +kernel
theorem dX6_presses_20 : decode cX6_presses 20 = .ok (.iload 4, 2) := by decide +kernel
theorem dX6_presses_22 : decode cX6_presses 22 = .ok (.aaload, 1) := by decide +kernel
theorem dX6_presses_23 : decode cX6_presses 23 = .ok (.astore 5, 2) := by decide +kernel
theorem dX6_presses_25 : decode cX6_presses 25 = .ok (.iload_n 1, 1) := by decide +kernel
theorem dX6_presses_26 : decode cX6_presses 26 = .ok (.aload 5, 2) := by decide +kernel
theorem dX6_presses_28 : decode cX6_presses 28 = .ok (.getfield 102, 3) := by decide +kernel
theorem dX6_presses_31 : decode cX6_presses 31 = .ok (.iadd, 1) := by decide +kernel
theorem dX6_presses_32 : decode cX6_presses 32 = .ok (.istore_n 1, 1) := by decide +kernel
theorem dX6_presses_33 : decode cX6_presses 33 = .ok (.iinc 4 1, 3) := by decide +kernel
theorem dX6_presses_36 : decode cX6_presses 36 = .ok (.goto (-23), 3) := by decide +kernel
theorem dX6_presses_39 : decode cX6_presses 39 = .ok (.iload_n 1, 1) := by decide +kernel
theorem dX6_presses_40 : decode cX6_presses 40 = .ok (.ireturn, 1) := by decide +kernel
theorem dX6_timesOpened_0 : decode cX6_timesOpened 0 = .ok (.iconst 0, 1) := by decide +kernel
theorem dX6_timesOpened_1 : decode cX6_timesOpened 1 = .ok (.istore_n 1, 1) := by decide +kernel
theorem dX6_timesOpened_2 : decode cX6_timesOpened 2 = .ok (.aload_n 0, 1) := by decide +kernel
theorem dX6_timesOpened_3 : decode cX6_timesOpened 3 = .ok (.getfield 22, 3) := by decide +kernel
theorem dX6_timesOpened_6 : decode cX6_timesOpened 6 = .ok (.astore_n 2, 1) := by decide +kernel
theorem dX6_timesOpened_7 : decode cX6_timesOpened 7 = .ok (.aload_n 2, 1) := by decide +kernel
theorem dX6_timesOpened_8 : decode cX6_timesOpened 8 = .ok (.arraylength, 1) := by decide +kernel
theorem dX6_timesOpened_9 : decode cX6_timesOpened 9 = .ok (.istore_n 3, 1) := by decide +kernel
theorem dX6_timesOpened_10 : decode cX6_timesOpened 10 = .ok (.iconst 0, 1) := by decide +kernel
theorem dX6_timesOpened_11 : decode cX6_timesOpened 11 = .ok (.istore 4, 2) := by decide +kernel
theorem dX6_timesOpened_13 : decode cX6_timesOpened 13 = .ok (.iload 4, 2) := by decide +kernel
theorem dX6_timesOpened_15 : decode cX6_timesOpened 15 = .ok (.iload_n 3, 1) := by decide +kernel
theorem dX6_timesOpened_16 : decode cX6_timesOpened 16 = .ok (.if_icmp .ge 23, 3) := by decide +kernel
theorem dX6_timesOpened_19 : decode cX6_timesOpened 19 = .ok (.aload_n 2, 1) := by decide +kernel
theorem dX6_timesOpened_20 : decode cX6_timesOpened 20 = .ok (.iload 4, 2) := by decide +kernel
theorem dX6_timesOpened_22 : decode cX6_timesOpened 22 = .ok (.aaload, 1) := by decide +kernel
theorem dX6_timesOpened_23 : decode cX6_timesOpened 23 = .ok (.astore 5, 2) := by decide +kernel
theorem dX6_timesOpened_25 : decode cX6_timesOpened 25 = .ok (.iload_n 1, 1) := by decide +kernel
theorem dX6_timesOpened_26 : decode cX6_timesOpened 26 = .ok (.aload 5, 2) := by decide +kernel
theorem dX6_timesOpened_28 : decode cX6_timesOpened 28 = .ok (.getfield 105, 3) := by decide +kernel
theorem dX6_timesOpened_31 : decode cX6_timesOpened 31 = .ok (.iadd, 1) := by decide +kernel
theorem dX6_timesOpened_32 : decode cX6_timesOpened 32 = .ok (.istore_n 1, 1) := by decide +kernel
theorem dX6_timesOpened_33 : decode cX6_timesOpened 33 = .ok (.iinc 4 1, 3) := by decide +kernel
theorem dX6_timesOpened_36 : decode cX6_timesOpened 36 = .ok (.goto (-23), 3) := by decide +kernel
theorem dX6_timesOpened_39 : decode cX6_timesOpened 39 = .ok (.iload_n 1, 1) := by decide +kernel
theorem dX6_timesOpened_40 : decode cX6_timesOpened 40 = .ok (.ireturn, 1) := by decide +kernel
theorem dX6_wrongNumbers_0 : decode cX6_wrongNumbers 0 = .ok (.iconst 0, 1) := by decide +kernel
theorem dX6_wrongNumbers_1 : decode cX6_wrongNumbers 1 = .ok (.istore_n 1, 1) := by decide +kernel
theorem dX6_wrongNumbers_2 : decode cX6_wrongNumbers 2 = .ok (.aload_n 0, 1) := by decide +kernel
theorem dX6_wrongNumbers_3 : decode cX6_wrongNumbers 3 = .ok (.getfield 22, 3) := by decide +kernel
theorem dX6_wrongNumbers_6 : decode cX6_wrongNumbers 6 = .ok (.astore_n 2, 1) := by decide +kernel
theorem dX6_wrongNumbers_7 : decode cX6_wrongNumbers 7 = .ok (.aload_n 2, 1) := by decide +kernel
theorem dX6_wrongNumbers_8 : decode cX6_wrongNumbers 8 = .ok (.arraylength, 1) := by decide +kernel
theorem dX6_wrongNumbers_9 : decode cX6_wrongNumbers 9 = .ok (.istore_n 3, 1) := by decide +kernel
theorem dX6_wrongNumbers_10 : decode cX6_wrongNumbers 10 = .ok (.iconst 0, 1) := by decide +kernel
theorem dX6_wrongNumbers_11 : decode cX6_wrongNumbers 11 = .ok (.istore 4, 2) := by decide +kernel
theorem dX6_wrongNumbers_13 : decode cX6_wrongNumbers 13 = .ok (.iload 4, 2) := by decide +kernel
theorem dX6_wrongNumbers_15 : decode cX6_wrongNumbers 15 = .ok (.iload_n 3, 1) := by decide +kernel
theorem dX6_wrongNumbers_16 : decode cX6_wrongNumbers 16 = .ok (.if_icmp .ge 23, 3) := by decide +kernel
theorem dX6_wrongNumbers_19 : decode cX6_wrongNumbers 19 = .ok (.aload_n 2, 1) := by decide +kernel
theorem dX6_wrongNumbers_20 : decode cX6_wrongNumbers 20 = .ok (.iload 4, 2) := by decide +kernel
theorem dX6_wrongNumbers_22 : decode cX6_wrongNumbers 22 = .ok (.aaload, 1) := by decide +kernel
theorem dX6_wrongNumbers_23 : decode cX6_wrongNumbers 23 = .ok (.astore 5, 2) := by decide +kernel
theorem dX6_wrongNumbers_25 : decode cX6_wrongNumbers 25 = .ok (.iload_n 1, 1) := by decide +kernel
theorem dX6_wrongNumbers_26 : decode cX6_wrongNumbers 26 = .ok (.aload 5, 2) := by decide +kernel
theorem dX6_wrongNumbers_28 : decode cX6_wrongNumbers 28 = .ok (.getfield 108, 3) := by decide +kernel
theorem dX6_wrongNumbers_31 : decode cX6_wrongNumbers 31 = .ok (.iadd, 1) := by decide +kernel
theorem dX6_wrongNumbers_32 : decode cX6_wrongNumbers 32 = .ok (.istore_n 1, 1) := by decide +kernel
theorem dX6_wrongNumbers_33 : decode cX6_wrongNumbers 33 = .ok (.iinc 4 1, 3) := by decide +kernel
theorem dX6_wrongNumbers_36 : decode cX6_wrongNumbers 36 = .ok (.goto (-23), 3) := by decide +kernel
theorem dX6_wrongNumbers_39 : decode cX6_wrongNumbers 39 = .ok (.iload_n 1, 1) := by decide +kernel
theorem dX6_wrongNumbers_40 : decode cX6_wrongNumbers 40 = .ok (.ireturn, 1) := by decide +kernel
theorem dX6_openDoors_0 : decode cX6_openDoors 0 = .ok (.iconst 0, 1) := by decide +kernel
theorem dX6_openDoors_1 : decode cX6_openDoors 1 = .ok (.istore_n 1, 1) := by decide +kernel
theorem dX6_openDoors_2 : decode cX6_openDoors 2 = .ok (.aload_n 0, 1) := by decide +kernel
theorem dX6_openDoors_3 : decode cX6_openDoors 3 = .ok (.getfield 22, 3) := by decide +kernel
theorem dX6_openDoors_6 : decode cX6_openDoors 6 = .ok (.astore_n 2, 1) := by decide +kernel
theorem dX6_openDoors_7 : decode cX6_openDoors 7 = .ok (.aload_n 2, 1) := by decide +kernel
theorem dX6_openDoors_8 : decode cX6_openDoors 8 = .ok (.arraylength, 1) := by decide +kernel
theorem dX6_openDoors_9 : decode cX6_openDoors 9 = .ok (.istore_n 3, 1) := by decide +kernel
theorem dX6_openDoors_10 : decode cX6_openDoors 10 = .ok (.iconst 0, 1) := by decide +kernel
theorem dX6_openDoors_11 : decode cX6_openDoors 11 = .ok (.istore 4, 2) := by decide +kernel
theorem dX6_openDoors_13 : decode cX6_openDoors 13 = .ok (.iload 4, 2) := by decide +kernel
theorem dX6_openDoors_15 : decode cX6_openDoors 15 = .ok (.iload_n 3, 1) := by decide +kernel
theorem dX6_openDoors_16 : decode cX6_openDoors 16 = .ok (.if_icmp .ge 31, 3) := by decide +kernel
theorem dX6_openDoors_19 : decode cX6_openDoors 19 = .ok (.aload_n 2, 1) := by decide +kernel
theorem dX6_openDoors_20 : decode cX6_openDoors 20 = .ok (.iload 4, 2) := by decide +kernel
theorem dX6_openDoors_22 : decode cX6_openDoors 22 = .ok (.aaload, 1) := by decide +kernel
theorem dX6_openDoors_23 : decode cX6_openDoors 23 = .ok (.astore 5, 2) := by decide +kernel
theorem dX6_openDoors_25 : decode cX6_openDoors 25 = .ok (.iload_n 1, 1) := by decide +kernel
theorem dX6_openDoors_26 : decode cX6_openDoors 26 = .ok (.aload 5, 2) := by decide +kernel
theorem dX6_openDoors_28 : decode cX6_openDoors 28 = .ok (.getfield 98, 3) := by decide +kernel
theorem dX6_openDoors_31 : decode cX6_openDoors 31 = .ok (.ifCond .eq 7, 3) := by decide +kernel
theorem dX6_openDoors_34 : decode cX6_openDoors 34 = .ok (.iconst 1, 1) := by decide +kernel
theorem dX6_openDoors_35 : decode cX6_openDoors 35 = .ok (.goto 4, 3) := by decide +kernel
theorem dX6_openDoors_38 : decode cX6_openDoors 38 = .ok (.iconst 0, 1) := by decide +kernel
theorem dX6_openDoors_39 : decode cX6_openDoors 39 = .ok (.iadd, 1) := by decide +kernel
theorem dX6_openDoors_40 : decode cX6_openDoors 40 = .ok (.istore_n 1, 1) := by decide +kernel
theorem dX6_openDoors_41 : decode cX6_openDoors 41 = .ok (.iinc 4 1, 3) := by decide +kernel
theorem dX6_openDoors_44 : decode cX6_openDoors 44 = .ok (.goto (-31), 3) := by decide +kernel
theorem dX6_openDoors_47 : decode cX6_openDoors 47 = .ok (.iload_n 1, 1) := by decide +kernel
theorem dX6_openDoors_48 : decode cX6_openDoors 48 = .ok (.ireturn, 1) := by decide +kernel
theorem dX6_lockedDoors_0 : decode cX6_lockedDoors 0 = .ok (.iconst 0, 1) := by decide +kernel
theorem dX6_lockedDoors_1 : decode cX6_lockedDoors 1 = .ok (.istore_n 1, 1) := by decide +kernel
theorem dX6_lockedDoors_2 : decode cX6_lockedDoors 2 = .ok (.aload_n 0, 1) := by decide +kernel
theorem dX6_lockedDoors_3 : decode cX6_lockedDoors 3 = .ok (.getfield 22, 3) := by decide +kernel
theorem dX6_lockedDoors_6 : decode cX6_lockedDoors 6 = .ok (.astore_n 2, 1) := by decide +kernel
theorem dX6_lockedDoors_7 : decode cX6_lockedDoors 7 = .ok (.aload_n 2, 1) := by decide +kernel
theorem dX6_lockedDoors_8 : decode cX6_lockedDoors 8 = .ok (.arraylength, 1) := by decide +kernel
theorem dX6_lockedDoors_9 : decode cX6_lockedDoors 9 = .ok (.istore_n 3, 1) := by decide +kernel
theorem dX6_lockedDoors_10 : decode cX6_lockedDoors 10 = .ok (.iconst 0, 1) := by decide +kernel
theorem dX6_lockedDoors_11 : decode cX6_lockedDoors 11 = .ok (.istore 4, 2) := by decide +kernel
theorem dX6_lockedDoors_13 : decode cX6_lockedDoors 13 = .ok (.iload 4, 2) := by decide +kernel
theorem dX6_lockedDoors_15 : decode cX6_lockedDoors 15 = .ok (.iload_n 3, 1) := by decide +kernel
theorem dX6_lockedDoors_16 : decode cX6_lockedDoors 16 = .ok (.if_icmp .ge 35, 3) := by decide +kernel
theorem dX6_lockedDoors_19 : decode cX6_lockedDoors 19 = .ok (.aload_n 2, 1) := by decide +kernel
theorem dX6_lockedDoors_20 : decode cX6_lockedDoors 20 = .ok (.iload 4, 2) := by decide +kernel
theorem dX6_lockedDoors_22 : decode cX6_lockedDoors 22 = .ok (.aaload, 1) := by decide +kernel
theorem dX6_lockedDoors_23 : decode cX6_lockedDoors 23 = .ok (.astore 5, 2) := by decide +kernel
theorem dX6_lockedDoors_25 : decode cX6_lockedDoors 25 = .ok (.iload_n 1, 1) := by decide +kernel
theorem dX6_lockedDoors_26 : decode cX6_lockedDoors 26 = .ok (.aload 5, 2) := by decide +kernel
theorem dX6_lockedDoors_28 : decode cX6_lockedDoors 28 = .ok (.aload_n 0, 1) := by decide +kernel
theorem dX6_lockedDoors_29 : decode cX6_lockedDoors 29 = .ok (.getfield 37, 3) := by decide +kernel
theorem dX6_lockedDoors_32 : decode cX6_lockedDoors 32 = .ok (.invokevirtual 111, 3) := by decide +kernel
theorem dX6_lockedDoors_35 : decode cX6_lockedDoors 35 = .ok (.ifCond .eq 7, 3) := by decide +kernel
theorem dX6_lockedDoors_38 : decode cX6_lockedDoors 38 = .ok (.iconst 1, 1) := by decide +kernel
theorem dX6_lockedDoors_39 : decode cX6_lockedDoors 39 = .ok (.goto 4, 3) := by decide +kernel
theorem dX6_lockedDoors_42 : decode cX6_lockedDoors 42 = .ok (.iconst 0, 1) := by decide +kernel
theorem dX6_lockedDoors_43 : decode cX6_lockedDoors 43 = .ok (.iadd, 1) := by decide +kernel
theorem dX6_lockedDoors_44 : decode cX6_lockedDoors 44 = .ok (.istore_n 1, 1) := by decide +kernel
theorem dX6_lockedDoors_45 : decode cX6_lockedDoors 45 = .ok (.iinc 4 1, 3) := by decide +kernel
theorem dX6_lockedDoors_48 : decode cX6_lockedDoors 48 = .ok (.goto (-35), 3) := by decide +kernel
theorem dX6_lockedDoors_51 : decode cX6_lockedDoors 51 = .ok (.iload_n 1, 1) := by decide +kernel
theorem dX6_lockedDoors_52 : decode cX6_lockedDoors 52 = .ok (.ireturn, 1) := by decide +kernel
theorem dX7_init_0 : decode cX7_init 0 = .ok (.aload_n 0, 1) := by decide +kernel
theorem dX7_init_1 : decode cX7_init 1 = .ok (.invokespecial 3, 3) := by decide +kernel
theorem dX7_init_4 : decode cX7_init 4 = .ok (.aload_n 0, 1) := by decide +kernel
theorem dX7_init_5 : decode cX7_init 5 = .ok (.bipush 60, 2) := by decide +kernel
theorem dX7_init_7 : decode cX7_init 7 = .ok (.newarray .int, 2) := by decide +kernel
theorem dX7_init_9 : decode cX7_init 9 = .ok (.putfield 9, 3) := by decide +kernel
theorem dX7_init_12 : decode cX7_init 12 = .ok (.return_, 1) := by decide +kernel
theorem dX8_init_0 : decode cX8_init 0 = .ok (.aload_n 0, 1) := by decide +kernel
theorem dX8_init_1 : decode cX8_init 1 = .ok (.invokespecial 1, 3) := by decide +kernel
theorem dX8_init_4 : decode cX8_init 4 = .ok (.aload_n 0, 1) := by decide +kernel
theorem dX8_init_5 : decode cX8_init 5 = .ok (.new 7, 3) := by decide +kernel
theorem dX8_init_8 : decode cX8_init 8 = .ok (.dup, 1) := by decide +kernel
theorem dX8_init_9 : decode cX8_init 9 = .ok (.invokespecial 9, 3) := by decide +kernel
theorem dX8_init_12 : decode cX8_init 12 = .ok (.putfield 10, 3) := by decide +kernel
theorem dX8_init_15 : decode cX8_init 15 = .ok (.aload_n 0, 1) := by decide +kernel
theorem dX8_init_16 : decode cX8_init 16 = .ok (.new 16, 3) := by decide +kernel
theorem dX8_init_19 : decode cX8_init 19 = .ok (.dup, 1) := by decide +kernel
theorem dX8_init_20 : decode cX8_init 20 = .ok (.invokespecial 18, 3) := by decide +kernel
theorem dX8_init_23 : decode cX8_init 23 = .ok (.putfield 19, 3) := by decide +kernel
theorem dX8_init_26 : decode cX8_init 26 = .ok (.aload_n 0, 1) := by decide +kernel
theorem dX8_init_27 : decode cX8_init 27 = .ok (.new 23, 3) := by decide +kernel
theorem dX8_init_30 : decode cX8_init 30 = .ok (.dup, 1) := by decide +kernel
theorem dX8_init_31 : decode cX8_init 31 = .ok (.invokespecial 25, 3) := by decide +kernel
theorem dX8_init_34 : decode cX8_init 34 = .ok (.putfield 26, 3) := by decide +kernel
theorem dX8_init_37 : decode cX8_init 37 = .ok (.aload_n 0, 1) := by decide +kernel
theorem dX8_init_38 : decode cX8_init 38 = .ok (.new 30, 3) := by decide +kernel
theorem dX8_init_41 : decode cX8_init 41 = .ok (.dup, 1) := by decide +kernel
theorem dX8_init_42 : decode cX8_init 42 = .ok (.invokespecial 32, 3) := by decide +kernel
theorem dX8_init_45 : decode cX8_init 45 = .ok (.putfield 33, 3) := by decide +kernel
theorem dX8_init_48 : decode cX8_init 48 = .ok (.return_, 1) := by decide +kernel
theorem dX8_make_0 : decode cX8_make 0 = .ok (.iload_n 1, 1) := by decide +kernel
theorem dX8_make_1 : decode cX8_make 1 = .ok (.iconst 4, 1) := by decide +kernel
theorem dX8_make_2 : decode cX8_make 2 = .ok (.invokestatic 37, 3) := by decide +kernel
theorem dX8_make_5 : decode cX8_make 5 = .ok (.iload_n 2, 1) := by decide +kernel
theorem dX8_make_6 : decode cX8_make 6 = .ok (.iconst 0, 1) := by decide +kernel
theorem dX8_make_7 : decode cX8_make 7 = .ok (.sipush 9999, 3) := by decide +kernel
theorem dX8_make_10 : decode cX8_make 10 = .ok (.invokestatic 41, 3) := by decide +kernel
theorem dX8_make_13 : decode cX8_make 13 = .ok (.iload_n 3, 1) := by decide +kernel
theorem dX8_make_14 : decode cX8_make 14 = .ok (.iconst 0, 1) := by decide +kernel
theorem dX8_make_15 : decode cX8_make 15 = .ok (.sipush 9999, 3) := by decide +kernel
theorem dX8_make_18 : decode cX8_make 18 = .ok (.invokestatic 41, 3) := by decide +kernel
theorem dX8_make_21 : decode cX8_make 21 = .ok (.aload_n 0, 1) := by decide +kernel
theorem dX8_make_22 : decode cX8_make 22 = .ok (.getfield 19, 3) := by decide +kernel
theorem dX8_make_25 : decode cX8_make 25 = .ok (.aload_n 0, 1) := by decide +kernel
theorem dX8_make_26 : decode cX8_make 26 = .ok (.getfield 10, 3) := by decide +kernel
theorem dX8_make_29 : decode cX8_make 29 = .ok (.invokevirtual 45, 3) := by decide +kernel
theorem dX8_make_32 : decode cX8_make 32 = .ok (.aload_n 0, 1) := by decide +kernel
theorem dX8_make_33 : decode cX8_make 33 = .ok (.getfield 10, 3) := by decide +kernel
theorem dX8_make_36 : decode cX8_make 36 = .ok (.getfield 49, 3) := by decide +kernel
theorem dX8_make_39 : decode cX8_make 39 = .ok (.iload_n 1, 1) := by decide +kernel
theorem dX8_make_40 : decode cX8_make 40 = .ok (.aaload, 1) := by decide +kernel
theorem dX8_make_41 : decode cX8_make 41 = .ok (.astore 4, 2) := by decide +kernel
theorem dX8_make_43 : decode cX8_make 43 = .ok (.aload 4, 2) := by decide +kernel
theorem dX8_make_45 : decode cX8_make 45 = .ok (.getfield 53, 3) := by decide +kernel
theorem dX8_make_48 : decode cX8_make 48 = .ok (.istore 5, 2) := by decide +kernel
theorem dX8_make_50 : decode cX8_make 50 = .ok (.aload 4, 2) := by decide +kernel
theorem dX8_make_52 : decode cX8_make 52 = .ok (.iload_n 2, 1) := by decide +kernel
theorem dX8_make_53 : decode cX8_make 53 = .ok (.putfield 59, 3) := by decide +kernel
theorem dX8_make_56 : decode cX8_make 56 = .ok (.aload 4, 2) := by decide +kernel
theorem dX8_make_58 : decode cX8_make 58 = .ok (.iload_n 3, 1) := by decide +kernel
theorem dX8_make_59 : decode cX8_make 59 = .ok (.putfield 53, 3) := by decide +kernel
theorem dX8_make_62 : decode cX8_make 62 = .ok (.iload 5, 2) := by decide +kernel
theorem dX8_make_64 : decode cX8_make 64 = .ok (.ireturn, 1) := by decide +kernel
theorem dX8_battery_0 : decode cX8_battery 0 = .ok (.iload_n 1, 1) := by decide +kernel
theorem dX8_battery_1 : decode cX8_battery 1 = .ok (.iconst 4, 1) := by decide +kernel
theorem dX8_battery_2 : decode cX8_battery 2 = .ok (.invokestatic 37, 3) := by decide +kernel
theorem dX8_battery_5 : decode cX8_battery 5 = .ok (.iload_n 2, 1) := by decide +kernel
theorem dX8_battery_6 : decode cX8_battery 6 = .ok (.iconst 0, 1) := by decide +kernel
theorem dX8_battery_7 : decode cX8_battery 7 = .ok (.sipush 999, 3) := by decide +kernel
theorem dX8_battery_10 : decode cX8_battery 10 = .ok (.invokestatic 41, 3) := by decide +kernel
theorem dX8_battery_13 : decode cX8_battery 13 = .ok (.aload_n 0, 1) := by decide +kernel
theorem dX8_battery_14 : decode cX8_battery 14 = .ok (.getfield 19, 3) := by decide +kernel
theorem dX8_battery_17 : decode cX8_battery 17 = .ok (.aload_n 0, 1) := by decide +kernel
theorem dX8_battery_18 : decode cX8_battery 18 = .ok (.getfield 10, 3) := by decide +kernel
theorem dX8_battery_21 : decode cX8_battery 21 = .ok (.invokevirtual 45, 3) := by decide +kernel
theorem dX8_battery_24 : decode cX8_battery 24 = .ok (.aload_n 0, 1) := by decide +kernel
theorem dX8_battery_25 : decode cX8_battery 25 = .ok (.getfield 10, 3) := by decide +kernel
theorem dX8_battery_28 : decode cX8_battery 28 = .ok (.getfield 49, 3) := by decide +kernel
theorem dX8_battery_31 : decode cX8_battery 31 = .ok (.iload_n 1, 1) := by decide +kernel
theorem dX8_battery_32 : decode cX8_battery 32 = .ok (.aaload, 1) := by decide +kernel
theorem dX8_battery_33 : decode cX8_battery 33 = .ok (.astore_n 3, 1) := by decide +kernel
theorem dX8_battery_34 : decode cX8_battery 34 = .ok (.aload_n 3, 1) := by decide +kernel
theorem dX8_battery_35 : decode cX8_battery 35 = .ok (.getfield 62, 3) := by decide +kernel
theorem dX8_battery_38 : decode cX8_battery 38 = .ok (.istore 4, 2) := by decide +kernel
theorem dX8_battery_40 : decode cX8_battery 40 = .ok (.aload_n 3, 1) := by decide +kernel
theorem dX8_battery_41 : decode cX8_battery 41 = .ok (.iload_n 2, 1) := by decide +kernel
theorem dX8_battery_42 : decode cX8_battery 42 = .ok (.putfield 62, 3) := by decide +kernel
theorem dX8_battery_45 : decode cX8_battery 45 = .ok (.iload 4, 2) := by decide +kernel
theorem dX8_battery_47 : decode cX8_battery 47 = .ok (.ireturn, 1) := by decide +kernel
theorem dX8_press_0 : decode cX8_press 0 = .ok (.iload_n 1, 1) := by decide +kernel
theorem dX8_press_1 : decode cX8_press 1 = .ok (.iconst 4, 1) := by decide +kernel
theorem dX8_press_2 : decode cX8_press 2 = .ok (.invokestatic 37, 3) := by decide +kernel
theorem dX8_press_5 : decode cX8_press 5 = .ok (.iload_n 2, 1) := by decide +kernel
theorem dX8_press_6 : decode cX8_press 6 = .ok (.iconst 0, 1) := by decide +kernel
theorem dX8_press_7 : decode cX8_press 7 = .ok (.bipush 7, 2) := by decide +kernel
theorem dX8_press_9 : decode cX8_press 9 = .ok (.invokestatic 41, 3) := by decide +kernel
theorem dX8_press_12 : decode cX8_press 12 = .ok (.aload_n 0, 1) := by decide +kernel
theorem dX8_press_13 : decode cX8_press 13 = .ok (.getfield 10, 3) := by decide +kernel
theorem dX8_press_16 : decode cX8_press 16 = .ok (.iload_n 1, 1) := by decide +kernel
theorem dX8_press_17 : decode cX8_press 17 = .ok (.invokevirtual 65, 3) := by decide +kernel
theorem dX8_press_20 : decode cX8_press 20 = .ok (.invokestatic 69, 3) := by decide +kernel
theorem dX8_press_23 : decode cX8_press 23 = .ok (.aload_n 0, 1) := by decide +kernel
theorem dX8_press_24 : decode cX8_press 24 = .ok (.getfield 19, 3) := by decide +kernel
theorem dX8_press_27 : decode cX8_press 27 = .ok (.aload_n 0, 1) := by decide +kernel
theorem dX8_press_28 : decode cX8_press 28 = .ok (.getfield 10, 3) := by decide +kernel
theorem dX8_press_31 : decode cX8_press 31 = .ok (.invokevirtual 45, 3) := by decide +kernel
theorem dX8_press_34 : decode cX8_press 34 = .ok (.aload_n 0, 1) := by decide +kernel
theorem dX8_press_35 : decode cX8_press 35 = .ok (.getfield 10, 3) := by decide +kernel
theorem dX8_press_38 : decode cX8_press 38 = .ok (.iload_n 1, 1) := by decide +kernel
theorem dX8_press_39 : decode cX8_press 39 = .ok (.iload_n 2, 1) := by decide +kernel
theorem dX8_press_40 : decode cX8_press 40 = .ok (.invokevirtual 73, 3) := by decide +kernel
theorem dX8_press_43 : decode cX8_press 43 = .ok (.ireturn, 1) := by decide +kernel
theorem dX8_again_0 : decode cX8_again 0 = .ok (.iload_n 1, 1) := by decide +kernel
theorem dX8_again_1 : decode cX8_again 1 = .ok (.aload_n 0, 1) := by decide +kernel
theorem dX8_again_2 : decode cX8_again 2 = .ok (.getfield 10, 3) := by decide +kernel
theorem dX8_again_5 : decode cX8_again 5 = .ok (.getfield 77, 3) := by decide +kernel
theorem dX8_again_8 : decode cX8_again 8 = .ok (.getfield 81, 3) := by decide +kernel
theorem dX8_again_11 : decode cX8_again 11 = .ok (.invokestatic 37, 3) := by decide +kernel
theorem dX8_again_14 : decode cX8_again 14 = .ok (.iload_n 2, 1) := by decide +kernel
theorem dX8_again_15 : decode cX8_again 15 = .ok (.iconst 0, 1) := by decide +kernel
theorem dX8_again_16 : decode cX8_again 16 = .ok (.bipush 7, 2) := by decide +kernel
theorem dX8_again_18 : decode cX8_again 18 = .ok (.invokestatic 41, 3) := by decide +kernel
theorem dX8_again_21 : decode cX8_again 21 = .ok (.aload_n 0, 1) := by decide +kernel
theorem dX8_again_22 : decode cX8_again 22 = .ok (.getfield 19, 3) := by decide +kernel
theorem dX8_again_25 : decode cX8_again 25 = .ok (.aload_n 0, 1) := by decide +kernel
theorem dX8_again_26 : decode cX8_again 26 = .ok (.getfield 10, 3) := by decide +kernel
theorem dX8_again_29 : decode cX8_again 29 = .ok (.invokevirtual 45, 3) := by decide +kernel
theorem dX8_again_32 : decode cX8_again 32 = .ok (.aload_n 0, 1) := by decide +kernel
theorem dX8_again_33 : decode cX8_again 33 = .ok (.getfield 10, 3) := by decide +kernel
theorem dX8_again_36 : decode cX8_again 36 = .ok (.iload_n 1, 1) := by decide +kernel
theorem dX8_again_37 : decode cX8_again 37 = .ok (.iload_n 2, 1) := by decide +kernel
theorem dX8_again_38 : decode cX8_again 38 = .ok (.invokevirtual 86, 3) := by decide +kernel
theorem dX8_again_41 : decode cX8_again 41 = .ok (.ireturn, 1) := by decide +kernel
theorem dX8_learn_0 : decode cX8_learn 0 = .ok (.iload_n 1, 1) := by decide +kernel
theorem dX8_learn_1 : decode cX8_learn 1 = .ok (.iconst 3, 1) := by decide +kernel
theorem dX8_learn_2 : decode cX8_learn 2 = .ok (.invokestatic 37, 3) := by decide +kernel
theorem dX8_learn_5 : decode cX8_learn 5 = .ok (.iload_n 2, 1) := by decide +kernel
theorem dX8_learn_6 : decode cX8_learn 6 = .ok (.iconst 4, 1) := by decide +kernel
theorem dX8_learn_7 : decode cX8_learn 7 = .ok (.invokestatic 37, 3) := by decide +kernel
theorem dX8_learn_10 : decode cX8_learn 10 = .ok (.iload_n 3, 1) := by decide +kernel
theorem dX8_learn_11 : decode cX8_learn 11 = .ok (.iconst 4, 1) := by decide +kernel
theorem dX8_learn_12 : decode cX8_learn 12 = .ok (.invokestatic 37, 3) := by decide +kernel
theorem dX8_learn_15 : decode cX8_learn 15 = .ok (.aload_n 0, 1) := by decide +kernel
theorem dX8_learn_16 : decode cX8_learn 16 = .ok (.getfield 19, 3) := by decide +kernel
theorem dX8_learn_19 : decode cX8_learn 19 = .ok (.aload_n 0, 1) := by decide +kernel
theorem dX8_learn_20 : decode cX8_learn 20 = .ok (.getfield 10, 3) := by decide +kernel
theorem dX8_learn_23 : decode cX8_learn 23 = .ok (.invokevirtual 45, 3) := by decide +kernel
theorem dX8_learn_26 : decode cX8_learn 26 = .ok (.aload_n 0, 1) := by decide +kernel
theorem dX8_learn_27 : decode cX8_learn 27 = .ok (.getfield 10, 3) := by decide +kernel
theorem dX8_learn_30 : decode cX8_learn 30 = .ok (.getfield 89, 3) := by decide +kernel
theorem dX8_learn_33 : decode cX8_learn 33 = .ok (.iload_n 1, 1) := by decide +kernel
theorem dX8_learn_34 : decode cX8_learn 34 = .ok (.aaload, 1) := by decide +kernel
theorem dX8_learn_35 : decode cX8_learn 35 = .ok (.astore 4, 2) := by decide +kernel
theorem dX8_learn_37 : decode cX8_learn 37 = .ok (.aload 4, 2) := by decide +kernel
theorem dX8_learn_39 : decode cX8_learn 39 = .ok (.getfield 93, 3) := by decide +kernel
theorem dX8_learn_42 : decode cX8_learn 42 = .ok (.iload_n 2, 1) := by decide +kernel
theorem dX8_learn_43 : decode cX8_learn 43 = .ok (.aaload, 1) := by decide +kernel
theorem dX8_learn_44 : decode cX8_learn 44 = .ok (.aload_n 0, 1) := by decide +kernel
theorem dX8_learn_45 : decode cX8_learn 45 = .ok (.getfield 10, 3) := by decide +kernel
theorem dX8_learn_48 : decode cX8_learn 48 = .ok (.getfield 49, 3) := by decide +kernel
theorem dX8_learn_51 : decode cX8_learn 51 = .ok (.iload_n 3, 1) := by decide +kernel
theorem dX8_learn_52 : decode cX8_learn 52 = .ok (.aaload, 1) := by decide +kernel
theorem dX8_learn_53 : decode cX8_learn 53 = .ok (.invokevirtual 97, 3) := by decide +kernel
theorem dX8_learn_56 : decode cX8_learn 56 = .ok (.aload 4, 2) := by decide +kernel
theorem dX8_learn_58 : decode cX8_learn 58 = .ok (.invokevirtual 103, 3) := by decide +kernel
theorem dX8_learn_61 : decode cX8_learn 61 = .ok (.ireturn, 1) := by decide +kernel
theorem dX8_forget_0 : decode cX8_forget 0 = .ok (.iload_n 1, 1) := by decide +kernel
theorem dX8_forget_1 : decode cX8_forget 1 = .ok (.iconst 3, 1) := by decide +kernel
theorem dX8_forget_2 : decode cX8_forget 2 = .ok (.invokestatic 37, 3) := by decide +kernel
theorem dX8_forget_5 : decode cX8_forget 5 = .ok (.iload_n 2, 1) := by decide +kernel
theorem dX8_forget_6 : decode cX8_forget 6 = .ok (.iconst 4, 1) := by decide +kernel
theorem dX8_forget_7 : decode cX8_forget 7 = .ok (.invokestatic 37, 3) := by decide +kernel
theorem dX8_forget_10 : decode cX8_forget 10 = .ok (.aload_n 0, 1) := by decide +kernel
theorem dX8_forget_11 : decode cX8_forget 11 = .ok (.getfield 19, 3) := by decide +kernel
theorem dX8_forget_14 : decode cX8_forget 14 = .ok (.aload_n 0, 1) := by decide +kernel
theorem dX8_forget_15 : decode cX8_forget 15 = .ok (.getfield 10, 3) := by decide +kernel
theorem dX8_forget_18 : decode cX8_forget 18 = .ok (.invokevirtual 45, 3) := by decide +kernel
theorem dX8_forget_21 : decode cX8_forget 21 = .ok (.aload_n 0, 1) := by decide +kernel
theorem dX8_forget_22 : decode cX8_forget 22 = .ok (.getfield 10, 3) := by decide +kernel
theorem dX8_forget_25 : decode cX8_forget 25 = .ok (.getfield 89, 3) := by decide +kernel
theorem dX8_forget_28 : decode cX8_forget 28 = .ok (.iload_n 1, 1) := by decide +kernel
theorem dX8_forget_29 : decode cX8_forget 29 = .ok (.aaload, 1) := by decide +kernel
theorem dX8_forget_30 : decode cX8_forget 30 = .ok (.getfield 93, 3) := by decide +kernel
theorem dX8_forget_33 : decode cX8_forget 33 = .ok (.iload_n 2, 1) := by decide +kernel
theorem dX8_forget_34 : decode cX8_forget 34 = .ok (.aaload, 1) := by decide +kernel
theorem dX8_forget_35 : decode cX8_forget 35 = .ok (.astore_n 3, 1) := by decide +kernel
theorem dX8_forget_36 : decode cX8_forget 36 = .ok (.aload_n 3, 1) := by decide +kernel
theorem dX8_forget_37 : decode cX8_forget 37 = .ok (.getfield 107, 3) := by decide +kernel
theorem dX8_forget_40 : decode cX8_forget 40 = .ok (.ifCond .eq 7, 3) := by decide +kernel
theorem dX8_forget_43 : decode cX8_forget 43 = .ok (.iconst 1, 1) := by decide +kernel
theorem dX8_forget_44 : decode cX8_forget 44 = .ok (.goto 4, 3) := by decide +kernel
theorem dX8_forget_47 : decode cX8_forget 47 = .ok (.iconst 0, 1) := by decide +kernel
theorem dX8_forget_48 : decode cX8_forget 48 = .ok (.istore 4, 2) := by decide +kernel
theorem dX8_forget_50 : decode cX8_forget 50 = .ok (.aload_n 3, 1) := by decide +kernel
theorem dX8_forget_51 : decode cX8_forget 51 = .ok (.invokevirtual 111, 3) := by decide +kernel
theorem dX8_forget_54 : decode cX8_forget 54 = .ok (.iload 4, 2) := by decide +kernel
theorem dX8_forget_56 : decode cX8_forget 56 = .ok (.ireturn, 1) := by decide +kernel
theorem dX8_shut_0 : decode cX8_shut 0 = .ok (.iload_n 1, 1) := by decide +kernel
theorem dX8_shut_1 : decode cX8_shut 1 = .ok (.iconst 3, 1) := by decide +kernel
theorem dX8_shut_2 : decode cX8_shut 2 = .ok (.invokestatic 37, 3) := by decide +kernel
theorem dX8_shut_5 : decode cX8_shut 5 = .ok (.aload_n 0, 1) := by decide +kernel
theorem dX8_shut_6 : decode cX8_shut 6 = .ok (.getfield 19, 3) := by decide +kernel
theorem dX8_shut_9 : decode cX8_shut 9 = .ok (.aload_n 0, 1) := by decide +kernel
theorem dX8_shut_10 : decode cX8_shut 10 = .ok (.getfield 10, 3) := by decide +kernel
theorem dX8_shut_13 : decode cX8_shut 13 = .ok (.invokevirtual 45, 3) := by decide +kernel
theorem dX8_shut_16 : decode cX8_shut 16 = .ok (.aload_n 0, 1) := by decide +kernel
theorem dX8_shut_17 : decode cX8_shut 17 = .ok (.getfield 10, 3) := by decide +kernel
theorem dX8_shut_20 : decode cX8_shut 20 = .ok (.getfield 89, 3) := by decide +kernel
theorem dX8_shut_23 : decode cX8_shut 23 = .ok (.iload_n 1, 1) := by decide +kernel
theorem dX8_shut_24 : decode cX8_shut 24 = .ok (.aaload, 1) := by decide +kernel
theorem dX8_shut_25 : decode cX8_shut 25 = .ok (.astore_n 2, 1) := by decide +kernel
theorem dX8_shut_26 : decode cX8_shut 26 = .ok (.aload_n 2, 1) := by decide +kernel
theorem dX8_shut_27 : decode cX8_shut 27 = .ok (.getfield 114, 3) := by decide +kernel
theorem dX8_shut_30 : decode cX8_shut 30 = .ok (.ifCond .eq 7, 3) := by decide +kernel
theorem dX8_shut_33 : decode cX8_shut 33 = .ok (.iconst 1, 1) := by decide +kernel
theorem dX8_shut_34 : decode cX8_shut 34 = .ok (.goto 4, 3) := by decide +kernel
theorem dX8_shut_37 : decode cX8_shut 37 = .ok (.iconst 0, 1) := by decide +kernel
theorem dX8_shut_38 : decode cX8_shut 38 = .ok (.istore_n 3, 1) := by decide +kernel
theorem dX8_shut_39 : decode cX8_shut 39 = .ok (.aload_n 2, 1) := by decide +kernel
theorem dX8_shut_40 : decode cX8_shut 40 = .ok (.iconst 0, 1) := by decide +kernel
theorem dX8_shut_41 : decode cX8_shut 41 = .ok (.putfield 114, 3) := by decide +kernel
theorem dX8_shut_44 : decode cX8_shut 44 = .ok (.iload_n 3, 1) := by decide +kernel
theorem dX8_shut_45 : decode cX8_shut 45 = .ok (.ireturn, 1) := by decide +kernel
theorem dX8_unlock_0 : decode cX8_unlock 0 = .ok (.iload_n 1, 1) := by decide +kernel
theorem dX8_unlock_1 : decode cX8_unlock 1 = .ok (.iconst 3, 1) := by decide +kernel
theorem dX8_unlock_2 : decode cX8_unlock 2 = .ok (.invokestatic 37, 3) := by decide +kernel
theorem dX8_unlock_5 : decode cX8_unlock 5 = .ok (.aload_n 0, 1) := by decide +kernel
theorem dX8_unlock_6 : decode cX8_unlock 6 = .ok (.getfield 19, 3) := by decide +kernel
theorem dX8_unlock_9 : decode cX8_unlock 9 = .ok (.aload_n 0, 1) := by decide +kernel
theorem dX8_unlock_10 : decode cX8_unlock 10 = .ok (.getfield 10, 3) := by decide +kernel
theorem dX8_unlock_13 : decode cX8_unlock 13 = .ok (.invokevirtual 45, 3) := by decide +kernel
theorem dX8_unlock_16 : decode cX8_unlock 16 = .ok (.aload_n 0, 1) := by decide +kernel
theorem dX8_unlock_17 : decode cX8_unlock 17 = .ok (.getfield 10, 3) := by decide +kernel
theorem dX8_unlock_20 : decode cX8_unlock 20 = .ok (.getfield 89, 3) := by decide +kernel
theorem dX8_unlock_23 : decode cX8_unlock 23 = .ok (.iload_n 1, 1) := by decide +kernel
theorem dX8_unlock_24 : decode cX8_unlock 24 = .ok (.aaload, 1) := by decide +kernel
theorem dX8_unlock_25 : decode cX8_unlock 25 = .ok (.astore_n 2, 1) := by decide +kernel
theorem dX8_unlock_26 : decode cX8_unlock 26 = .ok (.aload_n 2, 1) := by decide +kernel
theorem dX8_unlock_27 : decode cX8_unlock 27 = .ok (.getfield 117, 3) := by decide +kernel
theorem dX8_unlock_30 : decode cX8_unlock 30 = .ok (.istore_n 3, 1) := by decide +kernel
theorem dX8_unlock_31 : decode cX8_unlock 31 = .ok (.aload_n 2, 1) := by decide +kernel
theorem dX8_unlock_32 : decode cX8_unlock 32 = .ok (.iconst 0, 1) := by decide +kernel
theorem dX8_unlock_33 : decode cX8_unlock 33 = .ok (.putfield 117, 3) := by decide +kernel
theorem dX8_unlock_36 : decode cX8_unlock 36 = .ok (.iload_n 3, 1) := by decide +kernel
theorem dX8_unlock_37 : decode cX8_unlock 37 = .ok (.ireturn, 1) := by decide +kernel
theorem dX8_set_0 : decode cX8_set 0 = .ok (.iload_n 1, 1) := by decide +kernel
theorem dX8_set_1 : decode cX8_set 1 = .ok (.iconst 3, 1) := by decide +kernel
theorem dX8_set_2 : decode cX8_set 2 = .ok (.invokestatic 37, 3) := by decide +kernel
theorem dX8_set_5 : decode cX8_set 5 = .ok (.iload_n 2, 1) := by decide +kernel
theorem dX8_set_6 : decode cX8_set 6 = .ok (.iload_n 1, 1) := by decide +kernel
theorem dX8_set_7 : decode cX8_set 7 = .ok (.invokestatic 120, 3) := by decide +kernel
theorem dX8_set_10 : decode cX8_set 10 = .ok (.iload_n 1, 1) := by decide +kernel
theorem dX8_set_11 : decode cX8_set 11 = .ok (.invokestatic 126, 3) := by decide +kernel
theorem dX8_set_14 : decode cX8_set 14 = .ok (.invokestatic 41, 3) := by decide +kernel
theorem dX8_set_17 : decode cX8_set 17 = .ok (.aload_n 0, 1) := by decide +kernel
theorem dX8_set_18 : decode cX8_set 18 = .ok (.getfield 19, 3) := by decide +kernel
theorem dX8_set_21 : decode cX8_set 21 = .ok (.aload_n 0, 1) := by decide +kernel
theorem dX8_set_22 : decode cX8_set 22 = .ok (.getfield 10, 3) := by decide +kernel
theorem dX8_set_25 : decode cX8_set 25 = .ok (.invokevirtual 45, 3) := by decide +kernel
theorem dX8_set_28 : decode cX8_set 28 = .ok (.aload_n 0, 1) := by decide +kernel
theorem dX8_set_29 : decode cX8_set 29 = .ok (.getfield 10, 3) := by decide +kernel
theorem dX8_set_32 : decode cX8_set 32 = .ok (.getfield 129, 3) := by decide +kernel
theorem dX8_set_35 : decode cX8_set 35 = .ok (.iload_n 1, 1) := by decide +kernel
theorem dX8_set_36 : decode cX8_set 36 = .ok (.invokevirtual 133, 3) := by decide +kernel
theorem dX8_set_39 : decode cX8_set 39 = .ok (.istore_n 3, 1) := by decide +kernel
theorem dX8_set_40 : decode cX8_set 40 = .ok (.aload_n 0, 1) := by decide +kernel
theorem dX8_set_41 : decode cX8_set 41 = .ok (.getfield 10, 3) := by decide +kernel
theorem dX8_set_44 : decode cX8_set 44 = .ok (.getfield 129, 3) := by decide +kernel
theorem dX8_set_47 : decode cX8_set 47 = .ok (.iload_n 1, 1) := by decide +kernel
theorem dX8_set_48 : decode cX8_set 48 = .ok (.iload_n 2, 1) := by decide +kernel
theorem dX8_set_49 : decode cX8_set 49 = .ok (.invokevirtual 136, 3) := by decide +kernel
theorem dX8_set_52 : decode cX8_set 52 = .ok (.iload_n 3, 1) := by decide +kernel
theorem dX8_set_53 : decode cX8_set 53 = .ok (.ireturn, 1) := by decide +kernel
theorem dX8_undo_0 : decode cX8_undo 0 = .ok (.aload_n 0, 1) := by decide +kernel
theorem dX8_undo_1 : decode cX8_undo 1 = .ok (.getfield 19, 3) := by decide +kernel
theorem dX8_undo_4 : decode cX8_undo 4 = .ok (.getfield 161, 3) := by decide +kernel
theorem dX8_undo_7 : decode cX8_undo 7 = .ok (.ifCond .le 7, 3) := by decide +kernel
theorem dX8_undo_10 : decode cX8_undo 10 = .ok (.iconst 1, 1) := by decide +kernel
theorem dX8_undo_11 : decode cX8_undo 11 = .ok (.goto 4, 3) := by decide +kernel
theorem dX8_undo_14 : decode cX8_undo 14 = .ok (.iconst 0, 1) := by decide +kernel
theorem dX8_undo_15 : decode cX8_undo 15 = .ok (.invokestatic 69, 3) := by decide +kernel
theorem dX8_undo_18 : decode cX8_undo 18 = .ok (.aload_n 0, 1) := by decide +kernel
theorem dX8_undo_19 : decode cX8_undo 19 = .ok (.getfield 19, 3) := by decide +kernel
theorem dX8_undo_22 : decode cX8_undo 22 = .ok (.aload_n 0, 1) := by decide +kernel
theorem dX8_undo_23 : decode cX8_undo 23 = .ok (.getfield 10, 3) := by decide +kernel
theorem dX8_undo_26 : decode cX8_undo 26 = .ok (.invokevirtual 162, 3) := by decide +kernel
theorem dX8_undo_29 : decode cX8_undo 29 = .ok (.aload_n 0, 1) := by decide +kernel
theorem dX8_undo_30 : decode cX8_undo 30 = .ok (.getfield 19, 3) := by decide +kernel
theorem dX8_undo_33 : decode cX8_undo 33 = .ok (.getfield 161, 3) := by decide +kernel
theorem dX8_undo_36 : decode cX8_undo 36 = .ok (.ireturn, 1) := by decide +kernel
theorem dX8_fob_0 : decode cX8_fob 0 = .ok (.iload_n 1, 1) := by decide +kernel
theorem dX8_fob_1 : decode cX8_fob 1 = .ok (.iconst 4, 1) := by decide +kernel
theorem dX8_fob_2 : decode cX8_fob 2 = .ok (.invokestatic 37, 3) := by decide +kernel
theorem dX8_fob_5 : decode cX8_fob 5 = .ok (.iload_n 2, 1) := by decide +kernel
theorem dX8_fob_6 : decode cX8_fob 6 = .ok (.iconst 0, 1) := by decide +kernel
theorem dX8_fob_7 : decode cX8_fob 7 = .ok (.iconst 4, 1) := by decide +kernel
theorem dX8_fob_8 : decode cX8_fob 8 = .ok (.invokestatic 41, 3) := by decide +kernel
theorem dX8_fob_11 : decode cX8_fob 11 = .ok (.aload_n 0, 1) := by decide +kernel
theorem dX8_fob_12 : decode cX8_fob 12 = .ok (.getfield 10, 3) := by decide +kernel
theorem dX8_fob_15 : decode cX8_fob 15 = .ok (.getfield 49, 3) := by decide +kernel
theorem dX8_fob_18 : decode cX8_fob 18 = .ok (.iload_n 1, 1) := by decide +kernel
theorem dX8_fob_19 : decode cX8_fob 19 = .ok (.aaload, 1) := by decide +kernel
theorem dX8_fob_20 : decode cX8_fob 20 = .ok (.iload_n 2, 1) := by decide +kernel
theorem dX8_fob_21 : decode cX8_fob 21 = .ok (.invokevirtual 165, 3) := by decide +kernel
theorem dX8_fob_24 : decode cX8_fob 24 = .ok (.ireturn, 1) := by decide +kernel
theorem dX8_slot_0 : decode cX8_slot 0 = .ok (.iload_n 1, 1) := by decide +kernel
theorem dX8_slot_1 : decode cX8_slot 1 = .ok (.iconst 3, 1) := by decide +kernel
theorem dX8_slot_2 : decode cX8_slot 2 = .ok (.invokestatic 37, 3) := by decide +kernel
theorem dX8_slot_5 : decode cX8_slot 5 = .ok (.iload_n 2, 1) := by decide +kernel
theorem dX8_slot_6 : decode cX8_slot 6 = .ok (.iconst 4, 1) := by decide +kernel
theorem dX8_slot_7 : decode cX8_slot 7 = .ok (.invokestatic 37, 3) := by decide +kernel
theorem dX8_slot_10 : decode cX8_slot 10 = .ok (.iload_n 3, 1) := by decide +kernel
theorem dX8_slot_11 : decode cX8_slot 11 = .ok (.iconst 0, 1) := by decide +kernel
theorem dX8_slot_12 : decode cX8_slot 12 = .ok (.iconst 3, 1) := by decide +kernel
theorem dX8_slot_13 : decode cX8_slot 13 = .ok (.invokestatic 41, 3) := by decide +kernel
theorem dX8_slot_16 : decode cX8_slot 16 = .ok (.aload_n 0, 1) := by decide +kernel
theorem dX8_slot_17 : decode cX8_slot 17 = .ok (.getfield 10, 3) := by decide +kernel
theorem dX8_slot_20 : decode cX8_slot 20 = .ok (.getfield 89, 3) := by decide +kernel
theorem dX8_slot_23 : decode cX8_slot 23 = .ok (.iload_n 1, 1) := by decide +kernel
theorem dX8_slot_24 : decode cX8_slot 24 = .ok (.aaload, 1) := by decide +kernel
theorem dX8_slot_25 : decode cX8_slot 25 = .ok (.getfield 93, 3) := by decide +kernel
theorem dX8_slot_28 : decode cX8_slot 28 = .ok (.iload_n 2, 1) := by decide +kernel
theorem dX8_slot_29 : decode cX8_slot 29 = .ok (.aaload, 1) := by decide +kernel
theorem dX8_slot_30 : decode cX8_slot 30 = .ok (.iload_n 3, 1) := by decide +kernel
theorem dX8_slot_31 : decode cX8_slot 31 = .ok (.invokevirtual 168, 3) := by decide +kernel
theorem dX8_slot_34 : decode cX8_slot 34 = .ok (.ireturn, 1) := by decide +kernel
theorem dX8_door_0 : decode cX8_door 0 = .ok (.iload_n 1, 1) := by decide +kernel
theorem dX8_door_1 : decode cX8_door 1 = .ok (.iconst 3, 1) := by decide +kernel
theorem dX8_door_2 : decode cX8_door 2 = .ok (.invokestatic 37, 3) := by decide +kernel
theorem dX8_door_5 : decode cX8_door 5 = .ok (.iload_n 2, 1) := by decide +kernel
theorem dX8_door_6 : decode cX8_door 6 = .ok (.iconst 0, 1) := by decide +kernel
theorem dX8_door_7 : decode cX8_door 7 = .ok (.bipush 7, 2) := by decide +kernel
theorem dX8_door_9 : decode cX8_door 9 = .ok (.invokestatic 41, 3) := by decide +kernel
theorem dX8_door_12 : decode cX8_door 12 = .ok (.aload_n 0, 1) := by decide +kernel
theorem dX8_door_13 : decode cX8_door 13 = .ok (.getfield 10, 3) := by decide +kernel
theorem dX8_door_16 : decode cX8_door 16 = .ok (.getfield 89, 3) := by decide +kernel
theorem dX8_door_19 : decode cX8_door 19 = .ok (.iload_n 1, 1) := by decide +kernel
theorem dX8_door_20 : decode cX8_door 20 = .ok (.aaload, 1) := by decide +kernel
theorem dX8_door_21 : decode cX8_door 21 = .ok (.iload_n 2, 1) := by decide +kernel
theorem dX8_door_22 : decode cX8_door 22 = .ok (.aload_n 0, 1) := by decide +kernel
theorem dX8_door_23 : decode cX8_door 23 = .ok (.getfield 10, 3) := by decide +kernel
theorem dX8_door_26 : decode cX8_door 26 = .ok (.getfield 129, 3) := by decide +kernel
theorem dX8_door_29 : decode cX8_door 29 = .ok (.invokevirtual 169, 3) := by decide +kernel
theorem dX8_door_32 : decode cX8_door 32 = .ok (.ireturn, 1) := by decide +kernel
theorem dX8_air_0 : decode cX8_air 0 = .ok (.iload_n 1, 1) := by decide +kernel
theorem dX8_air_1 : decode cX8_air 1 = .ok (.ifCond .lt 7, 3) := by decide +kernel
theorem dX8_air_4 : decode cX8_air 4 = .ok (.iconst 1, 1) := by decide +kernel
theorem dX8_air_5 : decode cX8_air 5 = .ok (.goto 4, 3) := by decide +kernel
theorem dX8_air_8 : decode cX8_air 8 = .ok (.iconst 0, 1) := by decide +kernel
theorem dX8_air_9 : decode cX8_air 9 = .ok (.invokestatic 151, 3) := by decide +kernel
theorem dX8_air_12 : decode cX8_air 12 = .ok (.aload_n 0, 1) := by decide +kernel
theorem dX8_air_13 : decode cX8_air 13 = .ok (.getfield 10, 3) := by decide +kernel
theorem dX8_air_16 : decode cX8_air 16 = .ok (.getfield 77, 3) := by decide +kernel
theorem dX8_air_19 : decode cX8_air 19 = .ok (.iload_n 1, 1) := by decide +kernel
theorem dX8_air_20 : decode cX8_air 20 = .ok (.invokevirtual 172, 3) := by decide +kernel
theorem dX8_air_23 : decode cX8_air 23 = .ok (.ireturn, 1) := by decide +kernel
theorem dX8_count_0 : decode cX8_count 0 = .ok (.iload_n 1, 1) := by decide +kernel
theorem dX8_count_1 : decode cX8_count 1 = .ok (.iconst 0, 1) := by decide +kernel
theorem dX8_count_2 : decode cX8_count 2 = .ok (.bipush 7, 2) := by decide +kernel
theorem dX8_count_4 : decode cX8_count 4 = .ok (.invokestatic 41, 3) := by decide +kernel
theorem dX8_count_7 : decode cX8_count 7 = .ok (.aload_n 0, 1) := by decide +kernel
theorem dX8_count_8 : decode cX8_count 8 = .ok (.iload_n 1, 1) := by decide +kernel
theorem dX8_count_9 : decode cX8_count 9 = .ok (.invokevirtual 175, 3) := by decide +kernel
theorem dX8_count_12 : decode cX8_count 12 = .ok (.ireturn, 1) := by decide +kernel
theorem dX8_setting_0 : decode cX8_setting 0 = .ok (.iload_n 1, 1) := by decide +kernel
theorem dX8_setting_1 : decode cX8_setting 1 = .ok (.iconst 3, 1) := by decide +kernel
theorem dX8_setting_2 : decode cX8_setting 2 = .ok (.invokestatic 37, 3) := by decide +kernel
theorem dX8_setting_5 : decode cX8_setting 5 = .ok (.aload_n 0, 1) := by decide +kernel
theorem dX8_setting_6 : decode cX8_setting 6 = .ok (.getfield 10, 3) := by decide +kernel
theorem dX8_setting_9 : decode cX8_setting 9 = .ok (.getfield 129, 3) := by decide +kernel
theorem dX8_setting_12 : decode cX8_setting 12 = .ok (.iload_n 1, 1) := by decide +kernel
theorem dX8_setting_13 : decode cX8_setting 13 = .ok (.invokevirtual 133, 3) := by decide +kernel
theorem dX8_setting_16 : decode cX8_setting 16 = .ok (.ireturn, 1) := by decide +kernel
theorem dX8_ifHeard_0 : decode cX8_ifHeard 0 = .ok (.iload_n 1, 1) := by decide +kernel
theorem dX8_ifHeard_1 : decode cX8_ifHeard 1 = .ok (.iconst 3, 1) := by decide +kernel
theorem dX8_ifHeard_2 : decode cX8_ifHeard 2 = .ok (.invokestatic 37, 3) := by decide +kernel
theorem dX8_ifHeard_5 : decode cX8_ifHeard 5 = .ok (.iload_n 2, 1) := by decide +kernel
theorem dX8_ifHeard_6 : decode cX8_ifHeard 6 = .ok (.iconst 0, 1) := by decide +kernel
theorem dX8_ifHeard_7 : decode cX8_ifHeard 7 = .ok (.ldc 178, 2) := by decide +kernel
theorem dX8_ifHeard_9 : decode cX8_ifHeard 9 = .ok (.invokestatic 41, 3) := by decide +kernel
theorem dX8_ifHeard_12 : decode cX8_ifHeard 12 = .ok (.aload_n 0, 1) := by decide +kernel
theorem dX8_ifHeard_13 : decode cX8_ifHeard 13 = .ok (.aload_n 0, 1) := by decide +kernel
theorem dX8_ifHeard_14 : decode cX8_ifHeard 14 = .ok (.getfield 10, 3) := by decide +kernel
theorem dX8_ifHeard_17 : decode cX8_ifHeard 17 = .ok (.getfield 89, 3) := by decide +kernel
theorem dX8_ifHeard_20 : decode cX8_ifHeard 20 = .ok (.iload_n 1, 1) := by decide +kernel
theorem dX8_ifHeard_21 : decode cX8_ifHeard 21 = .ok (.aaload, 1) := by decide +kernel
theorem dX8_ifHeard_22 : decode cX8_ifHeard 22 = .ok (.iload_n 2, 1) := by decide +kernel
theorem dX8_ifHeard_23 : decode cX8_ifHeard 23 = .ok (.invokevirtual 179, 3) := by decide +kernel
theorem dX8_ifHeard_26 : decode cX8_ifHeard 26 = .ok (.ireturn, 1) := by decide +kernel
theorem dX8_opensIn_0 : decode cX8_opensIn 0 = .ok (.iload_n 1, 1) := by decide +kernel
theorem dX8_opensIn_1 : decode cX8_opensIn 1 = .ok (.iconst 4, 1) := by decide +kernel
theorem dX8_opensIn_2 : decode cX8_opensIn 2 = .ok (.invokestatic 37, 3) := by decide +kernel
theorem dX8_opensIn_5 : decode cX8_opensIn 5 = .ok (.iload_n 2, 1) := by decide +kernel
theorem dX8_opensIn_6 : decode cX8_opensIn 6 = .ok (.iconst 3, 1) := by decide +kernel
theorem dX8_opensIn_7 : decode cX8_opensIn 7 = .ok (.invokestatic 37, 3) := by decide +kernel
theorem dX8_opensIn_10 : decode cX8_opensIn 10 = .ok (.aload_n 0, 1) := by decide +kernel
theorem dX8_opensIn_11 : decode cX8_opensIn 11 = .ok (.aload_n 0, 1) := by decide +kernel
theorem dX8_opensIn_12 : decode cX8_opensIn 12 = .ok (.getfield 10, 3) := by decide +kernel
theorem dX8_opensIn_15 : decode cX8_opensIn 15 = .ok (.getfield 49, 3) := by decide +kernel
theorem dX8_opensIn_18 : decode cX8_opensIn 18 = .ok (.iload_n 1, 1) := by decide +kernel
theorem dX8_opensIn_19 : decode cX8_opensIn 19 = .ok (.aaload, 1) := by decide +kernel
theorem dX8_opensIn_20 : decode cX8_opensIn 20 = .ok (.aload_n 0, 1) := by decide +kernel
theorem dX8_opensIn_21 : decode cX8_opensIn 21 = .ok (.getfield 10, 3) := by decide +kernel
theorem dX8_opensIn_24 : decode cX8_opensIn 24 = .ok (.getfield 89, 3) := by decide +kernel
theorem dX8_opensIn_27 : decode cX8_opensIn 27 = .ok (.iload_n 2, 1) := by decide +kernel
theorem dX8_opensIn_28 : decode cX8_opensIn 28 = .ok (.aaload, 1) := by decide +kernel
theorem dX8_opensIn_29 : decode cX8_opensIn 29 = .ok (.invokevirtual 183, 3) := by decide +kernel
theorem dX8_opensIn_32 : decode cX8_opensIn 32 = .ok (.ireturn, 1) := by decide +kernel
theorem dX8_unheard_0 : decode cX8_unheard 0 = .ok (.iload_n 1, 1) := by decide +kernel
theorem dX8_unheard_1 : decode cX8_unheard 1 = .ok (.iconst 4, 1) := by decide +kernel
theorem dX8_unheard_2 : decode cX8_unheard 2 = .ok (.invokestatic 37, 3) := by decide +kernel
theorem dX8_unheard_5 : decode cX8_unheard 5 = .ok (.iload_n 2, 1) := by decide +kernel
theorem dX8_unheard_6 : decode cX8_unheard 6 = .ok (.iconst 3, 1) := by decide +kernel
theorem dX8_unheard_7 : decode cX8_unheard 7 = .ok (.invokestatic 37, 3) := by decide +kernel
theorem dX8_unheard_10 : decode cX8_unheard 10 = .ok (.aload_n 0, 1) := by decide +kernel
theorem dX8_unheard_11 : decode cX8_unheard 11 = .ok (.aload_n 0, 1) := by decide +kernel
theorem dX8_unheard_12 : decode cX8_unheard 12 = .ok (.getfield 10, 3) := by decide +kernel
theorem dX8_unheard_15 : decode cX8_unheard 15 = .ok (.getfield 49, 3) := by decide +kernel
theorem dX8_unheard_18 : decode cX8_unheard 18 = .ok (.iload_n 1, 1) := by decide +kernel
theorem dX8_unheard_19 : decode cX8_unheard 19 = .ok (.aaload, 1) := by decide +kernel
theorem dX8_unheard_20 : decode cX8_unheard 20 = .ok (.aload_n 0, 1) := by decide +kernel
theorem dX8_unheard_21 : decode cX8_unheard 21 = .ok (.getfield 10, 3) := by decide +kernel
theorem dX8_unheard_24 : decode cX8_unheard 24 = .ok (.getfield 89, 3) := by decide +kernel
theorem dX8_unheard_27 : decode cX8_unheard 27 = .ok (.iload_n 2, 1) := by decide +kernel
theorem dX8_unheard_28 : decode cX8_unheard 28 = .ok (.aaload, 1) := by decide +kernel
theorem dX8_unheard_29 : decode cX8_unheard 29 = .ok (.invokevirtual 187, 3) := by decide +kernel
theorem dX8_unheard_32 : decode cX8_unheard 32 = .ok (.ireturn, 1) := by decide +kernel
theorem dX8_useful_0 : decode cX8_useful 0 = .ok (.iload_n 1, 1) := by decide +kernel
theorem dX8_useful_1 : decode cX8_useful 1 = .ok (.iconst 3, 1) := by decide +kernel
theorem dX8_useful_2 : decode cX8_useful 2 = .ok (.invokestatic 37, 3) := by decide +kernel
theorem dX8_useful_5 : decode cX8_useful 5 = .ok (.aload_n 0, 1) := by decide +kernel
theorem dX8_useful_6 : decode cX8_useful 6 = .ok (.aload_n 0, 1) := by decide +kernel
theorem dX8_useful_7 : decode cX8_useful 7 = .ok (.getfield 10, 3) := by decide +kernel
theorem dX8_useful_10 : decode cX8_useful 10 = .ok (.getfield 89, 3) := by decide +kernel
theorem dX8_useful_13 : decode cX8_useful 13 = .ok (.iload_n 1, 1) := by decide +kernel
theorem dX8_useful_14 : decode cX8_useful 14 = .ok (.aaload, 1) := by decide +kernel
theorem dX8_useful_15 : decode cX8_useful 15 = .ok (.invokevirtual 190, 3) := by decide +kernel
theorem dX8_useful_18 : decode cX8_useful 18 = .ok (.ireturn, 1) := by decide +kernel
theorem dX8_openShare_0 : decode cX8_openShare 0 = .ok (.aload_n 0, 1) := by decide +kernel
theorem dX8_openShare_1 : decode cX8_openShare 1 = .ok (.getfield 10, 3) := by decide +kernel
theorem dX8_openShare_4 : decode cX8_openShare 4 = .ok (.invokevirtual 194, 3) := by decide +kernel
theorem dX8_openShare_7 : decode cX8_openShare 7 = .ok (.istore_n 1, 1) := by decide +kernel
theorem dX8_openShare_8 : decode cX8_openShare 8 = .ok (.iload_n 1, 1) := by decide +kernel
theorem dX8_openShare_9 : decode cX8_openShare 9 = .ok (.aload_n 0, 1) := by decide +kernel
theorem dX8_openShare_10 : decode cX8_openShare 10 = .ok (.getfield 10, 3) := by decide +kernel
theorem dX8_openShare_13 : decode cX8_openShare 13 = .ok (.invokevirtual 197, 3) := by decide +kernel
theorem dX8_openShare_16 : decode cX8_openShare 16 = .ok (.iadd, 1) := by decide +kernel
theorem dX8_openShare_17 : decode cX8_openShare 17 = .ok (.istore_n 2, 1) := by decide +kernel
theorem dX8_openShare_18 : decode cX8_openShare 18 = .ok (.iload_n 2, 1) := by decide +kernel
theorem dX8_openShare_19 : decode cX8_openShare 19 = .ok (.ifCond .gt 5, 3) := by decide +kernel
theorem dX8_openShare_22 : decode cX8_openShare 22 = .ok (.dconst 1, 1) := by decide +kernel
theorem dX8_openShare_23 : decode cX8_openShare 23 = .ok (.dreturn, 1) := by decide +kernel
theorem dX8_openShare_24 : decode cX8_openShare 24 = .ok (.iload_n 1, 1) := by decide +kernel
theorem dX8_openShare_25 : decode cX8_openShare 25 = .ok (.i2d, 1) := by decide +kernel
theorem dX8_openShare_26 : decode cX8_openShare 26 = .ok (.iload_n 2, 1) := by decide +kernel
theorem dX8_openShare_27 : decode cX8_openShare 27 = .ok (.i2d, 1) := by decide +kernel
theorem dX8_openShare_28 : decode cX8_openShare 28 = .ok (.ddiv, 1) := by decide +kernel
theorem dX8_openShare_29 : decode cX8_openShare 29 = .ok (.dreturn, 1) := by decide +kernel
theorem dX8_needIndex_0 : decode cX8_needIndex 0 = .ok (.iload_n 0, 1) := by decide +kernel
theorem dX8_needIndex_1 : decode cX8_needIndex 1 = .ok (.ifCond .lt 8, 3) := by decide +kernel
theorem dX8_needIndex_4 : decode cX8_needIndex 4 = .ok (.iload_n 0, 1) := by decide +kernel
theorem dX8_needIndex_5 : decode cX8_needIndex 5 = .ok (.iload_n 1, 1) := by decide +kernel
theorem dX8_needIndex_6 : decode cX8_needIndex 6 = .ok (.if_icmp .lt 11, 3) := by decide +kernel
theorem dX8_needIndex_9 : decode cX8_needIndex 9 = .ok (.new 221, 3) := by decide +kernel
theorem dX8_needIndex_12 : decode cX8_needIndex 12 = .ok (.dup, 1) := by decide +kernel
theorem dX8_needIndex_13 : decode cX8_needIndex 13 = .ok (.invokespecial 223, 3) := by decide +kernel
theorem dX8_needIndex_16 : decode cX8_needIndex 16 = .ok (.athrow, 1) := by decide +kernel
theorem dX8_needIndex_17 : decode cX8_needIndex 17 = .ok (.return_, 1) := by decide +kernel
theorem dX8_needRange_0 : decode cX8_needRange 0 = .ok (.iload_n 0, 1) := by decide +kernel
theorem dX8_needRange_1 : decode cX8_needRange 1 = .ok (.iload_n 1, 1) := by decide +kernel
theorem dX8_needRange_2 : decode cX8_needRange 2 = .ok (.if_icmp .lt 12, 3) := by decide +kernel
theorem dX8_needRange_5 : decode cX8_needRange 5 = .ok (.iload_n 0, 1) := by decide +kernel
theorem dX8_needRange_6 : decode cX8_needRange 6 = .ok (.iload_n 2, 1) := by decide +kernel
theorem dX8_needRange_7 : decode cX8_needRange 7 = .ok (.if_icmp .gt 7, 3) := by decide +kernel
theorem dX8_needRange_10 : decode cX8_needRange 10 = .ok (.iconst 1, 1) := by decide +kernel
theorem dX8_needRange_11 : decode cX8_needRange 11 = .ok (.goto 4, 3) := by decide +kernel
theorem dX8_needRange_14 : decode cX8_needRange 14 = .ok (.iconst 0, 1) := by decide +kernel
theorem dX8_needRange_15 : decode cX8_needRange 15 = .ok (.invokestatic 151, 3) := by decide +kernel
theorem dX8_needRange_18 : decode cX8_needRange 18 = .ok (.return_, 1) := by decide +kernel
theorem dX8_needArgument_0 : decode cX8_needArgument 0 = .ok (.iload_n 0, 1) := by decide +kernel
theorem dX8_needArgument_1 : decode cX8_needArgument 1 = .ok (.ifCond .ne 11, 3) := by decide +kernel
theorem dX8_needArgument_4 : decode cX8_needArgument 4 = .ok (.new 224, 3) := by decide +kernel
theorem dX8_needArgument_7 : decode cX8_needArgument 7 = .ok (.dup, 1) := by decide +kernel
theorem dX8_needArgument_8 : decode cX8_needArgument 8 = .ok (.invokespecial 226, 3) := by decide +kernel
theorem dX8_needArgument_11 : decode cX8_needArgument 11 = .ok (.athrow, 1) := by decide +kernel
theorem dX8_needArgument_12 : decode cX8_needArgument 12 = .ok (.return_, 1) := by decide +kernel
theorem dX8_needState_0 : decode cX8_needState 0 = .ok (.iload_n 0, 1) := by decide +kernel
theorem dX8_needState_1 : decode cX8_needState 1 = .ok (.ifCond .ne 11, 3) := by decide +kernel
theorem dX8_needState_4 : decode cX8_needState 4 = .ok (.new 227, 3) := by decide +kernel
theorem dX8_needState_7 : decode cX8_needState 7 = .ok (.dup, 1) := by decide +kernel
theorem dX8_needState_8 : decode cX8_needState 8 = .ok (.invokespecial 229, 3) := by decide +kernel
theorem dX8_needState_11 : decode cX8_needState 11 = .ok (.athrow, 1) := by decide +kernel
theorem dX8_needState_12 : decode cX8_needState 12 = .ok (.return_, 1) := by decide +kernel
theorem dX8_numberOf_0 : decode cX8_numberOf 0 = .ok (.iload_n 1, 1) := by decide +kernel
theorem dX8_numberOf_1 : decode cX8_numberOf 1 = .ok (.ldc 230, 2) := by decide +kernel
theorem dX8_numberOf_3 : decode cX8_numberOf 3 = .ok (.imul, 1) := by decide +kernel
theorem dX8_numberOf_4 : decode cX8_numberOf 4 = .ok (.iload_n 0, 1) := by decide +kernel
theorem dX8_numberOf_5 : decode cX8_numberOf 5 = .ok (.sipush 7919, 3) := by decide +kernel
theorem dX8_numberOf_8 : decode cX8_numberOf 8 = .ok (.imul, 1) := by decide +kernel
theorem dX8_numberOf_9 : decode cX8_numberOf 9 = .ok (.iadd, 1) := by decide +kernel
theorem dX8_numberOf_10 : decode cX8_numberOf 10 = .ok (.iload_n 0, 1) := by decide +kernel
theorem dX8_numberOf_11 : decode cX8_numberOf 11 = .ok (.bipush 31, 2) := by decide +kernel
theorem dX8_numberOf_13 : decode cX8_numberOf 13 = .ok (.imul, 1) := by decide +kernel
theorem dX8_numberOf_14 : decode cX8_numberOf 14 = .ok (.iload_n 1, 1) := by decide +kernel
theorem dX8_numberOf_15 : decode cX8_numberOf 15 = .ok (.iadd, 1) := by decide +kernel
theorem dX8_numberOf_16 : decode cX8_numberOf 16 = .ok (.ixor, 1) := by decide +kernel
theorem dX8_numberOf_17 : decode cX8_numberOf 17 = .ok (.ldc 178, 2) := by decide +kernel
theorem dX8_numberOf_19 : decode cX8_numberOf 19 = .ok (.iand, 1) := by decide +kernel
theorem dX8_numberOf_20 : decode cX8_numberOf 20 = .ok (.ireturn, 1) := by decide +kernel
theorem dX8_counterBehind_0 : decode cX8_counterBehind 0 = .ok (.iload_n 0, 1) := by decide +kernel
theorem dX8_counterBehind_1 : decode cX8_counterBehind 1 = .ok (.sipush 9999, 3) := by decide +kernel
theorem dX8_counterBehind_4 : decode cX8_counterBehind 4 = .ok (.if_icmp .ge 9, 3) := by decide +kernel
theorem dX8_counterBehind_7 : decode cX8_counterBehind 7 = .ok (.iload_n 0, 1) := by decide +kernel
theorem dX8_counterBehind_8 : decode cX8_counterBehind 8 = .ok (.iconst 1, 1) := by decide +kernel
theorem dX8_counterBehind_9 : decode cX8_counterBehind 9 = .ok (.iadd, 1) := by decide +kernel
theorem dX8_counterBehind_10 : decode cX8_counterBehind 10 = .ok (.goto 4, 3) := by decide +kernel
theorem dX8_counterBehind_13 : decode cX8_counterBehind 13 = .ok (.iconst 0, 1) := by decide +kernel
theorem dX8_counterBehind_14 : decode cX8_counterBehind 14 = .ok (.ireturn, 1) := by decide +kernel
theorem dX8_counted_0 : decode cX8_counted 0 = .ok (.iload_n 1, 1) := by decide +kernel
theorem dX8_counted_1 : decode cX8_counted 1 = .ok (.tableswitch 114 0 7 #[47, 55, 63, 71, 79, 87, 95, 106], 47) := by decide +kernel
theorem dX8_counted_48 : decode cX8_counted 48 = .ok (.aload_n 0, 1) := by decide +kernel
theorem dX8_counted_49 : decode cX8_counted 49 = .ok (.getfield 10, 3) := by decide +kernel
theorem dX8_counted_52 : decode cX8_counted 52 = .ok (.invokevirtual 243, 3) := by decide +kernel
theorem dX8_counted_55 : decode cX8_counted 55 = .ok (.ireturn, 1) := by decide +kernel
theorem dX8_counted_56 : decode cX8_counted 56 = .ok (.aload_n 0, 1) := by decide +kernel
theorem dX8_counted_57 : decode cX8_counted 57 = .ok (.getfield 10, 3) := by decide +kernel
theorem dX8_counted_60 : decode cX8_counted 60 = .ok (.getfield 246, 3) := by decide +kernel
theorem dX8_counted_63 : decode cX8_counted 63 = .ok (.ireturn, 1) := by decide +kernel
theorem dX8_counted_64 : decode cX8_counted 64 = .ok (.aload_n 0, 1) := by decide +kernel
theorem dX8_counted_65 : decode cX8_counted 65 = .ok (.getfield 10, 3) := by decide +kernel
theorem dX8_counted_68 : decode cX8_counted 68 = .ok (.invokevirtual 194, 3) := by decide +kernel
theorem dX8_counted_71 : decode cX8_counted 71 = .ok (.ireturn, 1) := by decide +kernel
theorem dX8_counted_72 : decode cX8_counted 72 = .ok (.aload_n 0, 1) := by decide +kernel
theorem dX8_counted_73 : decode cX8_counted 73 = .ok (.getfield 10, 3) := by decide +kernel
theorem dX8_counted_76 : decode cX8_counted 76 = .ok (.getfield 249, 3) := by decide +kernel
theorem dX8_counted_79 : decode cX8_counted 79 = .ok (.ireturn, 1) := by decide +kernel
theorem dX8_counted_80 : decode cX8_counted 80 = .ok (.aload_n 0, 1) := by decide +kernel
theorem dX8_counted_81 : decode cX8_counted 81 = .ok (.getfield 10, 3) := by decide +kernel
theorem dX8_counted_84 : decode cX8_counted 84 = .ok (.invokevirtual 252, 3) := by decide +kernel
theorem dX8_counted_87 : decode cX8_counted 87 = .ok (.ireturn, 1) := by decide +kernel
theorem dX8_counted_88 : decode cX8_counted 88 = .ok (.aload_n 0, 1) := by decide +kernel
theorem dX8_counted_89 : decode cX8_counted 89 = .ok (.getfield 10, 3) := by decide +kernel
theorem dX8_counted_92 : decode cX8_counted 92 = .ok (.invokevirtual 255, 3) := by decide +kernel
theorem dX8_counted_95 : decode cX8_counted 95 = .ok (.ireturn, 1) := by decide +kernel
theorem dX8_counted_96 : decode cX8_counted 96 = .ok (.aload_n 0, 1) := by decide +kernel
theorem dX8_counted_97 : decode cX8_counted 97 = .ok (.getfield 10, 3) := by decide +kernel
theorem dX8_counted_100 : decode cX8_counted 100 = .ok (.getfield 77, 3) := by decide +kernel
theorem dX8_counted_103 : decode cX8_counted 103 = .ok (.getfield 81, 3) := by decide +kernel
theorem dX8_counted_106 : decode cX8_counted 106 = .ok (.ireturn, 1) := by decide +kernel
theorem dX8_counted_107 : decode cX8_counted 107 = .ok (.aload_n 0, 1) := by decide +kernel
theorem dX8_counted_108 : decode cX8_counted 108 = .ok (.getfield 19, 3) := by decide +kernel
theorem dX8_counted_111 : decode cX8_counted 111 = .ok (.getfield 161, 3) := by decide +kernel
theorem dX8_counted_114 : decode cX8_counted 114 = .ok (.ireturn, 1) := by decide +kernel
theorem dX8_counted_115 : decode cX8_counted 115 = .ok (.iconst (-1), 1) := by decide +kernel
theorem dX8_counted_116 : decode cX8_counted 116 = .ok (.ireturn, 1) := by decide +kernel
theorem dX8_tryNumber_0 : decode cX8_tryNumber 0 = .ok (.aload_n 0, 1) := by decide +kernel
theorem dX8_tryNumber_1 : decode cX8_tryNumber 1 = .ok (.getfield 33, 3) := by decide +kernel
theorem dX8_tryNumber_4 : decode cX8_tryNumber 4 = .ok (.aload_n 1, 1) := by decide +kernel
theorem dX8_tryNumber_5 : decode cX8_tryNumber 5 = .ok (.invokevirtual 258, 3) := by decide +kernel
theorem dX8_tryNumber_8 : decode cX8_tryNumber 8 = .ok (.aload_n 0, 1) := by decide +kernel
theorem dX8_tryNumber_9 : decode cX8_tryNumber 9 = .ok (.getfield 33, 3) := by decide +kernel
theorem dX8_tryNumber_12 : decode cX8_tryNumber 12 = .ok (.iload_n 2, 1) := by decide +kernel
theorem dX8_tryNumber_13 : decode cX8_tryNumber 13 = .ok (.aload_n 0, 1) := by decide +kernel
theorem dX8_tryNumber_14 : decode cX8_tryNumber 14 = .ok (.getfield 10, 3) := by decide +kernel
theorem dX8_tryNumber_17 : decode cX8_tryNumber 17 = .ok (.getfield 129, 3) := by decide +kernel
theorem dX8_tryNumber_20 : decode cX8_tryNumber 20 = .ok (.invokevirtual 262, 3) := by decide +kernel
theorem dX8_tryNumber_23 : decode cX8_tryNumber 23 = .ok (.ireturn, 1) := by decide +kernel
theorem dX8_pressesToOpen_0 : decode cX8_pressesToOpen 0 = .ok (.aload_n 0, 1) := by decide +kernel
theorem dX8_pressesToOpen_1 : decode cX8_pressesToOpen 1 = .ok (.getfield 33, 3) := by decide +kernel
theorem dX8_pressesToOpen_4 : decode cX8_pressesToOpen 4 = .ok (.aload_n 2, 1) := by decide +kernel
theorem dX8_pressesToOpen_5 : decode cX8_pressesToOpen 5 = .ok (.invokevirtual 258, 3) := by decide +kernel
theorem dX8_pressesToOpen_8 : decode cX8_pressesToOpen 8 = .ok (.bipush 50, 2) := by decide +kernel
theorem dX8_pressesToOpen_10 : decode cX8_pressesToOpen 10 = .ok (.aload_n 1, 1) := by decide +kernel
theorem dX8_pressesToOpen_11 : decode cX8_pressesToOpen 11 = .ok (.getfield 62, 3) := by decide +kernel
theorem dX8_pressesToOpen_14 : decode cX8_pressesToOpen 14 = .ok (.invokestatic 265, 3) := by decide +kernel
theorem dX8_pressesToOpen_17 : decode cX8_pressesToOpen 17 = .ok (.istore_n 3, 1) := by decide +kernel
theorem dX8_pressesToOpen_18 : decode cX8_pressesToOpen 18 = .ok (.aload_n 1, 1) := by decide +kernel
theorem dX8_pressesToOpen_19 : decode cX8_pressesToOpen 19 = .ok (.getfield 53, 3) := by decide +kernel
theorem dX8_pressesToOpen_22 : decode cX8_pressesToOpen 22 = .ok (.istore 4, 2) := by decide +kernel
theorem dX8_pressesToOpen_24 : decode cX8_pressesToOpen 24 = .ok (.iconst 1, 1) := by decide +kernel
theorem dX8_pressesToOpen_25 : decode cX8_pressesToOpen 25 = .ok (.istore 5, 2) := by decide +kernel
theorem dX8_pressesToOpen_27 : decode cX8_pressesToOpen 27 = .ok (.iload 5, 2) := by decide +kernel
theorem dX8_pressesToOpen_29 : decode cX8_pressesToOpen 29 = .ok (.iload_n 3, 1) := by decide +kernel
theorem dX8_pressesToOpen_30 : decode cX8_pressesToOpen 30 = .ok (.if_icmp .gt 57, 3) := by decide +kernel
theorem dX8_pressesToOpen_33 : decode cX8_pressesToOpen 33 = .ok (.iload 4, 2) := by decide +kernel
theorem dX8_pressesToOpen_35 : decode cX8_pressesToOpen 35 = .ok (.invokestatic 270, 3) := by decide +kernel
theorem dX8_pressesToOpen_38 : decode cX8_pressesToOpen 38 = .ok (.istore 4, 2) := by decide +kernel
theorem dX8_pressesToOpen_40 : decode cX8_pressesToOpen 40 = .ok (.aload_n 0, 1) := by decide +kernel
theorem dX8_pressesToOpen_41 : decode cX8_pressesToOpen 41 = .ok (.getfield 33, 3) := by decide +kernel
theorem dX8_pressesToOpen_44 : decode cX8_pressesToOpen 44 = .ok (.aload_n 1, 1) := by decide +kernel
theorem dX8_pressesToOpen_45 : decode cX8_pressesToOpen 45 = .ok (.getfield 59, 3) := by decide +kernel
theorem dX8_pressesToOpen_48 : decode cX8_pressesToOpen 48 = .ok (.iload 4, 2) := by decide +kernel
theorem dX8_pressesToOpen_50 : decode cX8_pressesToOpen 50 = .ok (.invokestatic 273, 3) := by decide +kernel
theorem dX8_pressesToOpen_53 : decode cX8_pressesToOpen 53 = .ok (.aload_n 0, 1) := by decide +kernel
theorem dX8_pressesToOpen_54 : decode cX8_pressesToOpen 54 = .ok (.getfield 10, 3) := by decide +kernel
theorem dX8_pressesToOpen_57 : decode cX8_pressesToOpen 57 = .ok (.getfield 129, 3) := by decide +kernel
theorem dX8_pressesToOpen_60 : decode cX8_pressesToOpen 60 = .ok (.invokevirtual 262, 3) := by decide +kernel
theorem dX8_pressesToOpen_63 : decode cX8_pressesToOpen 63 = .ok (.istore 6, 2) := by decide +kernel
theorem dX8_pressesToOpen_65 : decode cX8_pressesToOpen 65 = .ok (.iload 6, 2) := by decide +kernel
theorem dX8_pressesToOpen_67 : decode cX8_pressesToOpen 67 = .ok (.ifCond .ne 6, 3) := by decide +kernel
theorem dX8_pressesToOpen_70 : decode cX8_pressesToOpen 70 = .ok (.iload 5, 2) := by decide +kernel
theorem dX8_pressesToOpen_72 : decode cX8_pressesToOpen 72 = .ok (.ireturn, 1) := by decide +kernel
theorem dX8_pressesToOpen_73 : decode cX8_pressesToOpen 73 = .ok (.iload 6, 2) := by decide +kernel
theorem dX8_pressesToOpen_75 : decode cX8_pressesToOpen 75 = .ok (.iconst 3, 1) := by decide +kernel
theorem dX8_pressesToOpen_76 : decode cX8_pressesToOpen 76 = .ok (.if_icmp .ne 5, 3) := by decide +kernel
theorem dX8_pressesToOpen_79 : decode cX8_pressesToOpen 79 = .ok (.iconst (-1), 1) := by decide +kernel
theorem dX8_pressesToOpen_80 : decode cX8_pressesToOpen 80 = .ok (.ireturn, 1) := by decide +kernel
theorem dX8_pressesToOpen_81 : decode cX8_pressesToOpen 81 = .ok (.iinc 5 1, 3) := by decide +kernel
theorem dX8_pressesToOpen_84 : decode cX8_pressesToOpen 84 = .ok (.goto (-57), 3) := by decide +kernel
theorem dX8_pressesToOpen_87 : decode cX8_pressesToOpen 87 = .ok (.iconst (-1), 1) := by decide +kernel
theorem dX8_pressesToOpen_88 : decode cX8_pressesToOpen 88 = .ok (.ireturn, 1) := by decide +kernel
theorem dX8_mostUnheard_0 : decode cX8_mostUnheard 0 = .ok (.iconst (-1), 1) := by decide +kernel
theorem dX8_mostUnheard_1 : decode cX8_mostUnheard 1 = .ok (.istore_n 3, 1) := by decide +kernel
theorem dX8_mostUnheard_2 : decode cX8_mostUnheard 2 = .ok (.aload_n 1, 1) := by decide +kernel
theorem dX8_mostUnheard_3 : decode cX8_mostUnheard 3 = .ok (.getfield 53, 3) := by decide +kernel
theorem dX8_mostUnheard_6 : decode cX8_mostUnheard 6 = .ok (.istore 4, 2) := by decide +kernel
theorem dX8_mostUnheard_8 : decode cX8_mostUnheard 8 = .ok (.iconst 0, 1) := by decide +kernel
theorem dX8_mostUnheard_9 : decode cX8_mostUnheard 9 = .ok (.istore 5, 2) := by decide +kernel
theorem dX8_mostUnheard_11 : decode cX8_mostUnheard 11 = .ok (.iload 5, 2) := by decide +kernel
theorem dX8_mostUnheard_13 : decode cX8_mostUnheard 13 = .ok (.bipush 99, 2) := by decide +kernel
theorem dX8_mostUnheard_15 : decode cX8_mostUnheard 15 = .ok (.if_icmp .gt 38, 3) := by decide +kernel
theorem dX8_mostUnheard_18 : decode cX8_mostUnheard 18 = .ok (.iload 4, 2) := by decide +kernel
theorem dX8_mostUnheard_20 : decode cX8_mostUnheard 20 = .ok (.invokestatic 270, 3) := by decide +kernel
theorem dX8_mostUnheard_23 : decode cX8_mostUnheard 23 = .ok (.istore 4, 2) := by decide +kernel
theorem dX8_mostUnheard_25 : decode cX8_mostUnheard 25 = .ok (.aload_n 0, 1) := by decide +kernel
theorem dX8_mostUnheard_26 : decode cX8_mostUnheard 26 = .ok (.aload_n 2, 1) := by decide +kernel
theorem dX8_mostUnheard_27 : decode cX8_mostUnheard 27 = .ok (.aload_n 1, 1) := by decide +kernel
theorem dX8_mostUnheard_28 : decode cX8_mostUnheard 28 = .ok (.getfield 59, 3) := by decide +kernel
theorem dX8_mostUnheard_31 : decode cX8_mostUnheard 31 = .ok (.iload 4, 2) := by decide +kernel
theorem dX8_mostUnheard_33 : decode cX8_mostUnheard 33 = .ok (.invokestatic 273, 3) := by decide +kernel
theorem dX8_mostUnheard_36 : decode cX8_mostUnheard 36 = .ok (.invokevirtual 179, 3) := by decide +kernel
theorem dX8_mostUnheard_39 : decode cX8_mostUnheard 39 = .ok (.ifCond .eq 5, 3) := by decide +kernel
theorem dX8_mostUnheard_42 : decode cX8_mostUnheard 42 = .ok (.iload_n 3, 1) := by decide +kernel
theorem dX8_mostUnheard_43 : decode cX8_mostUnheard 43 = .ok (.ireturn, 1) := by decide +kernel
theorem dX8_mostUnheard_44 : decode cX8_mostUnheard 44 = .ok (.iload 5, 2) := by decide +kernel
theorem dX8_mostUnheard_46 : decode cX8_mostUnheard 46 = .ok (.istore_n 3, 1) := by decide +kernel
theorem dX8_mostUnheard_47 : decode cX8_mostUnheard 47 = .ok (.iinc 5 1, 3) := by decide +kernel
theorem dX8_mostUnheard_50 : decode cX8_mostUnheard 50 = .ok (.goto (-39), 3) := by decide +kernel
theorem dX8_mostUnheard_53 : decode cX8_mostUnheard 53 = .ok (.iload_n 3, 1) := by decide +kernel
theorem dX8_mostUnheard_54 : decode cX8_mostUnheard 54 = .ok (.ireturn, 1) := by decide +kernel
theorem dX8_firstUseful_0 : decode cX8_firstUseful 0 = .ok (.iconst 0, 1) := by decide +kernel
theorem dX8_firstUseful_1 : decode cX8_firstUseful 1 = .ok (.istore_n 2, 1) := by decide +kernel
theorem dX8_firstUseful_2 : decode cX8_firstUseful 2 = .ok (.iload_n 2, 1) := by decide +kernel
theorem dX8_firstUseful_3 : decode cX8_firstUseful 3 = .ok (.aload_n 0, 1) := by decide +kernel
theorem dX8_firstUseful_4 : decode cX8_firstUseful 4 = .ok (.getfield 10, 3) := by decide +kernel
theorem dX8_firstUseful_7 : decode cX8_firstUseful 7 = .ok (.getfield 77, 3) := by decide +kernel
theorem dX8_firstUseful_10 : decode cX8_firstUseful 10 = .ok (.getfield 81, 3) := by decide +kernel
theorem dX8_firstUseful_13 : decode cX8_firstUseful 13 = .ok (.if_icmp .ge 30, 3) := by decide +kernel
theorem dX8_firstUseful_16 : decode cX8_firstUseful 16 = .ok (.aload_n 0, 1) := by decide +kernel
theorem dX8_firstUseful_17 : decode cX8_firstUseful 17 = .ok (.aload_n 1, 1) := by decide +kernel
theorem dX8_firstUseful_18 : decode cX8_firstUseful 18 = .ok (.aload_n 0, 1) := by decide +kernel
theorem dX8_firstUseful_19 : decode cX8_firstUseful 19 = .ok (.getfield 10, 3) := by decide +kernel
theorem dX8_firstUseful_22 : decode cX8_firstUseful 22 = .ok (.getfield 77, 3) := by decide +kernel
theorem dX8_firstUseful_25 : decode cX8_firstUseful 25 = .ok (.iload_n 2, 1) := by decide +kernel
theorem dX8_firstUseful_26 : decode cX8_firstUseful 26 = .ok (.invokevirtual 172, 3) := by decide +kernel
theorem dX8_firstUseful_29 : decode cX8_firstUseful 29 = .ok (.invokevirtual 179, 3) := by decide +kernel
theorem dX8_firstUseful_32 : decode cX8_firstUseful 32 = .ok (.ifCond .ne 5, 3) := by decide +kernel
theorem dX8_firstUseful_35 : decode cX8_firstUseful 35 = .ok (.iload_n 2, 1) := by decide +kernel
theorem dX8_firstUseful_36 : decode cX8_firstUseful 36 = .ok (.ireturn, 1) := by decide +kernel
theorem dX8_firstUseful_37 : decode cX8_firstUseful 37 = .ok (.iinc 2 1, 3) := by decide +kernel
theorem dX8_firstUseful_40 : decode cX8_firstUseful 40 = .ok (.goto (-38), 3) := by decide +kernel
theorem dX8_firstUseful_43 : decode cX8_firstUseful 43 = .ok (.iconst (-1), 1) := by decide +kernel
theorem dX8_firstUseful_44 : decode cX8_firstUseful 44 = .ok (.ireturn, 1) := by decide +kernel
end
section
/-! ===== small rows that the generated walks use ===== -/
theorem rm_nm {p : Program} {l : Launch} {e : Env} {R : Room} {s : State} {m : MethodId} {args : Array Value} {below : List Frame} {meth : Method} {c : Code} {nL : Nat} {D : va_G} {cy : Nat → ClassId} {ad : Ads} {A : Nat → Prop} {nc ns : Nat} {Q : State → Prop} {y : Mem} {pc : Nat} {ls : List (Nat × Value)} {st : List Value} (h : ∀ z : Mem, z = y → RM p l e R s m args below meth c nL A (GG D cy ad z) nc ns Q pc ls st) : RM p l e R s m args below meth c nL A (GG D cy ad y) nc ns Q pc ls st := h y rfl
theorem nadd {m n q : Nat} (h : m + n = q) : nI m + nI n = nI q := by rw [nI_add, h]
theorem nmul {m n q : Nat} (h : m * n = q) : nI m * nI n = nI q := by rw [pk_mul, h]
theorem nIi (a : Nat) : nI a + Int32.ofInt 1 = nI (a + 1) := nI_1 a
theorem nrb {v : Int32} (h : v = 0 ∨ v = 1) : narrow .boolean (.int v) = .int v := by rcases h with rfl | rfl <;> rfl
theorem ftb {v : Int32} (h : v = 0 ∨ v = 1) : fits .boolean (.int v) = true := by rcases h with rfl | rfl <;> rfl
theorem ft_0_1 : ∀ q : vw_C, vwCl[0]? = some q → (q.2.1 1).2.2.2 = false ∧ parseFieldDescriptor (q.2.1 1).2.2.1 = some .int := fun q hq => by
  obtain rfl := Option.some.inj hq
  exact ⟨rfl, by decide +kernel⟩
theorem ft_1_1 : ∀ q : vw_C, vwCl[1]? = some q → (q.2.1 1).2.2.2 = false ∧ parseFieldDescriptor (q.2.1 1).2.2.1 = some .boolean := fun q hq => by
  obtain rfl := Option.some.inj hq
  exact ⟨rfl, by decide +kernel⟩
theorem ft_1_2 : ∀ q : vw_C, vwCl[1]? = some q → (q.2.1 2).2.2.2 = false ∧ parseFieldDescriptor (q.2.1 2).2.2.1 = some .int := fun q hq => by
  obtain rfl := Option.some.inj hq
  exact ⟨rfl, by decide +kernel⟩
theorem ft_1_3 : ∀ q : vw_C, vwCl[1]? = some q → (q.2.1 3).2.2.2 = false ∧ parseFieldDescriptor (q.2.1 3).2.2.1 = some .int := fun q hq => by
  obtain rfl := Option.some.inj hq
  exact ⟨rfl, by decide +kernel⟩
theorem ft_1_4 : ∀ q : vw_C, vwCl[1]? = some q → (q.2.1 4).2.2.2 = false ∧ parseFieldDescriptor (q.2.1 4).2.2.1 = some .int := fun q hq => by
  obtain rfl := Option.some.inj hq
  exact ⟨rfl, by decide +kernel⟩
theorem ft_1_5 : ∀ q : vw_C, vwCl[1]? = some q → (q.2.1 5).2.2.2 = false ∧ parseFieldDescriptor (q.2.1 5).2.2.1 = some .int := fun q hq => by
  obtain rfl := Option.some.inj hq
  exact ⟨rfl, by decide +kernel⟩
theorem ft_1_6 : ∀ q : vw_C, vwCl[1]? = some q → (q.2.1 6).2.2.2 = false ∧ parseFieldDescriptor (q.2.1 6).2.2.1 = some .int := fun q hq => by
  obtain rfl := Option.some.inj hq
  exact ⟨rfl, by decide +kernel⟩
theorem ft_2_0 : ∀ q : vw_C, vwCl[2]? = some q → (q.2.1 0).2.2.2 = false ∧ parseFieldDescriptor (q.2.1 0).2.2.1 = some .int := fun q hq => by
  obtain rfl := Option.some.inj hq
  exact ⟨rfl, by decide +kernel⟩
theorem ft_2_1 : ∀ q : vw_C, vwCl[2]? = some q → (q.2.1 1).2.2.2 = false ∧ parseFieldDescriptor (q.2.1 1).2.2.1 = some .int := fun q hq => by
  obtain rfl := Option.some.inj hq
  exact ⟨rfl, by decide +kernel⟩
theorem ft_2_2 : ∀ q : vw_C, vwCl[2]? = some q → (q.2.1 2).2.2.2 = false ∧ parseFieldDescriptor (q.2.1 2).2.2.1 = some .int := fun q hq => by
  obtain rfl := Option.some.inj hq
  exact ⟨rfl, by decide +kernel⟩
theorem ft_2_3 : ∀ q : vw_C, vwCl[2]? = some q → (q.2.1 3).2.2.2 = false ∧ parseFieldDescriptor (q.2.1 3).2.2.1 = some .int := fun q hq => by
  obtain rfl := Option.some.inj hq
  exact ⟨rfl, by decide +kernel⟩
theorem ft_3_1 : ∀ q : vw_C, vwCl[3]? = some q → (q.2.1 1).2.2.2 = false ∧ parseFieldDescriptor (q.2.1 1).2.2.1 = some .int := fun q hq => by
  obtain rfl := Option.some.inj hq
  exact ⟨rfl, by decide +kernel⟩
theorem ft_3_2 : ∀ q : vw_C, vwCl[3]? = some q → (q.2.1 2).2.2.2 = false ∧ parseFieldDescriptor (q.2.1 2).2.2.1 = some .int := fun q hq => by
  obtain rfl := Option.some.inj hq
  exact ⟨rfl, by decide +kernel⟩
theorem ft_4_0 : ∀ q : vw_C, vwCl[4]? = some q → (q.2.1 0).2.2.2 = false ∧ parseFieldDescriptor (q.2.1 0).2.2.1 = some .int := fun q hq => by
  obtain rfl := Option.some.inj hq
  exact ⟨rfl, by decide +kernel⟩
theorem ft_4_1 : ∀ q : vw_C, vwCl[4]? = some q → (q.2.1 1).2.2.2 = false ∧ parseFieldDescriptor (q.2.1 1).2.2.1 = some .int := fun q hq => by
  obtain rfl := Option.some.inj hq
  exact ⟨rfl, by decide +kernel⟩
theorem ft_4_2 : ∀ q : vw_C, vwCl[4]? = some q → (q.2.1 2).2.2.2 = false ∧ parseFieldDescriptor (q.2.1 2).2.2.1 = some .int := fun q hq => by
  obtain rfl := Option.some.inj hq
  exact ⟨rfl, by decide +kernel⟩
theorem ft_5_0 : ∀ q : vw_C, vwCl[5]? = some q → (q.2.1 0).2.2.2 = false ∧ parseFieldDescriptor (q.2.1 0).2.2.1 = some .boolean := fun q hq => by
  obtain rfl := Option.some.inj hq
  exact ⟨rfl, by decide +kernel⟩
theorem ft_5_1 : ∀ q : vw_C, vwCl[5]? = some q → (q.2.1 1).2.2.2 = false ∧ parseFieldDescriptor (q.2.1 1).2.2.1 = some .int := fun q hq => by
  obtain rfl := Option.some.inj hq
  exact ⟨rfl, by decide +kernel⟩
theorem ft_5_2 : ∀ q : vw_C, vwCl[5]? = some q → (q.2.1 2).2.2.2 = false ∧ parseFieldDescriptor (q.2.1 2).2.2.1 = some .int := fun q hq => by
  obtain rfl := Option.some.inj hq
  exact ⟨rfl, by decide +kernel⟩
theorem ft_5_3 : ∀ q : vw_C, vwCl[5]? = some q → (q.2.1 3).2.2.2 = false ∧ parseFieldDescriptor (q.2.1 3).2.2.1 = some .int := fun q hq => by
  obtain rfl := Option.some.inj hq
  exact ⟨rfl, by decide +kernel⟩
theorem ft_6_4 : ∀ q : vw_C, vwCl[6]? = some q → (q.2.1 4).2.2.2 = false ∧ parseFieldDescriptor (q.2.1 4).2.2.1 = some .int := fun q hq => by
  obtain rfl := Option.some.inj hq
  exact ⟨rfl, by decide +kernel⟩
theorem ft_6_5 : ∀ q : vw_C, vwCl[6]? = some q → (q.2.1 5).2.2.2 = false ∧ parseFieldDescriptor (q.2.1 5).2.2.1 = some .int := fun q hq => by
  obtain rfl := Option.some.inj hq
  exact ⟨rfl, by decide +kernel⟩
theorem ft_7_1 : ∀ q : vw_C, vwCl[7]? = some q → (q.2.1 1).2.2.2 = false ∧ parseFieldDescriptor (q.2.1 1).2.2.1 = some .int := fun q hq => by
  obtain rfl := Option.some.inj hq
  exact ⟨rfl, by decide +kernel⟩
def MMin (own : String) (index : Nat) : Prop := Cond.methodLink own index Lib.Math.min.name ∈ TB ∧ Cond.static Lib.Math.min.name ∈ TB ∧ Cond.initialized "java/lang/Math" ∈ TB ∧ Cond.code Lib.Math.min.name Lib.Math.min.code 2 (some .int) ∈ TB
theorem kl_min_X8 : MMin RX8 265 := ⟨tbm (i := 424) (by decide +kernel) (by decide +kernel), tbm (i := 425) (by decide +kernel) (by decide +kernel), tbm (i := 22) (by decide +kernel) (by decide +kernel), tbm (i := 426) (by decide +kernel) (by decide +kernel)⟩
theorem kl_min_X3 : MMin RX3 35 := ⟨tbm (i := 512) (by decide +kernel) (by decide +kernel), tbm (i := 425) (by decide +kernel) (by decide +kernel), tbm (i := 22) (by decide +kernel) (by decide +kernel), tbm (i := 426) (by decide +kernel) (by decide +kernel)⟩
theorem kl_min_X0 : MMin RX0 25 := ⟨tbm (i := 599) (by decide +kernel) (by decide +kernel), tbm (i := 425) (by decide +kernel) (by decide +kernel), tbm (i := 22) (by decide +kernel) (by decide +kernel), tbm (i := 426) (by decide +kernel) (by decide +kernel)⟩
theorem rm_min {p : Program} {l : Launch} {e : Env} {R : Room} {s : State} {m : MethodId} {args : Array Value} {below : List Frame} {meth : Method} {c : Code} {cc : ByteArray} {nL : Nat} {own : String} {ret : Option FieldType} {D : va_G} {cy : Nat → ClassId} {ad : Ads} {A : Nat → Prop} {G : Heap → Prop} {nc ns : Nat} {Q : State → Prop} {pc index : Nat} {ls : List (Nat × Value)} {rest : List Value} {a b : Int32} (hc : CX p s m args meth c cc nL own ret D cy ad) (hd : decode cc pc = .ok (.invokestatic index, 3)) (hk : MMin own index) (h1 : 1 ≤ R.frames) (h2 : (rest.map fun v => v.category).sum + 13 ≤ R.locals) (h3 : nc ≤ R.cells ∧ ns ≤ R.slots) (kk : ∀ v : Int32, v = (if b < a then b else a) → RM p l e R s m args below meth c nL A G nc ns Q (pc + 3) ls (.int v :: rest)) : RM p l e R s m args below meth c nL A G nc ns Q pc ls (.int b :: .int a :: rest) :=
  fun H locs la hP hS hl => va_mmin hc.1.1 hc.1.2.1 (by rw [hl.1]; exact hc.1.2.2.1) hc.1.2.2.2.1 (hc.1.2.2.2.2 _ hk.1) (hc.1.2.2.2.2 _ hk.2.1) (hc.1.2.2.2.2 _ hk.2.2.1) (hc.1.2.2.2.2 _ hk.2.2.2) h1 h2 h3.1 h3.2 hd (kk _ rfl H locs la hP hS hl)
/-- the air's numbers move by one place -/
def shA (x : Mem) (k : Nat) : Mem := fun b n => if b = k ∧ 7 ≤ n ∧ n < 14 then x k (n - 1) else x b n
theorem so_sh {cy : Nat → ClassId} {ad : Ads} {x : Mem} {k : Nat} (h : k < 7) : SO cy ad x (shA x k) k 7 0 (.inl (cy 0, 8, .inl (va_cpy (fun i => if i < 8 then x k (6 + i) else 0) (fun i => if i < 8 then x k (6 + i) else 0) 0 1 7))) := by
  refine ⟨?_, fun k' c' j' hd hne => EE_congr hd fun b n ho => ?_⟩
  · show Sum.inl _ = Sum.inl _
    congr 4
    funext i
    unfold va_cpy shA
    by_cases h8 : i < 8
    · rw [if_pos h8]
      by_cases h0 : i = 0
      · subst h0; simp
      · rw [if_pos (by omega), if_pos (by omega)]
        show x k (6 + i - 1) = if 0 + (i - 1) < 8 then x k (6 + (0 + (i - 1))) else 0
        rw [if_pos (by omega)]
        congr 1
        omega
    · rw [if_neg h8, if_neg (by omega)]
      exact (if_neg h8).symm
  · unfold shA
    rw [if_neg]
    rintro ⟨rfl, h1, h2⟩
    apply hne
    rw [← ho, show n = 6 + (n - 6) by omega]
    exact ow_air (by omega) (by omega)
def MCopy (own : String) (index : Nat) : Prop := Cond.methodLink own index arraycopyName ∈ TB ∧ Cond.native arraycopyName ∈ TB ∧ Cond.static arraycopyName ∈ TB ∧ Cond.initialized "java/lang/System" ∈ TB
theorem kl_copy_X0 : MCopy RX0 15 := ⟨tbm (i := 505) (by decide +kernel) (by decide +kernel), tbm (i := 507) (by decide +kernel) (by decide +kernel), tbm (i := 506) (by decide +kernel) (by decide +kernel), tbm (i := 23) (by decide +kernel) (by decide +kernel)⟩
theorem rm_copy {p : Program} {l : Launch} {e : Env} {R : Room} {s : State} {m : MethodId} {args : Array Value} {below : List Frame} {meth : Method} {c : Code} {cc : ByteArray} {nL : Nat} {own : String} {ret : Option FieldType} {D : va_G} {cy : Nat → ClassId} {ad : Ads} {nc ns : Nat} {Q : State → Prop} {x y : Mem} {pc index : Nat} {ls : List (Nat × Value)} {rest : List Value} {k k2 sp dp cn : Nat} {f g : Nat → Int32} (hc : CX p s m args meth c cc nL own ret D cy ad) (hd : decode cc pc = .ok (.invokestatic index, 3)) (hk : MCopy own index) (h1 : 1 ≤ R.frames) (h2 : (rest.map fun v => v.category).sum + (nativeFrameWords "java/lang/System" "arraycopy" 5 + 11) ≤ R.locals) (hm : dm k 7 0) (hm2 : dm k2 7 0) (hE : EE cy ad x k 7 0 = .inl (cy 0, 8, .inl g)) (hE2 : EE cy ad x k2 7 0 = .inl (cy 0, 8, .inl f)) (b1 : sp + cn ≤ 8) (b2 : dp + cn ≤ 8) (hs : SO cy ad x y k 7 0 (.inl (cy 0, 8, .inl (va_cpy f g sp dp cn)))) (kk : RM p l e R s m args below meth c nL (AA ad s.heap.size) (GG D cy ad y) nc ns Q (pc + 3) ls rest) : RM p l e R s m args below meth c nL (AA ad s.heap.size) (GG D cy ad x) nc ns Q pc ls (.int (nI cn) :: .int (nI dp) :: .ref (ad k 7 0) :: .int (nI sp) :: .ref (ad k2 7 0) :: rest) := by
  intro H locs la hP hS hl
  obtain ⟨q0, hq, hix⟩ := wl_get (cy := cy) (ad := ad) x hm
  obtain ⟨q2, hq2, -⟩ := wl_get (cy := cy) (ad := ad) x hm2
  rw [hE] at hq
  rw [hE2] at hq2
  have cl : ∀ n, n ≤ 8 → (nI n).toNatClampNeg = n := fun n h => nI_clamp (by omega)
  refine va_copyi (A := AA ad s.heap.size) hc.1.1 hc.1.2.1 (by rw [hl.1]; exact hc.1.2.2.1) hc.1.2.2.2.1 (hc.1.2.2.2.2 _ hk.1) (hc.1.2.2.2.2 _ hk.2.1) (hc.1.2.2.2.2 _ hk.2.2.1) (hc.1.2.2.2.2 _ hk.2.2.2) hc.2.2.2.1 hP (wl_D hc.2.2.2.2.1 AA_in) hS q2 q0 0 0 hq2 hq rfl rfl rfl (nI_pos (by omega)) (nI_pos (by omega)) (nI_pos (by omega)) (by rw [cl _ (by omega), cl _ (by omega)]; exact b1) (by rw [cl _ (by omega), cl _ (by omega)]; exact b2) (fun _ _ => rfl) h1 h2 hd (fun H1 locs1 hP1 hD1 hS1 => ?_)
  rw [cl sp (by omega), cl dp (by omega), cl cn (by omega)] at hP1
  have e := wl_set (cy := cy) (ad := ad) (x := x) (y := y) hix hs.2
  rw [hs.1] at e
  rw [e] at hP1
  exact kk H1 locs1 la hP1 hS1 hl
end
section
/-! ===== what the methods compute, as functions of the memory ===== -/
def nx (c : Int32) : Int32 := if 9999 ≤ c then 0 else c + 1
def nu (s c : Int32) : Int32 := ((c * 40503 + s * 7919) ^^^ (s * 31 + c)) &&& 65535
/-- a stretch of a block copied -/
def cpS (x : Mem) (k o k2 o2 len : Nat) : Mem := fun b n => if b = k ∧ o ≤ n ∧ n < o + len then x k2 (o2 + (n - o)) else x b n
theorem cpS_in {x : Mem} {k o k2 o2 len n : Nat} (h1 : o ≤ n) (h2 : n < o + len) : cpS x k o k2 o2 len k n = x k2 (o2 + (n - o)) := by simp [cpS, h1, h2]
theorem cpS_b {x : Mem} {k o k2 o2 len b n : Nat} (h : b ≠ k) : cpS x k o k2 o2 len b n = x b n := by simp [cpS, h]
theorem cpS_app {x : Mem} {k o k2 o2 a c : Nat} (h : k2 ≠ k) : cpS (cpS x k o k2 o2 a) k (o + a) k2 (o2 + a) c = cpS x k o k2 o2 (a + c) := by
  funext b n
  by_cases hb : b = k
  · subst hb
    by_cases h1 : o + a ≤ n ∧ n < o + a + c
    · rw [cpS_in h1.1 h1.2, cpS_b h, cpS_in (by omega) (by omega)]
      congr 1; omega
    · simp only [cpS, true_and, if_neg h1]
      by_cases h2 : o ≤ n ∧ n < o + a
      · rw [if_pos h2, if_pos (by omega)]
      · rw [if_neg h2, if_neg (by omega)]
  · rw [cpS_b hb, cpS_b hb, cpS_b hb]
/-- one place copied -/
theorem cpS_1 {x : Mem} {k o k2 o2 : Nat} : up x k o (x k2 o2) = cpS x k o k2 o2 1 := by
  funext b n
  by_cases hb : b = k
  · subst hb
    by_cases hn : n = o
    · subst hn; simp [up, cpS]
    · simp only [up, cpS, true_and, if_neg hn]
      rw [if_neg (by omega)]
  · rw [cpS_b hb, up_b _ _ _ hb]
theorem cpS_up {x : Mem} {k o k2 o2 a : Nat} (h : k2 ≠ k) : up (cpS x k o k2 o2 a) k (o + a) (x k2 (o2 + a)) = cpS x k o k2 o2 (a + 1) := by
  rw [show x k2 (o2 + a) = cpS x k o k2 o2 a k2 (o2 + a) from (cpS_b h).symm, cpS_1, cpS_app h]
def sndF (x : Mem) (k j : Nat) : Mem := up (up (up x k (16 + 4 * j) (x k (16 + 4 * j) - 1)) k (17 + 4 * j) (x k (17 + 4 * j) + 1)) k (15 + 4 * j) (nx (x k (15 + 4 * j)))
def lookFob (x : Mem) (k j : Nat) (w : Int32) : Int32 := if w = 0 then x k (14 + 4 * j) else if w = 1 then x k (15 + 4 * j) else if w = 2 then x k (16 + 4 * j) else if w = 3 then nu (x k (14 + 4 * j)) (nx (x k (15 + 4 * j))) else if w = 4 then x k (17 + 4 * j) else -1
def isFlag (v : Int32) : Prop := v = 0 ∨ v = 1
def lrnS (x : Mem) (k d s kf j : Nat) : Mem := up (up (up (up x k (36 + 22 * d + 4 * s) 1) k (37 + 22 * d + 4 * s) (x kf (14 + 4 * j))) k (38 + 22 * d + 4 * s) (x kf (15 + 4 * j))) k (39 + 22 * d + 4 * s) (-1)
def empS (x : Mem) (k d s : Nat) : Mem := up (up (up (up x k (36 + 22 * d + 4 * s) 0) k (37 + 22 * d + 4 * s) (-1)) k (38 + 22 * d + 4 * s) (-1)) k (39 + 22 * d + 4 * s) (-1)
def lookSlot (x : Mem) (k d s : Nat) (w : Int32) : Int32 := if w = 0 then (if x k (36 + 22 * d + 4 * s) = 0 then 0 else 1) else if w = 1 then x k (37 + 22 * d + 4 * s) else if w = 2 then x k (38 + 22 * d + 4 * s) else if w = 3 then x k (39 + 22 * d + 4 * s) else -1
def lockS (lock row : Int32) : Int32 := if lock ≤ 0 then 0 else if row < lock then 0 else 1
end
section
theorem cpn_3 {x : Mem} {k k2 o o2 : Nat} (h : k2 ≠ k) : (up (up (up x k o (x k2 o2)) k (o + 1) ((up x k o (x k2 o2)) k2 (o2 + 1))) k (o + 2) ((up (up x k o (x k2 o2)) k (o + 1) ((up x k o (x k2 o2)) k2 (o2 + 1))) k2 (o2 + 2))) = cpS x k o k2 o2 3 := by
  simp only [up_b _ _ _ h]
  rw [cpS_1]
  rw [cpS_up h]
  rw [cpS_up h]

theorem cpn_4 {x : Mem} {k k2 o o2 : Nat} (h : k2 ≠ k) : (up (up (up (up x k o (x k2 o2)) k (o + 1) ((up x k o (x k2 o2)) k2 (o2 + 1))) k (o + 2) ((up (up x k o (x k2 o2)) k (o + 1) ((up x k o (x k2 o2)) k2 (o2 + 1))) k2 (o2 + 2))) k (o + 3) ((up (up (up x k o (x k2 o2)) k (o + 1) ((up x k o (x k2 o2)) k2 (o2 + 1))) k (o + 2) ((up (up x k o (x k2 o2)) k (o + 1) ((up x k o (x k2 o2)) k2 (o2 + 1))) k2 (o2 + 2))) k2 (o2 + 3))) = cpS x k o k2 o2 4 := by
  simp only [up_b _ _ _ h]
  rw [cpS_1]
  rw [cpS_up h]
  rw [cpS_up h]
  rw [cpS_up h]

abbrev rm_X8_counterBehind : Room := { frames := 0, cells := 0, slots := 0, locals := 0 }
set_option maxHeartbeats 4000000 in
set_option maxRecDepth 100000 in
theorem c_X8_counterBehind {l : Launch} {D : va_G} {cy : Nat → ClassId} {ad : Ads} (hI : IJ ad) (x : Mem) (a : Int32) : Cti l yX8_counterBehind cX8_counterBehind 1 (some .int) rm_X8_counterBehind D cy ad [.int a] x (fun r y => r = nx a ∧ y = x) := by
  refine rm_entry (Qc := Qi D cy ad (fun r y => r = nx a ∧ y = x)) hI (by decide) (Nat.le_of_ble_eq_true rfl) ?_
  intro p e s m args below meth c hc
  show RM _ _ _ _ _ _ _ _ _ _ _ _ _ _ _ _ _ [(0, .int a)] []
  refine rm_iload_n hc dX8_counterBehind_0 rfl rfl ?_
  refine rm_sipush (v := 9999) hc dX8_counterBehind_1 (by decide) ?_
  refine rm_icmp_ge (tgt := 13) hc dX8_counterBehind_4 (by decide) (fun c_1 => ?_) (fun c_1 => ?_)
  · --T
    refine rm_iconst (v := 0) hc dX8_counterBehind_13 (by decide) ?_
    exact rm_iret hc dX8_counterBehind_14 ⟨by subst_vars; simp [nx, *], rfl⟩
  · --F
    refine rm_iload_n hc dX8_counterBehind_7 rfl rfl ?_
    refine rm_iconst (v := 1) hc dX8_counterBehind_8 (by decide) ?_
    refine rm_iadd hc dX8_counterBehind_9 (fun v_2 e_2 => ?_)
    refine rm_goto (tgt := 14) hc dX8_counterBehind_10 (by decide) ?_
    exact rm_iret hc dX8_counterBehind_14 ⟨by subst_vars; simp [nx, *], rfl⟩

abbrev rm_X8_numberOf : Room := { frames := 0, cells := 0, slots := 0, locals := 0 }
set_option maxHeartbeats 4000000 in
set_option maxRecDepth 100000 in
theorem c_X8_numberOf {l : Launch} {D : va_G} {cy : Nat → ClassId} {ad : Ads} (hI : IJ ad) (x : Mem) (a b : Int32) : Cti l yX8_numberOf cX8_numberOf 2 (some .int) rm_X8_numberOf D cy ad [.int a, .int b] x (fun r y => r = nu a b ∧ y = x) := by
  refine rm_entry (Qc := Qi D cy ad (fun r y => r = nu a b ∧ y = x)) hI (by decide) (Nat.le_of_ble_eq_true rfl) ?_
  intro p e s m args below meth c hc
  show RM _ _ _ _ _ _ _ _ _ _ _ _ _ _ _ _ _ [(0, .int a), (1, .int b)] []
  refine rm_iload_n hc dX8_numberOf_0 rfl rfl ?_
  refine rm_ldc hc dX8_numberOf_1 kc_X8_230 ?_
  refine rm_imul hc dX8_numberOf_3 (fun v_1 e_1 => ?_)
  refine rm_iload_n hc dX8_numberOf_4 rfl rfl ?_
  refine rm_sipush (v := 7919) hc dX8_numberOf_5 (by decide) ?_
  refine rm_imul hc dX8_numberOf_8 (fun v_2 e_2 => ?_)
  refine rm_iadd hc dX8_numberOf_9 (fun v_3 e_3 => ?_)
  refine rm_iload_n hc dX8_numberOf_10 rfl rfl ?_
  refine rm_bipush (v := 31) hc dX8_numberOf_11 (by decide) ?_
  refine rm_imul hc dX8_numberOf_13 (fun v_4 e_4 => ?_)
  refine rm_iload_n hc dX8_numberOf_14 rfl rfl ?_
  refine rm_iadd hc dX8_numberOf_15 (fun v_5 e_5 => ?_)
  refine rm_ixor hc dX8_numberOf_16 (fun v_6 e_6 => ?_)
  refine rm_ldc hc dX8_numberOf_17 kc_X8_178 ?_
  refine rm_iand hc dX8_numberOf_19 (fun v_7 e_7 => ?_)
  exact rm_iret hc dX8_numberOf_20 ⟨by subst_vars; rfl, rfl⟩


abbrev rm_X2_sendNext : Room := { frames := 1, cells := 0, slots := 0, locals := 21 }
set_option maxHeartbeats 4000000 in
set_option maxRecDepth 100000 in
theorem c_X2_sendNext {l : Launch} {D : va_G} {cy : Nat → ClassId} {ad : Ads} (hI : IJ ad) (x : Mem) {k j : Nat} (hk : k < 7) (hj : j < 4) : Cti l yX2_sendNext cX2_sendNext 1 (some .int) rm_X2_sendNext D cy ad [.ref (ad k 2 j)] x (fun r y => r = nu (x k (14 + 4 * j)) (nx (x k (15 + 4 * j))) ∧ y = sndF x k j) := by
  refine rm_entry (Qc := Qi D cy ad (fun r y => r = nu (x k (14 + 4 * j)) (nx (x k (15 + 4 * j))) ∧ y = sndF x k j)) hI (by decide) (Nat.le_of_ble_eq_true rfl) ?_
  intro p e s m args below meth c hc
  show RM _ _ _ _ _ _ _ _ _ _ _ _ _ _ _ _ _ [(0, .ref (ad k 2 j))] []
  refine rm_aload_n hc dX2_sendNext_0 rfl rfl ?_
  refine rm_dup hc dX2_sendNext_1 rfl ?_
  refine rm_geti hc dX2_sendNext_2 fl_X2_15 (dm_2 (by omega) (by omega)) rfl rfl (fun v_1 e_1 => ?_)
  refine rm_iconst (v := 1) hc dX2_sendNext_5 (by decide) ?_
  refine rm_isub hc dX2_sendNext_6 (fun v_2 e_2 => ?_)
  refine rm_put hc dX2_sendNext_7 fl_X2_15 (dm_2 (by omega) (by omega)) rfl (Nat.le_of_ble_eq_true rfl) ft_2_2 rfl rfl (so_2_2 (by omega) (by omega)) (rm_nm (fun x_3 ex_3 => ?_))
  refine rm_aload_n hc dX2_sendNext_10 rfl rfl ?_
  refine rm_dup hc dX2_sendNext_11 rfl ?_
  refine rm_geti hc dX2_sendNext_12 fl_X2_21 (dm_2 (by omega) (by omega)) rfl rfl (fun v_4 e_4 => ?_)
  refine rm_iconst (v := 1) hc dX2_sendNext_15 (by decide) ?_
  refine rm_iadd hc dX2_sendNext_16 (fun v_5 e_5 => ?_)
  refine rm_put hc dX2_sendNext_17 fl_X2_21 (dm_2 (by omega) (by omega)) rfl (Nat.le_of_ble_eq_true rfl) ft_2_3 rfl rfl (so_2_3 (by omega) (by omega)) (rm_nm (fun x_6 ex_6 => ?_))
  refine rm_aload_n hc dX2_sendNext_20 rfl rfl ?_
  refine rm_aload_n hc dX2_sendNext_21 rfl rfl ?_
  refine rm_geti hc dX2_sendNext_22 fl_X2_18 (dm_2 (by omega) (by omega)) rfl rfl (fun v_7 e_7 => ?_)
  refine rm_calliN (As := [.int v_7]) (rest := [.ref (ad k 2 j)]) hc dX2_sendNext_25 (c_X8_counterBehind hI x_6 v_7) mn_X2_24 (hn := rfl) (hst := rfl) (hw := Nat.le_of_ble_eq_true rfl) (hR := ⟨⟨rfl, rfl⟩, Nat.le_of_ble_eq_true rfl, Nat.le_of_ble_eq_true rfl⟩) (hnc := ⟨Nat.zero_le _, Nat.zero_le _⟩) (fun r_8 y_8 h_8 => ?_)
  obtain ⟨e_8, ey_8⟩ := h_8
  obtain rfl := ey_8.symm
  refine rm_put hc dX2_sendNext_28 fl_X2_18 (dm_2 (by omega) (by omega)) rfl (Nat.le_of_ble_eq_true rfl) ft_2_1 rfl rfl (so_2_1 (by omega) (by omega)) (rm_nm (fun x_9 ex_9 => ?_))
  refine rm_aload_n hc dX2_sendNext_31 rfl rfl ?_
  refine rm_geti hc dX2_sendNext_32 fl_X2_9 (dm_2 (by omega) (by omega)) rfl rfl (fun v_10 e_10 => ?_)
  refine rm_aload_n hc dX2_sendNext_35 rfl rfl ?_
  refine rm_geti hc dX2_sendNext_36 fl_X2_18 (dm_2 (by omega) (by omega)) rfl rfl (fun v_11 e_11 => ?_)
  refine rm_calliN (As := [.int v_10, .int v_11]) (rest := []) hc dX2_sendNext_39 (c_X8_numberOf hI x_9 v_10 v_11) mn_X2_28 (hn := rfl) (hst := rfl) (hw := Nat.le_of_ble_eq_true rfl) (hR := ⟨⟨rfl, rfl⟩, Nat.le_of_ble_eq_true rfl, Nat.le_of_ble_eq_true rfl⟩) (hnc := ⟨Nat.zero_le _, Nat.zero_le _⟩) (fun r_12 y_12 h_12 => ?_)
  obtain ⟨e_12, ey_12⟩ := h_12
  obtain rfl := ey_12.symm
  exact rm_iret hc dX2_sendNext_42 ⟨by subst_vars; simp [up], by subst_vars; simp [sndF, up]⟩

abbrev rm_X2_look : Room := { frames := 1, cells := 0, slots := 0, locals := 21 }
set_option maxHeartbeats 4000000 in
set_option maxRecDepth 100000 in
theorem c_X2_look {l : Launch} {D : va_G} {cy : Nat → ClassId} {ad : Ads} (hI : IJ ad) (x : Mem) {k j : Nat} (hk : k < 7) (hj : j < 4) (w : Int32) : Cti l yX2_look cX2_look 2 (some .int) rm_X2_look D cy ad [.ref (ad k 2 j), .int w] x (fun r y => r = lookFob x k j w ∧ y = x) := by
  refine rm_entry (Qc := Qi D cy ad (fun r y => r = lookFob x k j w ∧ y = x)) hI (by decide) (Nat.le_of_ble_eq_true rfl) ?_
  intro p e s m args below meth c hc
  show RM _ _ _ _ _ _ _ _ _ _ _ _ _ _ _ _ _ [(0, .ref (ad k 2 j)), (1, .int w)] []
  refine rm_iload_n hc dX2_look_0 rfl rfl ?_
  by_cases z_1 : w = 0
  · --case 0
    subst z_1
    refine rm_tin (off := 35) (tgt := 36) hc dX2_look_1 (by decide) (by decide) (by decide) (by decide) ?_
    refine rm_aload_n hc dX2_look_36 rfl rfl ?_
    refine rm_geti hc dX2_look_37 fl_X2_9 (dm_2 (by omega) (by omega)) rfl rfl (fun v_2 e_2 => ?_)
    exact rm_iret hc dX2_look_40 ⟨by subst_vars; simp [lookFob, *], rfl⟩
  by_cases z_3 : w = 1
  · --case 1
    subst z_3
    refine rm_tin (off := 40) (tgt := 41) hc dX2_look_1 (by decide) (by decide) (by decide) (by decide) ?_
    refine rm_aload_n hc dX2_look_41 rfl rfl ?_
    refine rm_geti hc dX2_look_42 fl_X2_18 (dm_2 (by omega) (by omega)) rfl rfl (fun v_4 e_4 => ?_)
    exact rm_iret hc dX2_look_45 ⟨by subst_vars; simp [lookFob, *], rfl⟩
  by_cases z_5 : w = 2
  · --case 2
    subst z_5
    refine rm_tin (off := 45) (tgt := 46) hc dX2_look_1 (by decide) (by decide) (by decide) (by decide) ?_
    refine rm_aload_n hc dX2_look_46 rfl rfl ?_
    refine rm_geti hc dX2_look_47 fl_X2_15 (dm_2 (by omega) (by omega)) rfl rfl (fun v_6 e_6 => ?_)
    exact rm_iret hc dX2_look_50 ⟨by subst_vars; simp [lookFob, *], rfl⟩
  by_cases z_7 : w = 3
  · --case 3
    subst z_7
    refine rm_tin (off := 50) (tgt := 51) hc dX2_look_1 (by decide) (by decide) (by decide) (by decide) ?_
    refine rm_aload_n hc dX2_look_51 rfl rfl ?_
    refine rm_geti hc dX2_look_52 fl_X2_9 (dm_2 (by omega) (by omega)) rfl rfl (fun v_8 e_8 => ?_)
    refine rm_aload_n hc dX2_look_55 rfl rfl ?_
    refine rm_geti hc dX2_look_56 fl_X2_18 (dm_2 (by omega) (by omega)) rfl rfl (fun v_9 e_9 => ?_)
    refine rm_calliN (As := [.int v_9]) (rest := [.int v_8]) hc dX2_look_59 (c_X8_counterBehind hI x v_9) mn_X2_24 (hn := rfl) (hst := rfl) (hw := Nat.le_of_ble_eq_true rfl) (hR := ⟨⟨rfl, rfl⟩, Nat.le_of_ble_eq_true rfl, Nat.le_of_ble_eq_true rfl⟩) (hnc := ⟨Nat.zero_le _, Nat.zero_le _⟩) (fun r_10 y_10 h_10 => ?_)
    obtain ⟨e_10, ey_10⟩ := h_10
    obtain rfl := ey_10.symm
    refine rm_calliN (As := [.int v_8, .int r_10]) (rest := []) hc dX2_look_62 (c_X8_numberOf hI x v_8 r_10) mn_X2_28 (hn := rfl) (hst := rfl) (hw := Nat.le_of_ble_eq_true rfl) (hR := ⟨⟨rfl, rfl⟩, Nat.le_of_ble_eq_true rfl, Nat.le_of_ble_eq_true rfl⟩) (hnc := ⟨Nat.zero_le _, Nat.zero_le _⟩) (fun r_11 y_11 h_11 => ?_)
    obtain ⟨e_11, ey_11⟩ := h_11
    obtain rfl := ey_11.symm
    exact rm_iret hc dX2_look_65 ⟨by subst_vars; simp [lookFob, *], rfl⟩
  by_cases z_12 : w = 4
  · --case 4
    subst z_12
    refine rm_tin (off := 65) (tgt := 66) hc dX2_look_1 (by decide) (by decide) (by decide) (by decide) ?_
    refine rm_aload_n hc dX2_look_66 rfl rfl ?_
    refine rm_geti hc dX2_look_67 fl_X2_21 (dm_2 (by omega) (by omega)) rfl rfl (fun v_13 e_13 => ?_)
    exact rm_iret hc dX2_look_70 ⟨by subst_vars; simp [lookFob, *], rfl⟩
  refine rm_tout (tgt := 71) hc dX2_look_1 (by have zz0 := lv_neT (k := 0) (a := 0) z_1 (by decide); have zz1 := lv_neT (k := 1) (a := 1) z_3 (by decide); have zz2 := lv_neT (k := 2) (a := 2) z_5 (by decide); have zz3 := lv_neT (k := 3) (a := 3) z_7 (by decide); have zz4 := lv_neT (k := 4) (a := 4) z_12 (by decide); omega) (by decide) ?_
  refine rm_iconst (v := -1) hc dX2_look_71 (by decide) ?_
  exact rm_iret hc dX2_look_72 ⟨by subst_vars; simp [lookFob, *], rfl⟩

abbrev rm_X2_copyFrom : Room := { frames := 0, cells := 0, slots := 0, locals := 0 }
set_option maxHeartbeats 4000000 in
set_option maxRecDepth 100000 in
theorem c_X2_copyFrom {l : Launch} {D : va_G} {cy : Nat → ClassId} {ad : Ads} (hI : IJ ad) (x : Mem) {k j k2 : Nat} (hk : k < 7) (hj : j < 4) (hk2 : k2 < 7) (hkk : k2 ≠ k) : Ctv l yX2_copyFrom cX2_copyFrom 2 none rm_X2_copyFrom D cy ad [.ref (ad k 2 j), .ref (ad k2 2 j)] x (fun y => y = cpS x k (14 + 4 * j) k2 (14 + 4 * j) 4) := by
  refine rm_entry (Qc := Qv D cy ad (fun y => y = cpS x k (14 + 4 * j) k2 (14 + 4 * j) 4)) hI (by decide) (Nat.le_of_ble_eq_true rfl) ?_
  intro p e s m args below meth c hc
  show RM _ _ _ _ _ _ _ _ _ _ _ _ _ _ _ _ _ [(0, .ref (ad k 2 j)), (1, .ref (ad k2 2 j))] []
  refine rm_aload_n hc dX2_copyFrom_0 rfl rfl ?_
  refine rm_aload_n hc dX2_copyFrom_1 rfl rfl ?_
  refine rm_geti hc dX2_copyFrom_2 fl_X2_9 (dm_2 (by omega) (by omega)) rfl rfl (fun v_1 e_1 => ?_)
  refine rm_put hc dX2_copyFrom_5 fl_X2_9 (dm_2 (by omega) (by omega)) rfl (Nat.le_of_ble_eq_true rfl) ft_2_0 rfl rfl (so_2_0 (by omega) (by omega)) (rm_nm (fun x_2 ex_2 => ?_))
  refine rm_aload_n hc dX2_copyFrom_8 rfl rfl ?_
  refine rm_aload_n hc dX2_copyFrom_9 rfl rfl ?_
  refine rm_geti hc dX2_copyFrom_10 fl_X2_18 (dm_2 (by omega) (by omega)) rfl rfl (fun v_3 e_3 => ?_)
  refine rm_put hc dX2_copyFrom_13 fl_X2_18 (dm_2 (by omega) (by omega)) rfl (Nat.le_of_ble_eq_true rfl) ft_2_1 rfl rfl (so_2_1 (by omega) (by omega)) (rm_nm (fun x_4 ex_4 => ?_))
  refine rm_aload_n hc dX2_copyFrom_16 rfl rfl ?_
  refine rm_aload_n hc dX2_copyFrom_17 rfl rfl ?_
  refine rm_geti hc dX2_copyFrom_18 fl_X2_15 (dm_2 (by omega) (by omega)) rfl rfl (fun v_5 e_5 => ?_)
  refine rm_put hc dX2_copyFrom_21 fl_X2_15 (dm_2 (by omega) (by omega)) rfl (Nat.le_of_ble_eq_true rfl) ft_2_2 rfl rfl (so_2_2 (by omega) (by omega)) (rm_nm (fun x_6 ex_6 => ?_))
  refine rm_aload_n hc dX2_copyFrom_24 rfl rfl ?_
  refine rm_aload_n hc dX2_copyFrom_25 rfl rfl ?_
  refine rm_geti hc dX2_copyFrom_26 fl_X2_21 (dm_2 (by omega) (by omega)) rfl rfl (fun v_7 e_7 => ?_)
  refine rm_put hc dX2_copyFrom_29 fl_X2_21 (dm_2 (by omega) (by omega)) rfl (Nat.le_of_ble_eq_true rfl) ft_2_3 rfl rfl (so_2_3 (by omega) (by omega)) (rm_nm (fun x_8 ex_8 => ?_))
  exact rm_vret hc dX2_copyFrom_32 (by subst_vars; rw [show 15 + 4 * j = 14 + 4 * j + 1 by omega, show 16 + 4 * j = 14 + 4 * j + 2 by omega, show 17 + 4 * j = 14 + 4 * j + 3 by omega]; exact cpn_4 hkk)

abbrev rm_X5_copyFrom : Room := { frames := 0, cells := 0, slots := 0, locals := 0 }
set_option maxHeartbeats 4000000 in
set_option maxRecDepth 100000 in
theorem c_X5_copyFrom {l : Launch} {D : va_G} {cy : Nat → ClassId} {ad : Ads} (hI : IJ ad) (x : Mem) {k d s0 k2 d2 : Nat} (hk : k < 8) (hd3 : d < 3) (hs : s0 < 4) (hkd : k = 7 → d = 0) (hk2 : k2 < 8) (hd2 : d2 < 3) (hkd2 : k2 = 7 → d2 = 0) (hkk : k2 ≠ k) (hfl : isFlag (x k2 (36 + 22 * d2 + 4 * s0))) : Ctv l yX5_copyFrom cX5_copyFrom 2 none rm_X5_copyFrom D cy ad [.ref (ad k (d + 20) s0), .ref (ad k2 (d2 + 20) s0)] x (fun y => y = cpS x k (36 + 22 * d + 4 * s0) k2 (36 + 22 * d2 + 4 * s0) 4) := by
  refine rm_entry (Qc := Qv D cy ad (fun y => y = cpS x k (36 + 22 * d + 4 * s0) k2 (36 + 22 * d2 + 4 * s0) 4)) hI (by decide) (Nat.le_of_ble_eq_true rfl) ?_
  intro p e s m args below meth c hc
  show RM _ _ _ _ _ _ _ _ _ _ _ _ _ _ _ _ _ [(0, .ref (ad k (d + 20) s0)), (1, .ref (ad k2 (d2 + 20) s0))] []
  refine rm_aload_n hc dX5_copyFrom_0 rfl rfl ?_
  refine rm_aload_n hc dX5_copyFrom_1 rfl rfl ?_
  refine rm_geti hc dX5_copyFrom_2 fl_X5_21 (dm_s (d := d2) (by omega) (by omega) (by omega) (by omega)) rfl rfl (fun v_1 e_1 => ?_)
  refine rm_put hc dX5_copyFrom_5 fl_X5_21 (dm_s (d := d) (by omega) (by omega) (by omega) (by omega)) rfl (Nat.le_of_ble_eq_true rfl) ft_5_0 (nrb (by rw [e_1]; exact hfl)) (ftb (by rw [e_1]; exact hfl)) (so_s_0 (d := d) (by omega) (by omega) (by omega)) (rm_nm (fun x_2 ex_2 => ?_))
  refine rm_aload_n hc dX5_copyFrom_8 rfl rfl ?_
  refine rm_aload_n hc dX5_copyFrom_9 rfl rfl ?_
  refine rm_geti hc dX5_copyFrom_10 fl_X5_9 (dm_s (d := d2) (by omega) (by omega) (by omega) (by omega)) rfl rfl (fun v_3 e_3 => ?_)
  refine rm_put hc dX5_copyFrom_13 fl_X5_9 (dm_s (d := d) (by omega) (by omega) (by omega) (by omega)) rfl (Nat.le_of_ble_eq_true rfl) ft_5_1 rfl rfl (so_s_1 (d := d) (by omega) (by omega) (by omega)) (rm_nm (fun x_4 ex_4 => ?_))
  refine rm_aload_n hc dX5_copyFrom_16 rfl rfl ?_
  refine rm_aload_n hc dX5_copyFrom_17 rfl rfl ?_
  refine rm_geti hc dX5_copyFrom_18 fl_X5_15 (dm_s (d := d2) (by omega) (by omega) (by omega) (by omega)) rfl rfl (fun v_5 e_5 => ?_)
  refine rm_put hc dX5_copyFrom_21 fl_X5_15 (dm_s (d := d) (by omega) (by omega) (by omega) (by omega)) rfl (Nat.le_of_ble_eq_true rfl) ft_5_2 rfl rfl (so_s_2 (d := d) (by omega) (by omega) (by omega)) (rm_nm (fun x_6 ex_6 => ?_))
  refine rm_aload_n hc dX5_copyFrom_24 rfl rfl ?_
  refine rm_aload_n hc dX5_copyFrom_25 rfl rfl ?_
  refine rm_geti hc dX5_copyFrom_26 fl_X5_18 (dm_s (d := d2) (by omega) (by omega) (by omega) (by omega)) rfl rfl (fun v_7 e_7 => ?_)
  refine rm_put hc dX5_copyFrom_29 fl_X5_18 (dm_s (d := d) (by omega) (by omega) (by omega) (by omega)) rfl (Nat.le_of_ble_eq_true rfl) ft_5_3 rfl rfl (so_s_3 (d := d) (by omega) (by omega) (by omega)) (rm_nm (fun x_8 ex_8 => ?_))
  exact rm_vret hc dX5_copyFrom_32 (by subst_vars; rw [show 37 + 22 * d + 4 * s0 = 36 + 22 * d + 4 * s0 + 1 by omega, show 38 + 22 * d + 4 * s0 = 36 + 22 * d + 4 * s0 + 2 by omega, show 39 + 22 * d + 4 * s0 = 36 + 22 * d + 4 * s0 + 3 by omega, show 37 + 22 * d2 + 4 * s0 = 36 + 22 * d2 + 4 * s0 + 1 by omega, show 38 + 22 * d2 + 4 * s0 = 36 + 22 * d2 + 4 * s0 + 2 by omega, show 39 + 22 * d2 + 4 * s0 = 36 + 22 * d2 + 4 * s0 + 3 by omega]; exact cpn_4 hkk)

abbrev rm_X5_learnFrom : Room := { frames := 0, cells := 0, slots := 0, locals := 0 }
set_option maxHeartbeats 4000000 in
set_option maxRecDepth 100000 in
theorem c_X5_learnFrom {l : Launch} {D : va_G} {cy : Nat → ClassId} {ad : Ads} (hI : IJ ad) (x : Mem) {k d s0 : Nat} (hk : k < 8) (hd3 : d < 3) (hs : s0 < 4) (hkd : k = 7 → d = 0) {kf j : Nat} (hkf : kf < 7) (hj : j < 4) (hkk : kf = k) : Ctv l yX5_learnFrom cX5_learnFrom 2 none rm_X5_learnFrom D cy ad [.ref (ad k (d + 20) s0), .ref (ad kf 2 j)] x (fun y => y = lrnS x k d s0 kf j) := by
  refine rm_entry (Qc := Qv D cy ad (fun y => y = lrnS x k d s0 kf j)) hI (by decide) (Nat.le_of_ble_eq_true rfl) ?_
  intro p e s m args below meth c hc
  show RM _ _ _ _ _ _ _ _ _ _ _ _ _ _ _ _ _ [(0, .ref (ad k (d + 20) s0)), (1, .ref (ad kf 2 j))] []
  refine rm_aload_n hc dX5_learnFrom_0 rfl rfl ?_
  refine rm_iconst (v := 1) hc dX5_learnFrom_1 (by decide) ?_
  refine rm_put hc dX5_learnFrom_2 fl_X5_21 (dm_s (d := d) (by omega) (by omega) (by omega) (by omega)) rfl (Nat.le_of_ble_eq_true rfl) ft_5_0 rfl rfl (so_s_0 (d := d) (by omega) (by omega) (by omega)) (rm_nm (fun x_1 ex_1 => ?_))
  refine rm_aload_n hc dX5_learnFrom_5 rfl rfl ?_
  refine rm_aload_n hc dX5_learnFrom_6 rfl rfl ?_
  refine rm_geti hc dX5_learnFrom_7 fl_X5_25 (dm_2 (by omega) (by omega)) rfl rfl (fun v_2 e_2 => ?_)
  refine rm_put hc dX5_learnFrom_10 fl_X5_9 (dm_s (d := d) (by omega) (by omega) (by omega) (by omega)) rfl (Nat.le_of_ble_eq_true rfl) ft_5_1 rfl rfl (so_s_1 (d := d) (by omega) (by omega) (by omega)) (rm_nm (fun x_3 ex_3 => ?_))
  refine rm_aload_n hc dX5_learnFrom_13 rfl rfl ?_
  refine rm_aload_n hc dX5_learnFrom_14 rfl rfl ?_
  refine rm_geti hc dX5_learnFrom_15 fl_X5_28 (dm_2 (by omega) (by omega)) rfl rfl (fun v_4 e_4 => ?_)
  refine rm_put hc dX5_learnFrom_18 fl_X5_15 (dm_s (d := d) (by omega) (by omega) (by omega) (by omega)) rfl (Nat.le_of_ble_eq_true rfl) ft_5_2 rfl rfl (so_s_2 (d := d) (by omega) (by omega) (by omega)) (rm_nm (fun x_5 ex_5 => ?_))
  refine rm_aload_n hc dX5_learnFrom_21 rfl rfl ?_
  refine rm_iconst (v := -1) hc dX5_learnFrom_22 (by decide) ?_
  refine rm_put hc dX5_learnFrom_23 fl_X5_18 (dm_s (d := d) (by omega) (by omega) (by omega) (by omega)) rfl (Nat.le_of_ble_eq_true rfl) ft_5_3 rfl rfl (so_s_3 (d := d) (by omega) (by omega) (by omega)) (rm_nm (fun x_6 ex_6 => ?_))
  exact rm_vret hc dX5_learnFrom_26 (by subst_vars; simp [lrnS, up, show ¬ (14 + 4 * j = 36 + 22 * d + 4 * s0) by omega, show ¬ (15 + 4 * j = 36 + 22 * d + 4 * s0) by omega, show ¬ (15 + 4 * j = 37 + 22 * d + 4 * s0) by omega])

abbrev rm_X5_empty : Room := { frames := 0, cells := 0, slots := 0, locals := 0 }
set_option maxHeartbeats 4000000 in
set_option maxRecDepth 100000 in
theorem c_X5_empty {l : Launch} {D : va_G} {cy : Nat → ClassId} {ad : Ads} (hI : IJ ad) (x : Mem) {k d s0 : Nat} (hk : k < 8) (hd3 : d < 3) (hs : s0 < 4) (hkd : k = 7 → d = 0) : Ctv l yX5_empty cX5_empty 1 none rm_X5_empty D cy ad [.ref (ad k (d + 20) s0)] x (fun y => y = empS x k d s0) := by
  refine rm_entry (Qc := Qv D cy ad (fun y => y = empS x k d s0)) hI (by decide) (Nat.le_of_ble_eq_true rfl) ?_
  intro p e s m args below meth c hc
  show RM _ _ _ _ _ _ _ _ _ _ _ _ _ _ _ _ _ [(0, .ref (ad k (d + 20) s0))] []
  refine rm_aload_n hc dX5_empty_0 rfl rfl ?_
  refine rm_iconst (v := 0) hc dX5_empty_1 (by decide) ?_
  refine rm_put hc dX5_empty_2 fl_X5_21 (dm_s (d := d) (by omega) (by omega) (by omega) (by omega)) rfl (Nat.le_of_ble_eq_true rfl) ft_5_0 rfl rfl (so_s_0 (d := d) (by omega) (by omega) (by omega)) (rm_nm (fun x_1 ex_1 => ?_))
  refine rm_aload_n hc dX5_empty_5 rfl rfl ?_
  refine rm_iconst (v := -1) hc dX5_empty_6 (by decide) ?_
  refine rm_put hc dX5_empty_7 fl_X5_9 (dm_s (d := d) (by omega) (by omega) (by omega) (by omega)) rfl (Nat.le_of_ble_eq_true rfl) ft_5_1 rfl rfl (so_s_1 (d := d) (by omega) (by omega) (by omega)) (rm_nm (fun x_2 ex_2 => ?_))
  refine rm_aload_n hc dX5_empty_10 rfl rfl ?_
  refine rm_iconst (v := -1) hc dX5_empty_11 (by decide) ?_
  refine rm_put hc dX5_empty_12 fl_X5_15 (dm_s (d := d) (by omega) (by omega) (by omega) (by omega)) rfl (Nat.le_of_ble_eq_true rfl) ft_5_2 rfl rfl (so_s_2 (d := d) (by omega) (by omega) (by omega)) (rm_nm (fun x_3 ex_3 => ?_))
  refine rm_aload_n hc dX5_empty_15 rfl rfl ?_
  refine rm_iconst (v := -1) hc dX5_empty_16 (by decide) ?_
  refine rm_put hc dX5_empty_17 fl_X5_18 (dm_s (d := d) (by omega) (by omega) (by omega) (by omega)) rfl (Nat.le_of_ble_eq_true rfl) ft_5_3 rfl rfl (so_s_3 (d := d) (by omega) (by omega) (by omega)) (rm_nm (fun x_4 ex_4 => ?_))
  exact rm_vret hc dX5_empty_20 (by subst_vars; rfl)

abbrev rm_X5_look : Room := { frames := 0, cells := 0, slots := 0, locals := 0 }
set_option maxHeartbeats 4000000 in
set_option maxRecDepth 100000 in
theorem c_X5_look {l : Launch} {D : va_G} {cy : Nat → ClassId} {ad : Ads} (hI : IJ ad) (x : Mem) {k d s0 : Nat} (hk : k < 8) (hd3 : d < 3) (hs : s0 < 4) (hkd : k = 7 → d = 0) (w : Int32) : Cti l yX5_look cX5_look 2 (some .int) rm_X5_look D cy ad [.ref (ad k (d + 20) s0), .int w] x (fun r y => r = lookSlot x k d s0 w ∧ y = x) := by
  refine rm_entry (Qc := Qi D cy ad (fun r y => r = lookSlot x k d s0 w ∧ y = x)) hI (by decide) (Nat.le_of_ble_eq_true rfl) ?_
  intro p e s m args below meth c hc
  show RM _ _ _ _ _ _ _ _ _ _ _ _ _ _ _ _ _ [(0, .ref (ad k (d + 20) s0)), (1, .int w)] []
  refine rm_iload_n hc dX5_look_0 rfl rfl ?_
  by_cases z_1 : w = 0
  · --case 0
    subst z_1
    refine rm_tin (off := 31) (tgt := 32) hc dX5_look_1 (by decide) (by decide) (by decide) (by decide) ?_
    refine rm_aload_n hc dX5_look_32 rfl rfl ?_
    refine rm_geti hc dX5_look_33 fl_X5_21 (dm_s (d := d) (by omega) (by omega) (by omega) (by omega)) rfl rfl (fun v_2 e_2 => ?_)
    refine rm_if_eq (tgt := 43) hc dX5_look_36 (by decide) (fun c_3 => ?_) (fun c_3 => ?_)
    · --T
      refine rm_iconst (v := 0) hc dX5_look_43 (by decide) ?_
      exact rm_iret hc dX5_look_44 ⟨by subst_vars; simp [lookSlot, *], rfl⟩
    · --F
      refine rm_iconst (v := 1) hc dX5_look_39 (by decide) ?_
      refine rm_goto (tgt := 44) hc dX5_look_40 (by decide) ?_
      exact rm_iret hc dX5_look_44 ⟨by subst_vars; simp [lookSlot, *], rfl⟩
  by_cases z_4 : w = 1
  · --case 1
    subst z_4
    refine rm_tin (off := 44) (tgt := 45) hc dX5_look_1 (by decide) (by decide) (by decide) (by decide) ?_
    refine rm_aload_n hc dX5_look_45 rfl rfl ?_
    refine rm_geti hc dX5_look_46 fl_X5_9 (dm_s (d := d) (by omega) (by omega) (by omega) (by omega)) rfl rfl (fun v_5 e_5 => ?_)
    exact rm_iret hc dX5_look_49 ⟨by subst_vars; simp [lookSlot, *], rfl⟩
  by_cases z_6 : w = 2
  · --case 2
    subst z_6
    refine rm_tin (off := 49) (tgt := 50) hc dX5_look_1 (by decide) (by decide) (by decide) (by decide) ?_
    refine rm_aload_n hc dX5_look_50 rfl rfl ?_
    refine rm_geti hc dX5_look_51 fl_X5_15 (dm_s (d := d) (by omega) (by omega) (by omega) (by omega)) rfl rfl (fun v_7 e_7 => ?_)
    exact rm_iret hc dX5_look_54 ⟨by subst_vars; simp [lookSlot, *], rfl⟩
  by_cases z_8 : w = 3
  · --case 3
    subst z_8
    refine rm_tin (off := 54) (tgt := 55) hc dX5_look_1 (by decide) (by decide) (by decide) (by decide) ?_
    refine rm_aload_n hc dX5_look_55 rfl rfl ?_
    refine rm_geti hc dX5_look_56 fl_X5_18 (dm_s (d := d) (by omega) (by omega) (by omega) (by omega)) rfl rfl (fun v_9 e_9 => ?_)
    exact rm_iret hc dX5_look_59 ⟨by subst_vars; simp [lookSlot, *], rfl⟩
  refine rm_tout (tgt := 60) hc dX5_look_1 (by have zz0 := lv_neT (k := 0) (a := 0) z_1 (by decide); have zz1 := lv_neT (k := 1) (a := 1) z_4 (by decide); have zz2 := lv_neT (k := 2) (a := 2) z_6 (by decide); have zz3 := lv_neT (k := 3) (a := 3) z_8 (by decide); omega) (by decide) ?_
  refine rm_iconst (v := -1) hc dX5_look_60 (by decide) ?_
  exact rm_iret hc dX5_look_61 ⟨by subst_vars; simp [lookSlot, *], rfl⟩

abbrev rm_X1_isLocked : Room := { frames := 0, cells := 0, slots := 0, locals := 0 }
set_option maxHeartbeats 4000000 in
set_option maxRecDepth 100000 in
theorem c_X1_isLocked {l : Launch} {D : va_G} {cy : Nat → ClassId} {ad : Ads} (hI : IJ ad) (x : Mem) {k d k2 : Nat} (hk : k < 8) (hd3 : d < 3) (hkd : k = 7 → d = 0) (hk2 : k2 < 7) : Cti l yX1_isLocked cX1_isLocked 2 (some .boolean) rm_X1_isLocked D cy ad [.ref (ad k 4 d), .ref (ad k2 8 0)] x (fun r y => r = lockS (x k2 2) (x k (31 + 22 * d)) ∧ y = x) := by
  refine rm_entry (Qc := Qi D cy ad (fun r y => r = lockS (x k2 2) (x k (31 + 22 * d)) ∧ y = x)) hI (by decide) (Nat.le_of_ble_eq_true rfl) ?_
  intro p e s m args below meth c hc
  show RM _ _ _ _ _ _ _ _ _ _ _ _ _ _ _ _ _ [(0, .ref (ad k 4 d)), (1, .ref (ad k2 8 0))] []
  refine rm_aload_n hc dX1_isLocked_0 rfl rfl ?_
  refine rm_geti hc dX1_isLocked_1 fl_X1_42 (dm_8 (by omega)) rfl rfl (fun v_1 e_1 => ?_)
  refine rm_if_le (tgt := 22) hc dX1_isLocked_4 (by decide) (fun c_2 => ?_) (fun c_2 => ?_)
  · --T
    refine rm_iconst (v := 0) hc dX1_isLocked_22 (by decide) ?_
    exact rm_zret hc dX1_isLocked_23 rfl ⟨by subst_vars; simp [lockS, *], rfl⟩
  · --F
    refine rm_aload_n hc dX1_isLocked_7 rfl rfl ?_
    refine rm_geti hc dX1_isLocked_8 fl_X1_26 (dm_4 (by omega) (by omega) (by omega)) rfl rfl (fun v_3 e_3 => ?_)
    refine rm_aload_n hc dX1_isLocked_11 rfl rfl ?_
    refine rm_geti hc dX1_isLocked_12 fl_X1_42 (dm_8 (by omega)) rfl rfl (fun v_4 e_4 => ?_)
    refine rm_icmp_lt (tgt := 22) hc dX1_isLocked_15 (by decide) (fun c_5 => ?_) (fun c_5 => ?_)
    · --T
      refine rm_iconst (v := 0) hc dX1_isLocked_22 (by decide) ?_
      exact rm_zret hc dX1_isLocked_23 rfl ⟨by subst_vars; simp [lockS, *], rfl⟩
    · --F
      refine rm_iconst (v := 1) hc dX1_isLocked_18 (by decide) ?_
      refine rm_goto (tgt := 23) hc dX1_isLocked_19 (by decide) ?_
      exact rm_zret hc dX1_isLocked_23 rfl ⟨by subst_vars; simp [lockS, *], rfl⟩
end
section
theorem irng {a mm : Int32} {n : Nat} (hm : mm = nI n) (hn : n < 2 ^ 31) (h1 : ¬ a < 0) (h2 : ¬ mm ≤ a) : ∃ i : Nat, i < n ∧ a = nI i := by
  rcases pk_ix a hn with h | h | h
  · exact absurd h h1
  · rw [hm] at h2; exact absurd h h2
  · exact h
theorem cpS_pre {x : Mem} {k o k2 o2 a c : Nat} (h : k2 ≠ k) : cpS (cpS x k (o + a) k2 (o2 + a) c) k o k2 o2 a = cpS x k o k2 o2 (a + c) := by
  funext b n
  by_cases hb : b = k
  · subst hb
    by_cases h1 : o ≤ n ∧ n < o + a
    · rw [cpS_in h1.1 h1.2, cpS_b h, cpS_in (by omega) (by omega)]
    · simp only [cpS, true_and, if_neg h1]
      by_cases h2 : o + a ≤ n ∧ n < o + a + c
      · rw [if_pos h2, if_pos (by omega)]
        congr 1; omega
      · rw [if_neg h2, if_neg (by omega)]
  · rw [cpS_b hb, cpS_b hb, cpS_b hb]
def recF (x : Mem) (k : Nat) (num : Int32) : Mem := up (up (shA x k) k 6 num) k 5 (if 8 < x k 5 + 1 then 8 else x k 5 + 1)
def numA (x : Mem) (k : Nat) (q : Int32) : Int32 := if q < 0 then -1 else if x k 5 ≤ q then -1 else if 8 ≤ q then -1 else x k (6 + q.toNatClampNeg)
def valS (x : Mem) (k : Nat) (i : Int32) : Int32 := if i = 0 then x k 0 else if i = 1 then x k 1 else x k 2
def chgS (x : Mem) (k : Nat) (i v : Int32) : Mem := if i = 0 then up x k 0 v else if i = 1 then up x k 1 v else up x k 2 v
theorem so_cp {cy : Nat → ClassId} {ad : Ads} {x : Mem} {k k2 : Nat} (h : k < 7) : SO cy ad x (cpS x k 6 k2 6 8) k 7 0 (.inl (cy 0, 8, .inl (va_cpy (fun i => if i < 8 then x k2 (6 + i) else 0) (fun i => if i < 8 then x k (6 + i) else 0) 0 0 8))) := by
  refine ⟨?_, fun k' c' j' hd hne => EE_congr hd fun b n ho => ?_⟩
  · show Sum.inl _ = Sum.inl _
    congr 4
    funext i
    unfold va_cpy cpS
    by_cases h8 : i < 8
    · rw [if_pos h8, if_pos (by omega), if_pos (by omega)]
      show x k2 (6 + (6 + i - 6)) = if 0 + (i - 0) < 8 then x k2 (6 + (0 + (i - 0))) else 0
      rw [if_pos (by omega)]
      congr 1
      omega
    · rw [if_neg h8, if_neg (by omega)]
      exact (if_neg h8).symm
  · unfold cpS
    rw [if_neg]
    rintro ⟨rfl, h1, h2⟩
    apply hne
    rw [← ho, show n = 6 + (n - 6) by omega]
    exact ow_air (by omega) (by omega)
theorem cpAir {x : Mem} {k k2 : Nat} (h : k2 ≠ k) : up (cpS x k 6 k2 6 8) k 5 (cpS x k 6 k2 6 8 k2 5) = cpS x k 5 k2 5 9 := by
  rw [cpS_1]
  exact cpS_pre (o := 5) (o2 := 5) (a := 1) (c := 8) h
def stp (sc num : Int32) : Nat → Int32 → Nat → Nat
  | 0, _, _ => 0
  | f + 1, c, i => if nu sc (nx c) = num then i + 1 else stp sc num f (nx c) (i + 1)
/-- how far ahead the number is for a slot -/
def stpS (x : Mem) (k d s : Nat) (num : Int32) (m : Nat) : Nat := if x k (36 + 22 * d + 4 * s) = 0 then 0 else stp (x k (37 + 22 * d + 4 * s)) num m (x k (38 + 22 * d + 4 * s)) 0
def ctr (a st : Int32) : Int32 := (a + st) - (a + st) / 10000 * 10000
/-- whether the one that is meant opens -/
abbrev opnS (last noted st w : Int32) : Prop := st ≤ w ∨ (noted ≠ -1 ∧ ctr last st = nx noted)
abbrev takS (x : Mem) (k d s : Nat) (st w : Int32) : Prop := opnS (x k (38 + 22 * d + 4 * s)) (x k (39 + 22 * d + 4 * s)) st w
def tak1 (x : Mem) (k d s : Nat) (st : Int32) : Mem := up (up x k (38 + 22 * d + 4 * s) (ctr (x k (38 + 22 * d + 4 * s)) st)) k (39 + 22 * d + 4 * s) (-1)
def tak0 (x : Mem) (k d s : Nat) (st : Int32) : Mem := up x k (39 + 22 * d + 4 * s) (ctr (x k (38 + 22 * d + 4 * s)) st)
def lrnD (x : Mem) (k d : Nat) : Int32 := 0 + lookSlot x k d 0 0 + lookSlot x k d 1 0 + lookSlot x k d 2 0 + lookSlot x k d 3 0
def lookDoor (x : Mem) (k d : Nat) (lock w : Int32) : Int32 := if w = 0 then (if x k (30 + 22 * d) = 0 then 0 else 1) else if w = 1 then x k (31 + 22 * d) else if w = 2 then (if lockS lock (x k (31 + 22 * d)) = 0 then 0 else 1) else if w = 3 then lrnD x k d else if w = 4 then x k (32 + 22 * d) else if w = 5 then x k (33 + 22 * d) else if w = 6 then x k (34 + 22 * d) else if w = 7 then x k (35 + 22 * d) else -1
def FLG (x : Mem) (k : Nat) : Prop := ∀ d, d < 3 → isFlag (x k (30 + 22 * d)) ∧ ∀ s, s < 4 → isFlag (x k (36 + 22 * d + 4 * s))
theorem nIj {a b : Nat} (h : a + 1 = b) : nI a + Int32.ofInt 1 = nI b := by rw [← h]; exact nI_1 a
theorem so_7 {cy : Nat → ClassId} {ad : Ads} {x : Mem} {v : Int32} {k i : Nat} (h : k < 7) (hi : i < 8) : SO cy ad x (up x k (6 + i) v) k 7 0 (.inl (cy 0, 8, .inl (upd (fun i => if i < 8 then x k (6 + i) else 0) i v))) := by
  refine so_up (ow_air (by omega) hi) ?_
  show Sum.inl _ = Sum.inl _
  congr 4
  funext n
  by_cases hn : n = i
  · subst hn; simp [up, upd, hi]
  · by_cases h8 : n < 8
    · rw [if_pos h8]; simp [up, upd, hn, h8]
    · rw [if_neg h8]; simp [upd, hn, h8]
theorem stp_n {sc num cv : Int32} {f i : Nat} (h : ¬ nu sc (nx cv) = num) : stp sc num (f + 1) cv i = stp sc num f (nx cv) (i + 1) := by simp [stp, h]
theorem stp_y {sc num cv : Int32} {f i : Nat} (h : nu sc (nx cv) = num) : stp sc num (f + 1) cv i = i + 1 := by simp [stp, h]
end
section
abbrev rm_X0_copyFrom : Room := { frames := 1, cells := 0, slots := 0, locals := 40 }
set_option maxHeartbeats 4000000 in
set_option maxRecDepth 100000 in
theorem c_X0_copyFrom {l : Launch} {D : va_G} {cy : Nat → ClassId} {ad : Ads} (hI : IJ ad) (x : Mem) {k k2 : Nat} (hk : k < 7) (hk2 : k2 < 7) (hkk : k2 ≠ k) : Ctv l yX0_copyFrom cX0_copyFrom 2 none rm_X0_copyFrom D cy ad [.ref (ad k 6 0), .ref (ad k2 6 0)] x (fun y => y = cpS x k 5 k2 5 9) := by
  refine rm_entry (Qc := Qv D cy ad (fun y => y = cpS x k 5 k2 5 9)) hI (by decide) (Nat.le_of_ble_eq_true rfl) ?_
  intro p e s m args below meth c hc
  show RM _ _ _ _ _ _ _ _ _ _ _ _ _ _ _ _ _ [(0, .ref (ad k 6 0)), (1, .ref (ad k2 6 0))] []
  refine rm_aload_n hc dX0_copyFrom_0 rfl rfl ?_
  refine rm_get hc dX0_copyFrom_1 fl_X0_9 (dm_6 (by omega)) rfl rfl ?_
  refine rm_iconst (v := 0) hc dX0_copyFrom_4 (by decide) ?_
  refine rm_aload_n hc dX0_copyFrom_5 rfl rfl ?_
  refine rm_get hc dX0_copyFrom_6 fl_X0_9 (dm_6 (by omega)) rfl rfl ?_
  refine rm_iconst (v := 0) hc dX0_copyFrom_9 (by decide) ?_
  refine rm_bipush (v := 8) hc dX0_copyFrom_10 (by decide) ?_
  refine rm_copy (cn := 8) (dp := 0) (sp := 0) hc dX0_copyFrom_12 kl_copy_X0 (Nat.le_of_ble_eq_true rfl) (Nat.le_of_ble_eq_true rfl) (dm_7 (by omega)) (dm_7 (by omega)) rfl rfl (by omega) (by omega) (so_cp (k2 := k2) (by omega)) (rm_nm (fun x_1 ex_1 => ?_))
  refine rm_aload_n hc dX0_copyFrom_15 rfl rfl ?_
  refine rm_aload_n hc dX0_copyFrom_16 rfl rfl ?_
  refine rm_geti hc dX0_copyFrom_17 fl_X0_21 (dm_6 (by omega)) rfl rfl (fun v_2 e_2 => ?_)
  refine rm_put hc dX0_copyFrom_20 fl_X0_21 (dm_6 (by omega)) rfl (Nat.le_of_ble_eq_true rfl) ft_0_1 rfl rfl (so_6_1 (by omega)) (rm_nm (fun x_3 ex_3 => ?_))
  exact rm_vret hc dX0_copyFrom_23 (by subst_vars; exact cpAir hkk)

abbrev rm_X0_record : Room := { frames := 1, cells := 0, slots := 0, locals := 40 }
set_option maxHeartbeats 4000000 in
set_option maxRecDepth 100000 in
theorem c_X0_record {l : Launch} {D : va_G} {cy : Nat → ClassId} {ad : Ads} (hI : IJ ad) (x : Mem) {k : Nat} (hk : k < 7) (num : Int32) : Ctv l yX0_record cX0_record 2 none rm_X0_record D cy ad [.ref (ad k 6 0), .int num] x (fun y => y = recF x k num) := by
  refine rm_entry (Qc := Qv D cy ad (fun y => y = recF x k num)) hI (by decide) (Nat.le_of_ble_eq_true rfl) ?_
  intro p e s m args below meth c hc
  show RM _ _ _ _ _ _ _ _ _ _ _ _ _ _ _ _ _ [(0, .ref (ad k 6 0)), (1, .int num)] []
  refine rm_aload_n hc dX0_record_0 rfl rfl ?_
  refine rm_get hc dX0_record_1 fl_X0_9 (dm_6 (by omega)) rfl rfl ?_
  refine rm_iconst (v := 0) hc dX0_record_4 (by decide) ?_
  refine rm_aload_n hc dX0_record_5 rfl rfl ?_
  refine rm_get hc dX0_record_6 fl_X0_9 (dm_6 (by omega)) rfl rfl ?_
  refine rm_iconst (v := 1) hc dX0_record_9 (by decide) ?_
  refine rm_bipush (v := 7) hc dX0_record_10 (by decide) ?_
  refine rm_copy (cn := 7) (dp := 1) (sp := 0) hc dX0_record_12 kl_copy_X0 (Nat.le_of_ble_eq_true rfl) (Nat.le_of_ble_eq_true rfl) (dm_7 (by omega)) (dm_7 (by omega)) rfl rfl (by omega) (by omega) (so_sh (by omega)) (rm_nm (fun x_1 ex_1 => ?_))
  refine rm_aload_n hc dX0_record_15 rfl rfl ?_
  refine rm_get hc dX0_record_16 fl_X0_9 (dm_6 (by omega)) rfl rfl ?_
  refine rm_iconst (v := 0) hc dX0_record_19 (by decide) ?_
  refine rm_iload_n hc dX0_record_20 rfl rfl ?_
  refine rm_iast (i := 0) hc dX0_record_21 (dm_7 (by omega)) rfl (by omega) (by decide) rfl (so_7 (i := 0) (by omega) (by omega)) (rm_nm (fun x_2 ex_2 => ?_))
  refine rm_aload_n hc dX0_record_22 rfl rfl ?_
  refine rm_aload_n hc dX0_record_23 rfl rfl ?_
  refine rm_geti hc dX0_record_24 fl_X0_21 (dm_6 (by omega)) rfl rfl (fun v_3 e_3 => ?_)
  refine rm_iconst (v := 1) hc dX0_record_27 (by decide) ?_
  refine rm_iadd hc dX0_record_28 (fun v_4 e_4 => ?_)
  refine rm_bipush (v := 8) hc dX0_record_29 (by decide) ?_
  refine rm_min hc dX0_record_31 kl_min_X0 (Nat.le_of_ble_eq_true rfl) (Nat.le_of_ble_eq_true rfl) ⟨Nat.zero_le _, Nat.zero_le _⟩ (fun v_5 e_5 => ?_)
  refine rm_put hc dX0_record_34 fl_X0_21 (dm_6 (by omega)) rfl (Nat.le_of_ble_eq_true rfl) ft_0_1 rfl rfl (so_6_1 (by omega)) (rm_nm (fun x_6 ex_6 => ?_))
  exact rm_vret hc dX0_record_37 (by subst_vars; simp [recF, up, shA])

abbrev rm_X0_number : Room := { frames := 0, cells := 0, slots := 0, locals := 0 }
set_option maxHeartbeats 4000000 in
set_option maxRecDepth 100000 in
theorem c_X0_number {l : Launch} {D : va_G} {cy : Nat → ClassId} {ad : Ads} (hI : IJ ad) (x : Mem) {k : Nat} (hk : k < 7) (w : Int32) : Cti l yX0_number cX0_number 2 (some .int) rm_X0_number D cy ad [.ref (ad k 6 0), .int w] x (fun r y => r = numA x k w ∧ y = x) := by
  refine rm_entry (Qc := Qi D cy ad (fun r y => r = numA x k w ∧ y = x)) hI (by decide) (Nat.le_of_ble_eq_true rfl) ?_
  intro p e s m args below meth c hc
  show RM _ _ _ _ _ _ _ _ _ _ _ _ _ _ _ _ _ [(0, .ref (ad k 6 0)), (1, .int w)] []
  refine rm_iload_n hc dX0_number_0 rfl rfl ?_
  refine rm_if_lt (tgt := 27) hc dX0_number_1 (by decide) (fun c_1 => ?_) (fun c_1 => ?_)
  · --T
    refine rm_iconst (v := -1) hc dX0_number_27 (by decide) ?_
    exact rm_iret hc dX0_number_28 ⟨by subst_vars; simp [numA, nI_clamp, *]; try (rw [nI_clamp (by omega)]), rfl⟩
  · --F
    refine rm_iload_n hc dX0_number_4 rfl rfl ?_
    refine rm_aload_n hc dX0_number_5 rfl rfl ?_
    refine rm_geti hc dX0_number_6 fl_X0_21 (dm_6 (by omega)) rfl rfl (fun v_2 e_2 => ?_)
    refine rm_icmp_ge (tgt := 27) hc dX0_number_9 (by decide) (fun c_3 => ?_) (fun c_3 => ?_)
    · --T
      refine rm_iconst (v := -1) hc dX0_number_27 (by decide) ?_
      exact rm_iret hc dX0_number_28 ⟨by subst_vars; simp [numA, nI_clamp, *]; try (rw [nI_clamp (by omega)]), rfl⟩
    · --F
      refine rm_iload_n hc dX0_number_12 rfl rfl ?_
      refine rm_bipush (v := 8) hc dX0_number_13 (by decide) ?_
      refine rm_icmp_ge (tgt := 27) hc dX0_number_15 (by decide) (fun c_4 => ?_) (fun c_4 => ?_)
      · --T
        refine rm_iconst (v := -1) hc dX0_number_27 (by decide) ?_
        exact rm_iret hc dX0_number_28 ⟨by subst_vars; simp [numA, nI_clamp, *]; try (rw [nI_clamp (by omega)]), rfl⟩
      · --F
        refine rm_aload_n hc dX0_number_18 rfl rfl ?_
        refine rm_get hc dX0_number_19 fl_X0_9 (dm_6 (by omega)) rfl rfl ?_
        refine rm_iload_n hc dX0_number_22 rfl rfl ?_
        obtain ⟨i_5, hi_5, rfl⟩ := irng (n := 8) (mm := 8) rfl (by decide) c_1 c_4
        refine rm_iald (i := i_5) hc dX0_number_23 (dm_7 (by omega)) rfl (by omega) (by decide) rfl (fun v_6 e_6 => ?_)
        replace e_6 : v_6 = x k (6 + i_5) := e_6.trans (if_pos (by omega))
        refine rm_goto (tgt := 28) hc dX0_number_24 (by decide) ?_
        exact rm_iret hc dX0_number_28 ⟨by subst_vars; simp [numA, nI_clamp, *]; try (rw [nI_clamp (by omega)]), rfl⟩

abbrev rm_X4_least : Room := { frames := 0, cells := 0, slots := 0, locals := 0 }
set_option maxHeartbeats 4000000 in
set_option maxRecDepth 100000 in
theorem c_X4_least {l : Launch} {D : va_G} {cy : Nat → ClassId} {ad : Ads} (hI : IJ ad) (x : Mem) (w : Int32) : Cti l yX4_least cX4_least 1 (some .int) rm_X4_least D cy ad [.int w] x (fun r y => r = (if w = 2 then 0 else 1) ∧ y = x) := by
  refine rm_entry (Qc := Qi D cy ad (fun r y => r = (if w = 2 then 0 else 1) ∧ y = x)) hI (by decide) (Nat.le_of_ble_eq_true rfl) ?_
  intro p e s m args below meth c hc
  show RM _ _ _ _ _ _ _ _ _ _ _ _ _ _ _ _ _ [(0, .int w)] []
  refine rm_iload_n hc dX4_least_0 rfl rfl ?_
  refine rm_iconst (v := 2) hc dX4_least_1 (by decide) ?_
  refine rm_icmp_ne (tgt := 9) hc dX4_least_2 (by decide) (fun c_1 => ?_) (fun c_1 => ?_)
  · --T
    refine rm_iconst (v := 1) hc dX4_least_9 (by decide) ?_
    exact rm_iret hc dX4_least_10 ⟨by subst_vars; simp [*], rfl⟩
  · --F
    refine rm_iconst (v := 0) hc dX4_least_5 (by decide) ?_
    refine rm_goto (tgt := 10) hc dX4_least_6 (by decide) ?_
    exact rm_iret hc dX4_least_10 ⟨by subst_vars; simp [*], rfl⟩

abbrev rm_X4_most : Room := { frames := 0, cells := 0, slots := 0, locals := 0 }
set_option maxHeartbeats 4000000 in
set_option maxRecDepth 100000 in
theorem c_X4_most {l : Launch} {D : va_G} {cy : Nat → ClassId} {ad : Ads} (hI : IJ ad) (x : Mem) (w : Int32) : Cti l yX4_most cX4_most 1 (some .int) rm_X4_most D cy ad [.int w] x (fun r y => r = (if w = 0 then 64 else if w = 1 then 500 else 20) ∧ y = x) := by
  refine rm_entry (Qc := Qi D cy ad (fun r y => r = (if w = 0 then 64 else if w = 1 then 500 else 20) ∧ y = x)) hI (by decide) (Nat.le_of_ble_eq_true rfl) ?_
  intro p e s m args below meth c hc
  show RM _ _ _ _ _ _ _ _ _ _ _ _ _ _ _ _ _ [(0, .int w)] []
  refine rm_iload_n hc dX4_most_0 rfl rfl ?_
  by_cases z_1 : w = 0
  · --case 0
    subst z_1
    refine rm_lkup (off := 27) (tgt := 28) hc dX4_most_1 (by decide) (by decide) (by decide) ?_
    refine rm_bipush (v := 64) hc dX4_most_28 (by decide) ?_
    exact rm_iret hc dX4_most_30 ⟨by subst_vars; simp [*], rfl⟩
  by_cases z_2 : w = 1
  · --case 1
    subst z_2
    refine rm_lkup (off := 30) (tgt := 31) hc dX4_most_1 (by decide) (by decide) (by decide) ?_
    refine rm_sipush (v := 500) hc dX4_most_31 (by decide) ?_
    exact rm_iret hc dX4_most_34 ⟨by subst_vars; simp [*], rfl⟩
  refine rm_lkup (off := 34) (tgt := 35) hc dX4_most_1 (by decide) ((lv_osw (k := 0) z_1 (by decide)).trans ((lv_osw (k := 1) z_2 (by decide)).trans rfl)) (by decide) ?_
  refine rm_bipush (v := 20) hc dX4_most_35 (by decide) ?_
  exact rm_iret hc dX4_most_37 ⟨by subst_vars; simp [*], rfl⟩

abbrev rm_X4_value : Room := { frames := 0, cells := 0, slots := 0, locals := 0 }
set_option maxHeartbeats 4000000 in
set_option maxRecDepth 100000 in
theorem c_X4_value {l : Launch} {D : va_G} {cy : Nat → ClassId} {ad : Ads} (hI : IJ ad) (x : Mem) {k : Nat} (hk : k < 7) (w : Int32) : Cti l yX4_value cX4_value 2 (some .int) rm_X4_value D cy ad [.ref (ad k 8 0), .int w] x (fun r y => r = valS x k w ∧ y = x) := by
  refine rm_entry (Qc := Qi D cy ad (fun r y => r = valS x k w ∧ y = x)) hI (by decide) (Nat.le_of_ble_eq_true rfl) ?_
  intro p e s m args below meth c hc
  show RM _ _ _ _ _ _ _ _ _ _ _ _ _ _ _ _ _ [(0, .ref (ad k 8 0)), (1, .int w)] []
  refine rm_iload_n hc dX4_value_0 rfl rfl ?_
  by_cases z_1 : w = 0
  · --case 0
    subst z_1
    refine rm_lkup (off := 27) (tgt := 28) hc dX4_value_1 (by decide) (by decide) (by decide) ?_
    refine rm_aload_n hc dX4_value_28 rfl rfl ?_
    refine rm_geti hc dX4_value_29 fl_X4_7 (dm_8 (by omega)) rfl rfl (fun v_2 e_2 => ?_)
    exact rm_iret hc dX4_value_32 ⟨by subst_vars; simp [valS, *], rfl⟩
  by_cases z_3 : w = 1
  · --case 1
    subst z_3
    refine rm_lkup (off := 32) (tgt := 33) hc dX4_value_1 (by decide) (by decide) (by decide) ?_
    refine rm_aload_n hc dX4_value_33 rfl rfl ?_
    refine rm_geti hc dX4_value_34 fl_X4_13 (dm_8 (by omega)) rfl rfl (fun v_4 e_4 => ?_)
    exact rm_iret hc dX4_value_37 ⟨by subst_vars; simp [valS, *], rfl⟩
  refine rm_lkup (off := 37) (tgt := 38) hc dX4_value_1 (by decide) ((lv_osw (k := 0) z_1 (by decide)).trans ((lv_osw (k := 1) z_3 (by decide)).trans rfl)) (by decide) ?_
  refine rm_aload_n hc dX4_value_38 rfl rfl ?_
  refine rm_geti hc dX4_value_39 fl_X4_16 (dm_8 (by omega)) rfl rfl (fun v_5 e_5 => ?_)
  exact rm_iret hc dX4_value_42 ⟨by subst_vars; simp [valS, *], rfl⟩

abbrev rm_X4_change : Room := { frames := 0, cells := 0, slots := 0, locals := 0 }
set_option maxHeartbeats 4000000 in
set_option maxRecDepth 100000 in
theorem c_X4_change {l : Launch} {D : va_G} {cy : Nat → ClassId} {ad : Ads} (hI : IJ ad) (x : Mem) {k : Nat} (hk : k < 7) (w v : Int32) : Ctv l yX4_change cX4_change 3 none rm_X4_change D cy ad [.ref (ad k 8 0), .int w, .int v] x (fun y => y = chgS x k w v) := by
  refine rm_entry (Qc := Qv D cy ad (fun y => y = chgS x k w v)) hI (by decide) (Nat.le_of_ble_eq_true rfl) ?_
  intro p e s m args below meth c hc
  show RM _ _ _ _ _ _ _ _ _ _ _ _ _ _ _ _ _ [(0, .ref (ad k 8 0)), (1, .int w), (2, .int v)] []
  refine rm_iload_n hc dX4_change_0 rfl rfl ?_
  by_cases z_1 : w = 0
  · --case 0
    subst z_1
    refine rm_lkup (off := 27) (tgt := 28) hc dX4_change_1 (by decide) (by decide) (by decide) ?_
    refine rm_aload_n hc dX4_change_28 rfl rfl ?_
    refine rm_iload_n hc dX4_change_29 rfl rfl ?_
    refine rm_put hc dX4_change_30 fl_X4_7 (dm_8 (by omega)) rfl (Nat.le_of_ble_eq_true rfl) ft_4_0 rfl rfl (so_8_0 (by omega)) (rm_nm (fun x_2 ex_2 => ?_))
    refine rm_goto (tgt := 49) hc dX4_change_33 (by decide) ?_
    exact rm_vret hc dX4_change_49 (by subst_vars; simp [chgS, *])
  by_cases z_3 : w = 1
  · --case 1
    subst z_3
    refine rm_lkup (off := 35) (tgt := 36) hc dX4_change_1 (by decide) (by decide) (by decide) ?_
    refine rm_aload_n hc dX4_change_36 rfl rfl ?_
    refine rm_iload_n hc dX4_change_37 rfl rfl ?_
    refine rm_put hc dX4_change_38 fl_X4_13 (dm_8 (by omega)) rfl (Nat.le_of_ble_eq_true rfl) ft_4_1 rfl rfl (so_8_1 (by omega)) (rm_nm (fun x_4 ex_4 => ?_))
    refine rm_goto (tgt := 49) hc dX4_change_41 (by decide) ?_
    exact rm_vret hc dX4_change_49 (by subst_vars; simp [chgS, *])
  refine rm_lkup (off := 43) (tgt := 44) hc dX4_change_1 (by decide) ((lv_osw (k := 0) z_1 (by decide)).trans ((lv_osw (k := 1) z_3 (by decide)).trans rfl)) (by decide) ?_
  refine rm_aload_n hc dX4_change_44 rfl rfl ?_
  refine rm_iload_n hc dX4_change_45 rfl rfl ?_
  refine rm_put hc dX4_change_46 fl_X4_16 (dm_8 (by omega)) rfl (Nat.le_of_ble_eq_true rfl) ft_4_2 rfl rfl (so_8_2 (by omega)) (rm_nm (fun x_5 ex_5 => ?_))
  exact rm_vret hc dX4_change_49 (by subst_vars; simp [chgS, *])

abbrev rm_X4_copyFrom : Room := { frames := 0, cells := 0, slots := 0, locals := 0 }
set_option maxHeartbeats 4000000 in
set_option maxRecDepth 100000 in
theorem c_X4_copyFrom {l : Launch} {D : va_G} {cy : Nat → ClassId} {ad : Ads} (hI : IJ ad) (x : Mem) {k k2 : Nat} (hk : k < 7) (hk2 : k2 < 7) (hkk : k2 ≠ k) : Ctv l yX4_copyFrom cX4_copyFrom 2 none rm_X4_copyFrom D cy ad [.ref (ad k 8 0), .ref (ad k2 8 0)] x (fun y => y = cpS x k 0 k2 0 3) := by
  refine rm_entry (Qc := Qv D cy ad (fun y => y = cpS x k 0 k2 0 3)) hI (by decide) (Nat.le_of_ble_eq_true rfl) ?_
  intro p e s m args below meth c hc
  show RM _ _ _ _ _ _ _ _ _ _ _ _ _ _ _ _ _ [(0, .ref (ad k 8 0)), (1, .ref (ad k2 8 0))] []
  refine rm_aload_n hc dX4_copyFrom_0 rfl rfl ?_
  refine rm_aload_n hc dX4_copyFrom_1 rfl rfl ?_
  refine rm_geti hc dX4_copyFrom_2 fl_X4_7 (dm_8 (by omega)) rfl rfl (fun v_1 e_1 => ?_)
  refine rm_put hc dX4_copyFrom_5 fl_X4_7 (dm_8 (by omega)) rfl (Nat.le_of_ble_eq_true rfl) ft_4_0 rfl rfl (so_8_0 (by omega)) (rm_nm (fun x_2 ex_2 => ?_))
  refine rm_aload_n hc dX4_copyFrom_8 rfl rfl ?_
  refine rm_aload_n hc dX4_copyFrom_9 rfl rfl ?_
  refine rm_geti hc dX4_copyFrom_10 fl_X4_13 (dm_8 (by omega)) rfl rfl (fun v_3 e_3 => ?_)
  refine rm_put hc dX4_copyFrom_13 fl_X4_13 (dm_8 (by omega)) rfl (Nat.le_of_ble_eq_true rfl) ft_4_1 rfl rfl (so_8_1 (by omega)) (rm_nm (fun x_4 ex_4 => ?_))
  refine rm_aload_n hc dX4_copyFrom_16 rfl rfl ?_
  refine rm_aload_n hc dX4_copyFrom_17 rfl rfl ?_
  refine rm_geti hc dX4_copyFrom_18 fl_X4_16 (dm_8 (by omega)) rfl rfl (fun v_5 e_5 => ?_)
  refine rm_put hc dX4_copyFrom_21 fl_X4_16 (dm_8 (by omega)) rfl (Nat.le_of_ble_eq_true rfl) ft_4_2 rfl rfl (so_8_2 (by omega)) (rm_nm (fun x_6 ex_6 => ?_))
  exact rm_vret hc dX4_copyFrom_24 (by subst_vars; exact cpn_3 (o := 0) (o2 := 0) hkk)

abbrev rm_X5_stepsTo : Room := { frames := 1, cells := 0, slots := 0, locals := 21 }
set_option maxHeartbeats 4000000 in
set_option maxRecDepth 100000 in
theorem c_X5_stepsTo {l : Launch} {D : va_G} {cy : Nat → ClassId} {ad : Ads} (hI : IJ ad) (x : Mem) {k d s0 : Nat} (hk : k < 8) (hd3 : d < 3) (hs : s0 < 4) (hkd : k = 7 → d = 0) (num : Int32) (mm : Nat) (hmm : mm < 2 ^ 30) : Cti l yX5_stepsTo cX5_stepsTo 5 (some .int) rm_X5_stepsTo D cy ad [.ref (ad k (d + 20) s0), .int num, .int (nI (mm))] x (fun r y => r = nI (stpS x k d s0 num mm) ∧ y = x) := by
  refine rm_entry (Qc := Qi D cy ad (fun r y => r = nI (stpS x k d s0 num mm) ∧ y = x)) hI (by decide) (Nat.le_of_ble_eq_true rfl) ?_
  intro p e s m args below meth c hc
  show RM _ _ _ _ _ _ _ _ _ _ _ _ _ _ _ _ _ [(0, .ref (ad k (d + 20) s0)), (1, .int num), (2, .int (nI (mm)))] []
  refine rm_aload_n hc dX5_stepsTo_0 rfl rfl ?_
  refine rm_geti hc dX5_stepsTo_1 fl_X5_21 (dm_s (d := d) (by omega) (by omega) (by omega) (by omega)) rfl rfl (fun v_1 e_1 => ?_)
  refine rm_if_ne (tgt := 9) hc dX5_stepsTo_4 (by decide) (fun c_2 => ?_) (fun c_2 => ?_)
  · --T
    refine rm_aload_n hc dX5_stepsTo_9 rfl rfl ?_
    refine rm_geti hc dX5_stepsTo_10 fl_X5_15 (dm_s (d := d) (by omega) (by omega) (by omega) (by omega)) rfl rfl (fun v_3 e_3 => ?_)
    refine rm_istore_n (ls' := [(0, .ref (ad k (d + 20) s0)), (1, .int num), (2, .int (nI (mm))), (3, .int v_3)]) hc dX5_stepsTo_13 rfl (by decide) rfl ?_
    refine rm_iconst (v := 1) hc dX5_stepsTo_14 (by decide) ?_
    refine rm_istore (ls' := [(0, .ref (ad k (d + 20) s0)), (1, .int num), (2, .int (nI (mm))), (3, .int v_3), (4, .int 1)]) hc dX5_stepsTo_15 (by decide) rfl ?_
    have key : ∀ (f i : Nat) (cv : Int32), i + f = mm → stp (x k (37 + 22 * d + 4 * s0)) num f cv i = stpS x k d s0 num mm → RM p l e rm_X5_stepsTo s m args below meth c 5 (AA ad s.heap.size) (GG D cy ad x) 0 0 (QQ (Qi D cy ad (fun r y => r = nI (stpS x k d s0 num mm) ∧ y = x)) below args s ad) 17 [(0, .ref (ad k (d + 20) s0)), (1, .int num), (2, .int (nI (mm))), (3, .int cv), (4, .int (nI (i + 1)))] [] := by
      intro f
      induction f with
      | zero =>
        intro i cv hif hst
        refine rm_iload hc dX5_stepsTo_17 rfl ?_
        refine rm_iload_n hc dX5_stepsTo_19 rfl rfl ?_
        refine rm_icmp_gt (tgt := 49) hc dX5_stepsTo_20 (by decide) (fun _ => ?_) (fun h => absurd (nI_lt (a := mm) (b := i + 1) (by omega) (by omega)) h)
        refine rm_iconst (v := 0) hc dX5_stepsTo_49 (by decide) ?_
        exact rm_iret hc dX5_stepsTo_50 ⟨by rw [← hst]; rfl, rfl⟩
      | succ f ih =>
        intro i cv hif hst
        refine rm_iload hc dX5_stepsTo_17 rfl ?_
        refine rm_iload_n hc dX5_stepsTo_19 rfl rfl ?_
        refine rm_icmp_gt (tgt := 49) hc dX5_stepsTo_20 (by decide) (fun h => absurd h (nI_nlt (a := mm) (b := i + 1) (by omega) (by omega))) (fun _ => ?_)
        refine rm_iload_n hc dX5_stepsTo_23 rfl rfl ?_
        refine rm_calliN (As := [.int cv]) (rest := []) hc dX5_stepsTo_24 (c_X8_counterBehind hI x cv) mn_X5_31 (hn := rfl) (hst := rfl) (hw := Nat.le_of_ble_eq_true rfl) (hR := ⟨⟨rfl, rfl⟩, Nat.le_of_ble_eq_true rfl, Nat.le_of_ble_eq_true rfl⟩) (hnc := ⟨Nat.zero_le _, Nat.zero_le _⟩) (fun r_6 y_6 h_6 => ?_)
        obtain ⟨e_6, ey_6⟩ := h_6
        obtain rfl := ey_6.symm
        refine rm_istore_n (ls' := [(0, .ref (ad k (d + 20) s0)), (1, .int num), (2, .int (nI (mm))), (3, .int r_6), (4, .int (nI (i + 1)))]) hc dX5_stepsTo_27 rfl (by decide) rfl ?_
        refine rm_aload_n hc dX5_stepsTo_28 rfl rfl ?_
        refine rm_geti hc dX5_stepsTo_29 fl_X5_9 (dm_s (d := d) (by omega) (by omega) (by omega) (by omega)) rfl rfl (fun v_7 e_7 => ?_)
        refine rm_iload_n hc dX5_stepsTo_32 rfl rfl ?_
        refine rm_calliN (As := [.int v_7, .int r_6]) (rest := []) hc dX5_stepsTo_33 (c_X8_numberOf hI x v_7 r_6) mn_X5_35 (hn := rfl) (hst := rfl) (hw := Nat.le_of_ble_eq_true rfl) (hR := ⟨⟨rfl, rfl⟩, Nat.le_of_ble_eq_true rfl, Nat.le_of_ble_eq_true rfl⟩) (hnc := ⟨Nat.zero_le _, Nat.zero_le _⟩) (fun r_8 y_8 h_8 => ?_)
        obtain ⟨e_8, ey_8⟩ := h_8
        obtain rfl := ey_8.symm
        refine rm_iload_n hc dX5_stepsTo_36 rfl rfl ?_
        refine rm_icmp_ne (tgt := 43) hc dX5_stepsTo_37 (by decide) (fun c_9 => ?_) (fun c_9 => ?_)
        · --T
          refine rm_iinc (v := (nI (i + 2))) (ls' := [(0, .ref (ad k (d + 20) s0)), (1, .int num), (2, .int (nI (mm))), (3, .int r_6), (4, .int (nI (i + 2)))]) hc dX5_stepsTo_43 rfl (nIj (by omega)) (by decide) rfl ?_
          refine rm_goto (tgt := 17) hc dX5_stepsTo_46 (by decide) ?_
          exact ih (i + 1) _ (by omega) (by rw [← hst, stp_n (by subst_vars; assumption)]; subst_vars; rfl)
        · --F
          refine rm_iload hc dX5_stepsTo_40 rfl ?_
          exact rm_iret hc dX5_stepsTo_42 ⟨by rw [← hst, stp_y (by subst_vars; first | assumption | rfl)], rfl⟩
    exact key mm 0 _ (by omega) (by unfold stpS; rw [if_neg (by subst_vars; assumption)]; subst_vars; rfl)
  · --F
    refine rm_iconst (v := 0) hc dX5_stepsTo_7 (by decide) ?_
    exact rm_iret hc dX5_stepsTo_8 ⟨by unfold stpS; rw [if_pos (by subst_vars; assumption)]; rfl, rfl⟩

abbrev rm_X5_take : Room := { frames := 1, cells := 0, slots := 0, locals := 20 }
set_option maxHeartbeats 4000000 in
set_option maxRecDepth 100000 in
theorem c_X5_take {l : Launch} {D : va_G} {cy : Nat → ClassId} {ad : Ads} (hI : IJ ad) (x : Mem) {k d s0 : Nat} (hk : k < 8) (hd3 : d < 3) (hs : s0 < 4) (hkd : k = 7 → d = 0) (a w : Int32) : Cti l yX5_take cX5_take 4 (some .boolean) rm_X5_take D cy ad [.ref (ad k (d + 20) s0), .int a, .int w] x (fun r y => r = (if takS x k d s0 a w then 1 else 0) ∧ y = (if takS x k d s0 a w then tak1 x k d s0 a else tak0 x k d s0 a)) := by
  refine rm_entry (Qc := Qi D cy ad (fun r y => r = (if takS x k d s0 a w then 1 else 0) ∧ y = (if takS x k d s0 a w then tak1 x k d s0 a else tak0 x k d s0 a))) hI (by decide) (Nat.le_of_ble_eq_true rfl) ?_
  intro p e s m args below meth c hc
  show RM _ _ _ _ _ _ _ _ _ _ _ _ _ _ _ _ _ [(0, .ref (ad k (d + 20) s0)), (1, .int a), (2, .int w)] []
  refine rm_aload_n hc dX5_take_0 rfl rfl ?_
  refine rm_geti hc dX5_take_1 fl_X5_15 (dm_s (d := d) (by omega) (by omega) (by omega) (by omega)) rfl rfl (fun v_1 e_1 => ?_)
  refine rm_iload_n hc dX5_take_4 rfl rfl ?_
  refine rm_iadd hc dX5_take_5 (fun v_2 e_2 => ?_)
  refine rm_sipush (v := 10000) hc dX5_take_6 (by decide) ?_
  refine rm_irem hc dX5_take_9 (by decide) (fun v_3 e_3 => ?_)
  refine rm_istore_n (ls' := [(0, .ref (ad k (d + 20) s0)), (1, .int a), (2, .int w), (3, .int v_3)]) hc dX5_take_10 rfl (by decide) rfl ?_
  refine rm_iload_n hc dX5_take_11 rfl rfl ?_
  refine rm_iload_n hc dX5_take_12 rfl rfl ?_
  refine rm_icmp_le (tgt := 35) hc dX5_take_13 (by decide) (fun c_4 => ?_) (fun c_4 => ?_)
  · --T
    refine rm_aload_n hc dX5_take_35 rfl rfl ?_
    refine rm_iload_n hc dX5_take_36 rfl rfl ?_
    refine rm_put hc dX5_take_37 fl_X5_15 (dm_s (d := d) (by omega) (by omega) (by omega) (by omega)) rfl (Nat.le_of_ble_eq_true rfl) ft_5_2 rfl rfl (so_s_2 (d := d) (by omega) (by omega) (by omega)) (rm_nm (fun x_5 ex_5 => ?_))
    refine rm_aload_n hc dX5_take_40 rfl rfl ?_
    refine rm_iconst (v := -1) hc dX5_take_41 (by decide) ?_
    refine rm_put hc dX5_take_42 fl_X5_18 (dm_s (d := d) (by omega) (by omega) (by omega) (by omega)) rfl (Nat.le_of_ble_eq_true rfl) ft_5_3 rfl rfl (so_s_3 (d := d) (by omega) (by omega) (by omega)) (rm_nm (fun x_6 ex_6 => ?_))
    refine rm_iconst (v := 1) hc dX5_take_45 (by decide) ?_
    exact rm_zret hc dX5_take_46 rfl ⟨by rw [if_pos (by unfold takS opnS; subst_vars; first | exact Or.inl (by assumption) | exact Or.inr ⟨by assumption, by assumption⟩)], by rw [if_pos (by unfold takS opnS; subst_vars; first | exact Or.inl (by assumption) | exact Or.inr ⟨by assumption, by assumption⟩)]; subst_vars; simp [tak1, up, ctr]⟩
  · --F
    refine rm_aload_n hc dX5_take_16 rfl rfl ?_
    refine rm_geti hc dX5_take_17 fl_X5_18 (dm_s (d := d) (by omega) (by omega) (by omega) (by omega)) rfl rfl (fun v_7 e_7 => ?_)
    refine rm_iconst (v := -1) hc dX5_take_20 (by decide) ?_
    refine rm_icmp_eq (tgt := 47) hc dX5_take_21 (by decide) (fun c_8 => ?_) (fun c_8 => ?_)
    · --T
      refine rm_aload_n hc dX5_take_47 rfl rfl ?_
      refine rm_iload_n hc dX5_take_48 rfl rfl ?_
      refine rm_put hc dX5_take_49 fl_X5_18 (dm_s (d := d) (by omega) (by omega) (by omega) (by omega)) rfl (Nat.le_of_ble_eq_true rfl) ft_5_3 rfl rfl (so_s_3 (d := d) (by omega) (by omega) (by omega)) (rm_nm (fun x_9 ex_9 => ?_))
      refine rm_iconst (v := 0) hc dX5_take_52 (by decide) ?_
      exact rm_zret hc dX5_take_53 rfl ⟨by rw [if_neg (by unfold takS opnS; subst_vars; rintro (h1 | ⟨h1, h2⟩) <;> first | contradiction | exact absurd (by assumption) h1)], by rw [if_neg (by unfold takS opnS; subst_vars; rintro (h1 | ⟨h1, h2⟩) <;> first | contradiction | exact absurd (by assumption) h1)]; subst_vars; rfl⟩
    · --F
      refine rm_iload_n hc dX5_take_24 rfl rfl ?_
      refine rm_aload_n hc dX5_take_25 rfl rfl ?_
      refine rm_geti hc dX5_take_26 fl_X5_18 (dm_s (d := d) (by omega) (by omega) (by omega) (by omega)) rfl rfl (fun v_10 e_10 => ?_)
      refine rm_calliN (As := [.int v_10]) (rest := [.int v_3]) hc dX5_take_29 (c_X8_counterBehind hI x v_10) mn_X5_31 (hn := rfl) (hst := rfl) (hw := Nat.le_of_ble_eq_true rfl) (hR := ⟨⟨rfl, rfl⟩, Nat.le_of_ble_eq_true rfl, Nat.le_of_ble_eq_true rfl⟩) (hnc := ⟨Nat.zero_le _, Nat.zero_le _⟩) (fun r_11 y_11 h_11 => ?_)
      obtain ⟨e_11, ey_11⟩ := h_11
      obtain rfl := ey_11.symm
      refine rm_icmp_ne (tgt := 47) hc dX5_take_32 (by decide) (fun c_12 => ?_) (fun c_12 => ?_)
      · --T
        refine rm_aload_n hc dX5_take_47 rfl rfl ?_
        refine rm_iload_n hc dX5_take_48 rfl rfl ?_
        refine rm_put hc dX5_take_49 fl_X5_18 (dm_s (d := d) (by omega) (by omega) (by omega) (by omega)) rfl (Nat.le_of_ble_eq_true rfl) ft_5_3 rfl rfl (so_s_3 (d := d) (by omega) (by omega) (by omega)) (rm_nm (fun x_13 ex_13 => ?_))
        refine rm_iconst (v := 0) hc dX5_take_52 (by decide) ?_
        exact rm_zret hc dX5_take_53 rfl ⟨by rw [if_neg (by unfold takS opnS; subst_vars; rintro (h1 | ⟨h1, h2⟩) <;> first | contradiction | exact absurd (by assumption) h1)], by rw [if_neg (by unfold takS opnS; subst_vars; rintro (h1 | ⟨h1, h2⟩) <;> first | contradiction | exact absurd (by assumption) h1)]; subst_vars; rfl⟩
      · --F
        refine rm_aload_n hc dX5_take_35 rfl rfl ?_
        refine rm_iload_n hc dX5_take_36 rfl rfl ?_
        refine rm_put hc dX5_take_37 fl_X5_15 (dm_s (d := d) (by omega) (by omega) (by omega) (by omega)) rfl (Nat.le_of_ble_eq_true rfl) ft_5_2 rfl rfl (so_s_2 (d := d) (by omega) (by omega) (by omega)) (rm_nm (fun x_14 ex_14 => ?_))
        refine rm_aload_n hc dX5_take_40 rfl rfl ?_
        refine rm_iconst (v := -1) hc dX5_take_41 (by decide) ?_
        refine rm_put hc dX5_take_42 fl_X5_18 (dm_s (d := d) (by omega) (by omega) (by omega) (by omega)) rfl (Nat.le_of_ble_eq_true rfl) ft_5_3 rfl rfl (so_s_3 (d := d) (by omega) (by omega) (by omega)) (rm_nm (fun x_15 ex_15 => ?_))
        refine rm_iconst (v := 1) hc dX5_take_45 (by decide) ?_
        exact rm_zret hc dX5_take_46 rfl ⟨by rw [if_pos (by unfold takS opnS; subst_vars; first | exact Or.inl (by assumption) | exact Or.inr ⟨by assumption, by assumption⟩)], by rw [if_pos (by unfold takS opnS; subst_vars; first | exact Or.inl (by assumption) | exact Or.inr ⟨by assumption, by assumption⟩)]; subst_vars; simp [tak1, up, ctr]⟩
end
section
theorem stp_le {sc num : Int32} : ∀ (f : Nat) (cv : Int32) (i : Nat), stp sc num f cv i ≤ i + f
  | 0, _, _ => Nat.zero_le _
  | f + 1, cv, i => by
    unfold stp
    split
    · omega
    · have := stp_le (sc := sc) (num := num) f (nx cv) (i + 1)
      omega
theorem stpS_le {x : Mem} {k d s : Nat} {num : Int32} {mm : Nat} : stpS x k d s num mm ≤ mm := by
  unfold stpS
  split
  · exact Nat.zero_le _
  · have := stp_le (sc := x k (37 + 22 * d + 4 * s)) (num := num) mm (x k (38 + 22 * d + 4 * s)) 0
    omega
def mt (x : Mem) (k d : Nat) (num : Int32) (mm : Nat) : Nat → Nat → Nat × Nat
  | 0, _ => (4, 0)
  | f + 1, s => if stpS x k d s num mm = 0 then mt x k d num mm f (s + 1) else (s, stpS x k d s num mm)
/-- the slot that is meant (4: none) and how far ahead -/
def mean (x : Mem) (k d : Nat) (num : Int32) (mm : Nat) : Nat × Nat := mt x k d num mm 4 0
theorem mean_0 {x : Mem} {k d : Nat} {num : Int32} {mm : Nat} (h : stpS x k d 0 num mm ≠ 0) : mean x k d num mm = (0, stpS x k d 0 num mm) := by simp [mean, mt, h]
theorem mean_1 {x : Mem} {k d : Nat} {num : Int32} {mm : Nat} (h0 : stpS x k d 0 num mm = 0) (h : stpS x k d 1 num mm ≠ 0) : mean x k d num mm = (1, stpS x k d 1 num mm) := by simp [mean, mt, h0, h]
theorem mean_2 {x : Mem} {k d : Nat} {num : Int32} {mm : Nat} (h0 : stpS x k d 0 num mm = 0) (h1 : stpS x k d 1 num mm = 0) (h : stpS x k d 2 num mm ≠ 0) : mean x k d num mm = (2, stpS x k d 2 num mm) := by simp [mean, mt, h0, h1, h]
theorem mean_3 {x : Mem} {k d : Nat} {num : Int32} {mm : Nat} (h0 : stpS x k d 0 num mm = 0) (h1 : stpS x k d 1 num mm = 0) (h2 : stpS x k d 2 num mm = 0) (h : stpS x k d 3 num mm ≠ 0) : mean x k d num mm = (3, stpS x k d 3 num mm) := by simp [mean, mt, h0, h1, h2, h]
theorem mean_4 {x : Mem} {k d : Nat} {num : Int32} {mm : Nat} (h0 : stpS x k d 0 num mm = 0) (h1 : stpS x k d 1 num mm = 0) (h2 : stpS x k d 2 num mm = 0) (h3 : stpS x k d 3 num mm = 0) : mean x k d num mm = (4, 0) := by simp [mean, mt, h0, h1, h2, h3]
/-- what a door does with a number: 0 it opens, 1 it notes, 2 it is wrong, 3 it is locked -/
def hrR (x : Mem) (k d k2 : Nat) (num : Int32) (mm : Nat) : Int32 :=
  if lockS (x k2 2) (x k (31 + 22 * d)) ≠ 0 then 3 else if (mean x k d num mm).1 = 4 then 2
  else if takS x k d (mean x k d num mm).1 (nI (mean x k d num mm).2) (x k2 0) then 0 else 1
def opnM (z : Mem) (k d : Nat) : Mem := up (up (up z k (30 + 22 * d) 1) k (32 + 22 * d) (z k (32 + 22 * d) + 1)) k (31 + 22 * d) 0
def hrM (x : Mem) (k d k2 : Nat) (num : Int32) (mm : Nat) : Mem :=
  if lockS (x k2 2) (x k (31 + 22 * d)) ≠ 0 then up x k (35 + 22 * d) (x k (35 + 22 * d) + 1)
  else if (mean x k d num mm).1 = 4 then up (up x k (31 + 22 * d) (x k (31 + 22 * d) + 1)) k (34 + 22 * d) (x k (34 + 22 * d) + 1)
  else if takS x k d (mean x k d num mm).1 (nI (mean x k d num mm).2) (x k2 0) then opnM (tak1 x k d (mean x k d num mm).1 (nI (mean x k d num mm).2)) k d
  else up (tak0 x k d (mean x k d num mm).1 (nI (mean x k d num mm).2)) k (33 + 22 * d) (x k (33 + 22 * d) + 1)
theorem hr_3 {x : Mem} {k d k2 : Nat} {num : Int32} {mm : Nat} (hL : ¬ lockS (x k2 2) (x k (31 + 22 * d)) = 0) : hrR x k d k2 num mm = 3 ∧ hrM x k d k2 num mm = up x k (35 + 22 * d) (x k (35 + 22 * d) + 1) := by
  unfold hrR hrM
  rw [if_pos hL, if_pos hL]
  exact ⟨rfl, rfl⟩
theorem hr_2 {x : Mem} {k d k2 : Nat} {num : Int32} {mm : Nat} (hL : lockS (x k2 2) (x k (31 + 22 * d)) = 0) (hM : mean x k d num mm = (4, 0)) : hrR x k d k2 num mm = 2 ∧ hrM x k d k2 num mm = up (up x k (31 + 22 * d) (x k (31 + 22 * d) + 1)) k (34 + 22 * d) (x k (34 + 22 * d) + 1) := by
  refine ⟨?_, ?_⟩
  · unfold hrR
    rw [if_neg (fun h => h hL), hM]
    rfl
  · unfold hrM
    rw [if_neg (fun h => h hL), hM]
    rfl
theorem hr_0 {x : Mem} {k d k2 s t : Nat} {num : Int32} {mm : Nat} (hL : lockS (x k2 2) (x k (31 + 22 * d)) = 0) (hM : mean x k d num mm = (s, t)) (hs : s < 4) (hT : takS x k d s (nI t) (x k2 0)) : hrR x k d k2 num mm = 0 ∧ hrM x k d k2 num mm = opnM (tak1 x k d s (nI t)) k d := by
  have h4 : ¬ (s, t).1 = 4 := (by omega : ¬ s = 4)
  refine ⟨?_, ?_⟩
  · unfold hrR
    rw [if_neg (fun h => h hL), hM, if_neg h4, if_pos hT]
  · unfold hrM
    rw [if_neg (fun h => h hL), hM, if_neg h4, if_pos hT]
theorem hr_1 {x : Mem} {k d k2 s t : Nat} {num : Int32} {mm : Nat} (hL : lockS (x k2 2) (x k (31 + 22 * d)) = 0) (hM : mean x k d num mm = (s, t)) (hs : s < 4) (hT : ¬ takS x k d s (nI t) (x k2 0)) : hrR x k d k2 num mm = 1 ∧ hrM x k d k2 num mm = up (tak0 x k d s (nI t)) k (33 + 22 * d) (x k (33 + 22 * d) + 1) := by
  have h4 : ¬ (s, t).1 = 4 := (by omega : ¬ s = 4)
  refine ⟨?_, ?_⟩
  · unfold hrR
    rw [if_neg (fun h => h hL), hM, if_neg h4, if_neg hT]
  · unfold hrM
    rw [if_neg (fun h => h hL), hM, if_neg h4, if_neg hT]
theorem cpDoor {x : Mem} {k k2 o o2 : Nat} (h : k2 ≠ k) : cpS (cpS (cpS (cpS (cpS x k (o + 6) k2 (o2 + 6) 4) k (o + 10) k2 (o2 + 10) 4) k (o + 14) k2 (o2 + 14) 4) k (o + 18) k2 (o2 + 18) 4) k o k2 o2 6 = cpS x k o k2 o2 22 := by
  have e1 := cpS_app (x := x) (k := k) (o := o + 6) (k2 := k2) (o2 := o2 + 6) (a := 4) (c := 4) h
  have e2 := cpS_app (x := x) (k := k) (o := o + 6) (k2 := k2) (o2 := o2 + 6) (a := 8) (c := 4) h
  have e3 := cpS_app (x := x) (k := k) (o := o + 6) (k2 := k2) (o2 := o2 + 6) (a := 12) (c := 4) h
  have e4 := cpS_pre (x := x) (k := k) (o := o) (k2 := k2) (o2 := o2) (a := 6) (c := 16) h
  rw [show o + 10 = o + 6 + 4 by omega, show o2 + 10 = o2 + 6 + 4 by omega, e1, show o + 14 = o + 6 + 8 by omega, show o2 + 14 = o2 + 6 + 8 by omega, e2, show o + 18 = o + 6 + 12 by omega, show o2 + 18 = o2 + 6 + 12 by omega, e3, e4]
theorem cpState {x : Mem} {k k2 : Nat} (h : k2 ≠ k) : cpS (cpS (cpS (cpS (cpS (cpS (cpS (cpS (cpS x k 14 k2 14 4) k 18 k2 18 4) k 22 k2 22 4) k 26 k2 26 4) k 30 k2 30 22) k 52 k2 52 22) k 74 k2 74 22) k 5 k2 5 9) k 0 k2 0 5 = cpS x k 0 k2 0 96 := by
  have e1 := cpS_app (x := x) (k := k) (o := 14) (k2 := k2) (o2 := 14) (a := 4) (c := 4) h
  have e2 := cpS_app (x := x) (k := k) (o := 14) (k2 := k2) (o2 := 14) (a := 8) (c := 4) h
  have e3 := cpS_app (x := x) (k := k) (o := 14) (k2 := k2) (o2 := 14) (a := 12) (c := 4) h
  have e4 := cpS_app (x := x) (k := k) (o := 14) (k2 := k2) (o2 := 14) (a := 16) (c := 22) h
  have e5 := cpS_app (x := x) (k := k) (o := 14) (k2 := k2) (o2 := 14) (a := 38) (c := 22) h
  have e6 := cpS_app (x := x) (k := k) (o := 14) (k2 := k2) (o2 := 14) (a := 60) (c := 22) h
  have e7 := cpS_pre (x := x) (k := k) (o := 5) (k2 := k2) (o2 := 5) (a := 9) (c := 82) h
  have e8 := cpS_pre (x := x) (k := k) (o := 0) (k2 := k2) (o2 := 0) (a := 5) (c := 91) h
  simp only [Nat.reduceAdd] at e1 e2 e3 e4 e5 e6 e7 e8
  rw [e1, e2, e3, e4, e5, e6, e7, e8]
theorem cpStateF {x : Mem} {k k2 : Nat} (h : k2 ≠ k) : up (up (cpS (cpS (cpS (cpS (cpS (cpS (cpS (cpS (cpS x k 14 k2 14 4) k 18 k2 18 4) k 22 k2 22 4) k 26 k2 26 4) k 30 k2 30 22) k 52 k2 52 22) k 74 k2 74 22) k 5 k2 5 9) k 0 k2 0 3) k 3 (x k2 3)) k 4 (x k2 4) = cpS x k 0 k2 0 96 := by
  rw [← cpState h]
  obtain ⟨W0, hW⟩ : ∃ W0, W0 = (cpS (cpS (cpS (cpS (cpS (cpS (cpS (cpS x k 14 k2 14 4) k 18 k2 18 4) k 22 k2 22 4) k 26 k2 26 4) k 30 k2 30 22) k 52 k2 52 22) k 74 k2 74 22) k 5 k2 5 9) := ⟨_, rfl⟩
  have w3 : ∀ n, x k2 n = W0 k2 n := fun n => by rw [hW]; simp only [cpS_b h]
  rw [← hW, w3 3, w3 4]
  have e1 := cpS_up (x := W0) (k := k) (o := 0) (k2 := k2) (o2 := 0) (a := 3) h
  have e2 := cpS_up (x := W0) (k := k) (o := 0) (k2 := k2) (o2 := 0) (a := 4) h
  simp only [Nat.zero_add, Nat.reduceAdd] at e1 e2
  rw [e1, e2]
theorem tak0_33 {x : Mem} {k d s : Nat} {st : Int32} : tak0 x k d s st k (33 + 22 * d) = x k (33 + 22 * d) := up_n _ _ (by omega)
end
section
theorem cpn_6 {x : Mem} {k k2 o o2 : Nat} (h : k2 ≠ k) : (up (up (up (up (up (up x k o (x k2 o2)) k (o + 1) ((up x k o (x k2 o2)) k2 (o2 + 1))) k (o + 2) ((up (up x k o (x k2 o2)) k (o + 1) ((up x k o (x k2 o2)) k2 (o2 + 1))) k2 (o2 + 2))) k (o + 3) ((up (up (up x k o (x k2 o2)) k (o + 1) ((up x k o (x k2 o2)) k2 (o2 + 1))) k (o + 2) ((up (up x k o (x k2 o2)) k (o + 1) ((up x k o (x k2 o2)) k2 (o2 + 1))) k2 (o2 + 2))) k2 (o2 + 3))) k (o + 4) ((up (up (up (up x k o (x k2 o2)) k (o + 1) ((up x k o (x k2 o2)) k2 (o2 + 1))) k (o + 2) ((up (up x k o (x k2 o2)) k (o + 1) ((up x k o (x k2 o2)) k2 (o2 + 1))) k2 (o2 + 2))) k (o + 3) ((up (up (up x k o (x k2 o2)) k (o + 1) ((up x k o (x k2 o2)) k2 (o2 + 1))) k (o + 2) ((up (up x k o (x k2 o2)) k (o + 1) ((up x k o (x k2 o2)) k2 (o2 + 1))) k2 (o2 + 2))) k2 (o2 + 3))) k2 (o2 + 4))) k (o + 5) ((up (up (up (up (up x k o (x k2 o2)) k (o + 1) ((up x k o (x k2 o2)) k2 (o2 + 1))) k (o + 2) ((up (up x k o (x k2 o2)) k (o + 1) ((up x k o (x k2 o2)) k2 (o2 + 1))) k2 (o2 + 2))) k (o + 3) ((up (up (up x k o (x k2 o2)) k (o + 1) ((up x k o (x k2 o2)) k2 (o2 + 1))) k (o + 2) ((up (up x k o (x k2 o2)) k (o + 1) ((up x k o (x k2 o2)) k2 (o2 + 1))) k2 (o2 + 2))) k2 (o2 + 3))) k (o + 4) ((up (up (up (up x k o (x k2 o2)) k (o + 1) ((up x k o (x k2 o2)) k2 (o2 + 1))) k (o + 2) ((up (up x k o (x k2 o2)) k (o + 1) ((up x k o (x k2 o2)) k2 (o2 + 1))) k2 (o2 + 2))) k (o + 3) ((up (up (up x k o (x k2 o2)) k (o + 1) ((up x k o (x k2 o2)) k2 (o2 + 1))) k (o + 2) ((up (up x k o (x k2 o2)) k (o + 1) ((up x k o (x k2 o2)) k2 (o2 + 1))) k2 (o2 + 2))) k2 (o2 + 3))) k2 (o2 + 4))) k2 (o2 + 5))) = cpS x k o k2 o2 6 := by
  simp only [up_b _ _ _ h]
  rw [cpS_1]
  rw [cpS_up h]
  rw [cpS_up h]
  rw [cpS_up h]
  rw [cpS_up h]
  rw [cpS_up h]

abbrev rm_X1_copyFrom : Room := { frames := 1, cells := 0, slots := 0, locals := 21 }
set_option maxHeartbeats 4000000 in
set_option maxRecDepth 100000 in
theorem c_X1_copyFrom {l : Launch} {D : va_G} {cy : Nat → ClassId} {ad : Ads} (hI : IJ ad) (x : Mem) {k d k2 d2 : Nat} (hk : k < 8) (hd3 : d < 3) (hkd : k = 7 → d = 0) (hk2 : k2 < 8) (hd2 : d2 < 3) (hkd2 : k2 = 7 → d2 = 0) (hkk : k2 ≠ k) (hfl : ∀ q, q < 4 → isFlag (x k2 (36 + 22 * d2 + 4 * q))) (hfo : isFlag (x k2 (30 + 22 * d2))) : Ctv l yX1_copyFrom cX1_copyFrom 3 none rm_X1_copyFrom D cy ad [.ref (ad k 4 d), .ref (ad k2 4 d2)] x (fun y => y = cpS x k (30 + 22 * d) k2 (30 + 22 * d2) 22) := by
  refine rm_entry (Qc := Qv D cy ad (fun y => y = cpS x k (30 + 22 * d) k2 (30 + 22 * d2) 22)) hI (by decide) (Nat.le_of_ble_eq_true rfl) ?_
  intro p e s m args below meth c hc
  show RM _ _ _ _ _ _ _ _ _ _ _ _ _ _ _ _ _ [(0, .ref (ad k 4 d)), (1, .ref (ad k2 4 d2))] []
  refine rm_iconst (v := 0) hc dX1_copyFrom_0 (by decide) ?_
  refine rm_istore_n (ls' := [(0, .ref (ad k 4 d)), (1, .ref (ad k2 4 d2)), (2, .int 0)]) hc dX1_copyFrom_1 rfl (by decide) rfl ?_
  refine rm_iload_n hc dX1_copyFrom_2 rfl rfl ?_
  refine rm_iconst (v := 4) hc dX1_copyFrom_3 (by decide) ?_
  refine rm_icmp_ge (tgt := 28) hc dX1_copyFrom_4 (by decide) (fun h => absurd h (by decide)) (fun _ => ?_)
  refine rm_aload_n hc dX1_copyFrom_7 rfl rfl ?_
  refine rm_get hc dX1_copyFrom_8 fl_X1_11 (dm_4 (by omega) (by omega) (by omega)) rfl rfl ?_
  refine rm_iload_n hc dX1_copyFrom_11 rfl rfl ?_
  refine rm_aald (t0 := 3) (i := 0) (v := .ref (ad k (d + 20) 0)) hc dX1_copyFrom_12 (dm_5 (by omega) (by omega) (by omega)) rfl rfl (by omega) (by decide) rfl rfl ?_
  refine rm_aload_n hc dX1_copyFrom_13 rfl rfl ?_
  refine rm_get hc dX1_copyFrom_14 fl_X1_11 (dm_4 (by omega) (by omega) (by omega)) rfl rfl ?_
  refine rm_iload_n hc dX1_copyFrom_17 rfl rfl ?_
  refine rm_aald (t0 := 3) (i := 0) (v := .ref (ad k2 (d2 + 20) 0)) hc dX1_copyFrom_18 (dm_5 (by omega) (by omega) (by omega)) rfl rfl (by omega) (by decide) rfl rfl ?_
  refine rm_callvV (As := [.ref (ad k2 (d2 + 20) 0)]) (rest := []) hc dX1_copyFrom_19 (c_X5_copyFrom hI x (k := k) (d := d) (s0 := 0) (k2 := k2) (d2 := d2) (by omega) (by omega) (by omega) (by omega) (by omega) (by omega) (by omega) hkk (by subst_vars; first | exact hfl _ (by omega) | (simp only [cpS_b hkk]; exact hfl _ (by omega)))) mv_X1_18 (dm_s (d := d) (by omega) (by omega) (by omega) (by omega)) rfl rfl (hn := rfl) (hst := rfl) (hw := Nat.le_of_ble_eq_true rfl) (hR := ⟨⟨rfl, rfl⟩, Nat.le_of_ble_eq_true rfl, Nat.le_of_ble_eq_true rfl⟩) (hnc := ⟨Nat.zero_le _, Nat.zero_le _⟩) (fun y_2 h_2 => ?_)
  refine rm_iinc (v := 1) (ls' := [(0, .ref (ad k 4 d)), (1, .ref (ad k2 4 d2)), (2, .int 1)]) hc dX1_copyFrom_22 rfl (by decide) (by decide) rfl ?_
  refine rm_goto (tgt := 2) hc dX1_copyFrom_25 (by decide) ?_
  refine rm_iload_n hc dX1_copyFrom_2 rfl rfl ?_
  refine rm_iconst (v := 4) hc dX1_copyFrom_3 (by decide) ?_
  refine rm_icmp_ge (tgt := 28) hc dX1_copyFrom_4 (by decide) (fun h => absurd h (by decide)) (fun _ => ?_)
  refine rm_aload_n hc dX1_copyFrom_7 rfl rfl ?_
  refine rm_get hc dX1_copyFrom_8 fl_X1_11 (dm_4 (by omega) (by omega) (by omega)) rfl rfl ?_
  refine rm_iload_n hc dX1_copyFrom_11 rfl rfl ?_
  refine rm_aald (t0 := 3) (i := 1) (v := .ref (ad k (d + 20) 1)) hc dX1_copyFrom_12 (dm_5 (by omega) (by omega) (by omega)) rfl rfl (by omega) (by decide) rfl rfl ?_
  refine rm_aload_n hc dX1_copyFrom_13 rfl rfl ?_
  refine rm_get hc dX1_copyFrom_14 fl_X1_11 (dm_4 (by omega) (by omega) (by omega)) rfl rfl ?_
  refine rm_iload_n hc dX1_copyFrom_17 rfl rfl ?_
  refine rm_aald (t0 := 3) (i := 1) (v := .ref (ad k2 (d2 + 20) 1)) hc dX1_copyFrom_18 (dm_5 (by omega) (by omega) (by omega)) rfl rfl (by omega) (by decide) rfl rfl ?_
  refine rm_callvV (As := [.ref (ad k2 (d2 + 20) 1)]) (rest := []) hc dX1_copyFrom_19 (c_X5_copyFrom hI y_2 (k := k) (d := d) (s0 := 1) (k2 := k2) (d2 := d2) (by omega) (by omega) (by omega) (by omega) (by omega) (by omega) (by omega) hkk (by subst_vars; first | exact hfl _ (by omega) | (simp only [cpS_b hkk]; exact hfl _ (by omega)))) mv_X1_18 (dm_s (d := d) (by omega) (by omega) (by omega) (by omega)) rfl rfl (hn := rfl) (hst := rfl) (hw := Nat.le_of_ble_eq_true rfl) (hR := ⟨⟨rfl, rfl⟩, Nat.le_of_ble_eq_true rfl, Nat.le_of_ble_eq_true rfl⟩) (hnc := ⟨Nat.zero_le _, Nat.zero_le _⟩) (fun y_4 h_4 => ?_)
  refine rm_iinc (v := 2) (ls' := [(0, .ref (ad k 4 d)), (1, .ref (ad k2 4 d2)), (2, .int 2)]) hc dX1_copyFrom_22 rfl (by decide) (by decide) rfl ?_
  refine rm_goto (tgt := 2) hc dX1_copyFrom_25 (by decide) ?_
  refine rm_iload_n hc dX1_copyFrom_2 rfl rfl ?_
  refine rm_iconst (v := 4) hc dX1_copyFrom_3 (by decide) ?_
  refine rm_icmp_ge (tgt := 28) hc dX1_copyFrom_4 (by decide) (fun h => absurd h (by decide)) (fun _ => ?_)
  refine rm_aload_n hc dX1_copyFrom_7 rfl rfl ?_
  refine rm_get hc dX1_copyFrom_8 fl_X1_11 (dm_4 (by omega) (by omega) (by omega)) rfl rfl ?_
  refine rm_iload_n hc dX1_copyFrom_11 rfl rfl ?_
  refine rm_aald (t0 := 3) (i := 2) (v := .ref (ad k (d + 20) 2)) hc dX1_copyFrom_12 (dm_5 (by omega) (by omega) (by omega)) rfl rfl (by omega) (by decide) rfl rfl ?_
  refine rm_aload_n hc dX1_copyFrom_13 rfl rfl ?_
  refine rm_get hc dX1_copyFrom_14 fl_X1_11 (dm_4 (by omega) (by omega) (by omega)) rfl rfl ?_
  refine rm_iload_n hc dX1_copyFrom_17 rfl rfl ?_
  refine rm_aald (t0 := 3) (i := 2) (v := .ref (ad k2 (d2 + 20) 2)) hc dX1_copyFrom_18 (dm_5 (by omega) (by omega) (by omega)) rfl rfl (by omega) (by decide) rfl rfl ?_
  refine rm_callvV (As := [.ref (ad k2 (d2 + 20) 2)]) (rest := []) hc dX1_copyFrom_19 (c_X5_copyFrom hI y_4 (k := k) (d := d) (s0 := 2) (k2 := k2) (d2 := d2) (by omega) (by omega) (by omega) (by omega) (by omega) (by omega) (by omega) hkk (by subst_vars; first | exact hfl _ (by omega) | (simp only [cpS_b hkk]; exact hfl _ (by omega)))) mv_X1_18 (dm_s (d := d) (by omega) (by omega) (by omega) (by omega)) rfl rfl (hn := rfl) (hst := rfl) (hw := Nat.le_of_ble_eq_true rfl) (hR := ⟨⟨rfl, rfl⟩, Nat.le_of_ble_eq_true rfl, Nat.le_of_ble_eq_true rfl⟩) (hnc := ⟨Nat.zero_le _, Nat.zero_le _⟩) (fun y_6 h_6 => ?_)
  refine rm_iinc (v := 3) (ls' := [(0, .ref (ad k 4 d)), (1, .ref (ad k2 4 d2)), (2, .int 3)]) hc dX1_copyFrom_22 rfl (by decide) (by decide) rfl ?_
  refine rm_goto (tgt := 2) hc dX1_copyFrom_25 (by decide) ?_
  refine rm_iload_n hc dX1_copyFrom_2 rfl rfl ?_
  refine rm_iconst (v := 4) hc dX1_copyFrom_3 (by decide) ?_
  refine rm_icmp_ge (tgt := 28) hc dX1_copyFrom_4 (by decide) (fun h => absurd h (by decide)) (fun _ => ?_)
  refine rm_aload_n hc dX1_copyFrom_7 rfl rfl ?_
  refine rm_get hc dX1_copyFrom_8 fl_X1_11 (dm_4 (by omega) (by omega) (by omega)) rfl rfl ?_
  refine rm_iload_n hc dX1_copyFrom_11 rfl rfl ?_
  refine rm_aald (t0 := 3) (i := 3) (v := .ref (ad k (d + 20) 3)) hc dX1_copyFrom_12 (dm_5 (by omega) (by omega) (by omega)) rfl rfl (by omega) (by decide) rfl rfl ?_
  refine rm_aload_n hc dX1_copyFrom_13 rfl rfl ?_
  refine rm_get hc dX1_copyFrom_14 fl_X1_11 (dm_4 (by omega) (by omega) (by omega)) rfl rfl ?_
  refine rm_iload_n hc dX1_copyFrom_17 rfl rfl ?_
  refine rm_aald (t0 := 3) (i := 3) (v := .ref (ad k2 (d2 + 20) 3)) hc dX1_copyFrom_18 (dm_5 (by omega) (by omega) (by omega)) rfl rfl (by omega) (by decide) rfl rfl ?_
  refine rm_callvV (As := [.ref (ad k2 (d2 + 20) 3)]) (rest := []) hc dX1_copyFrom_19 (c_X5_copyFrom hI y_6 (k := k) (d := d) (s0 := 3) (k2 := k2) (d2 := d2) (by omega) (by omega) (by omega) (by omega) (by omega) (by omega) (by omega) hkk (by subst_vars; first | exact hfl _ (by omega) | (simp only [cpS_b hkk]; exact hfl _ (by omega)))) mv_X1_18 (dm_s (d := d) (by omega) (by omega) (by omega) (by omega)) rfl rfl (hn := rfl) (hst := rfl) (hw := Nat.le_of_ble_eq_true rfl) (hR := ⟨⟨rfl, rfl⟩, Nat.le_of_ble_eq_true rfl, Nat.le_of_ble_eq_true rfl⟩) (hnc := ⟨Nat.zero_le _, Nat.zero_le _⟩) (fun y_8 h_8 => ?_)
  refine rm_iinc (v := 4) (ls' := [(0, .ref (ad k 4 d)), (1, .ref (ad k2 4 d2)), (2, .int 4)]) hc dX1_copyFrom_22 rfl (by decide) (by decide) rfl ?_
  refine rm_goto (tgt := 2) hc dX1_copyFrom_25 (by decide) ?_
  refine rm_iload_n hc dX1_copyFrom_2 rfl rfl ?_
  refine rm_iconst (v := 4) hc dX1_copyFrom_3 (by decide) ?_
  refine rm_icmp_ge (tgt := 28) hc dX1_copyFrom_4 (by decide) (fun _ => ?_) (fun h => absurd (by decide) h)
  refine rm_aload_n hc dX1_copyFrom_28 rfl rfl ?_
  refine rm_aload_n hc dX1_copyFrom_29 rfl rfl ?_
  refine rm_geti hc dX1_copyFrom_30 fl_X1_22 (dm_4 (by omega) (by omega) (by omega)) rfl rfl (fun v_10 e_10 => ?_)
  refine rm_put hc dX1_copyFrom_33 fl_X1_22 (dm_4 (by omega) (by omega) (by omega)) rfl (Nat.le_of_ble_eq_true rfl) ft_1_1 (nrb (by subst_vars; simp only [cpS_b hkk]; exact hfo)) (ftb (by subst_vars; simp only [cpS_b hkk]; exact hfo)) (so_4_1 (by omega) (by omega)) (rm_nm (fun x_11 ex_11 => ?_))
  refine rm_aload_n hc dX1_copyFrom_36 rfl rfl ?_
  refine rm_aload_n hc dX1_copyFrom_37 rfl rfl ?_
  refine rm_geti hc dX1_copyFrom_38 fl_X1_26 (dm_4 (by omega) (by omega) (by omega)) rfl rfl (fun v_12 e_12 => ?_)
  refine rm_put hc dX1_copyFrom_41 fl_X1_26 (dm_4 (by omega) (by omega) (by omega)) rfl (Nat.le_of_ble_eq_true rfl) ft_1_2 rfl rfl (so_4_2 (by omega) (by omega)) (rm_nm (fun x_13 ex_13 => ?_))
  refine rm_aload_n hc dX1_copyFrom_44 rfl rfl ?_
  refine rm_aload_n hc dX1_copyFrom_45 rfl rfl ?_
  refine rm_geti hc dX1_copyFrom_46 fl_X1_30 (dm_4 (by omega) (by omega) (by omega)) rfl rfl (fun v_14 e_14 => ?_)
  refine rm_put hc dX1_copyFrom_49 fl_X1_30 (dm_4 (by omega) (by omega) (by omega)) rfl (Nat.le_of_ble_eq_true rfl) ft_1_3 rfl rfl (so_4_3 (by omega) (by omega)) (rm_nm (fun x_15 ex_15 => ?_))
  refine rm_aload_n hc dX1_copyFrom_52 rfl rfl ?_
  refine rm_aload_n hc dX1_copyFrom_53 rfl rfl ?_
  refine rm_geti hc dX1_copyFrom_54 fl_X1_33 (dm_4 (by omega) (by omega) (by omega)) rfl rfl (fun v_16 e_16 => ?_)
  refine rm_put hc dX1_copyFrom_57 fl_X1_33 (dm_4 (by omega) (by omega) (by omega)) rfl (Nat.le_of_ble_eq_true rfl) ft_1_4 rfl rfl (so_4_4 (by omega) (by omega)) (rm_nm (fun x_17 ex_17 => ?_))
  refine rm_aload_n hc dX1_copyFrom_60 rfl rfl ?_
  refine rm_aload_n hc dX1_copyFrom_61 rfl rfl ?_
  refine rm_geti hc dX1_copyFrom_62 fl_X1_36 (dm_4 (by omega) (by omega) (by omega)) rfl rfl (fun v_18 e_18 => ?_)
  refine rm_put hc dX1_copyFrom_65 fl_X1_36 (dm_4 (by omega) (by omega) (by omega)) rfl (Nat.le_of_ble_eq_true rfl) ft_1_5 rfl rfl (so_4_5 (by omega) (by omega)) (rm_nm (fun x_19 ex_19 => ?_))
  refine rm_aload_n hc dX1_copyFrom_68 rfl rfl ?_
  refine rm_aload_n hc dX1_copyFrom_69 rfl rfl ?_
  refine rm_geti hc dX1_copyFrom_70 fl_X1_39 (dm_4 (by omega) (by omega) (by omega)) rfl rfl (fun v_20 e_20 => ?_)
  refine rm_put hc dX1_copyFrom_73 fl_X1_39 (dm_4 (by omega) (by omega) (by omega)) rfl (Nat.le_of_ble_eq_true rfl) ft_1_6 rfl rfl (so_4_6 (by omega) (by omega)) (rm_nm (fun x_21 ex_21 => ?_))
  exact rm_vret hc dX1_copyFrom_76 (by subst_vars; rw [show 31 + 22 * d = 30 + 22 * d + 1 by omega, show 32 + 22 * d = 30 + 22 * d + 2 by omega, show 33 + 22 * d = 30 + 22 * d + 3 by omega, show 34 + 22 * d = 30 + 22 * d + 4 by omega, show 35 + 22 * d = 30 + 22 * d + 5 by omega, show 36 + 22 * d + 4 * 0 = 30 + 22 * d + 6 by omega, show 36 + 22 * d + 4 * 1 = 30 + 22 * d + 10 by omega, show 36 + 22 * d + 4 * 2 = 30 + 22 * d + 14 by omega, show 36 + 22 * d + 4 * 3 = 30 + 22 * d + 18 by omega, show 31 + 22 * d2 = 30 + 22 * d2 + 1 by omega, show 32 + 22 * d2 = 30 + 22 * d2 + 2 by omega, show 33 + 22 * d2 = 30 + 22 * d2 + 3 by omega, show 34 + 22 * d2 = 30 + 22 * d2 + 4 by omega, show 35 + 22 * d2 = 30 + 22 * d2 + 5 by omega, show 36 + 22 * d2 + 4 * 0 = 30 + 22 * d2 + 6 by omega, show 36 + 22 * d2 + 4 * 1 = 30 + 22 * d2 + 10 by omega, show 36 + 22 * d2 + 4 * 2 = 30 + 22 * d2 + 14 by omega, show 36 + 22 * d2 + 4 * 3 = 30 + 22 * d2 + 18 by omega, cpn_6 hkk, cpDoor hkk])

abbrev rm_X1_learntSlots : Room := { frames := 1, cells := 0, slots := 0, locals := 21 }
set_option maxHeartbeats 4000000 in
set_option maxRecDepth 100000 in
theorem c_X1_learntSlots {l : Launch} {D : va_G} {cy : Nat → ClassId} {ad : Ads} (hI : IJ ad) (x : Mem) {k d : Nat} (hk : k < 8) (hd3 : d < 3) (hkd : k = 7 → d = 0) : Cti l yX1_learntSlots cX1_learntSlots 6 (some .int) rm_X1_learntSlots D cy ad [.ref (ad k 4 d)] x (fun r y => r = lrnD x k d ∧ y = x) := by
  refine rm_entry (Qc := Qi D cy ad (fun r y => r = lrnD x k d ∧ y = x)) hI (by decide) (Nat.le_of_ble_eq_true rfl) ?_
  intro p e s m args below meth c hc
  show RM _ _ _ _ _ _ _ _ _ _ _ _ _ _ _ _ _ [(0, .ref (ad k 4 d))] []
  refine rm_iconst (v := 0) hc dX1_learntSlots_0 (by decide) ?_
  refine rm_istore_n (ls' := [(0, .ref (ad k 4 d)), (1, .int 0)]) hc dX1_learntSlots_1 rfl (by decide) rfl ?_
  refine rm_aload_n hc dX1_learntSlots_2 rfl rfl ?_
  refine rm_get hc dX1_learntSlots_3 fl_X1_11 (dm_4 (by omega) (by omega) (by omega)) rfl rfl ?_
  refine rm_astore_n (ls' := [(0, .ref (ad k 4 d)), (1, .int 0), (2, .ref (ad k 5 d))]) hc dX1_learntSlots_6 rfl (by decide) rfl ?_
  refine rm_aload_n hc dX1_learntSlots_7 rfl rfl ?_
  refine rm_alen (n := 0) (t0 := 3) (v := 4) hc dX1_learntSlots_8 (dm_5 (by omega) (by omega) (by omega)) rfl rfl rfl ?_
  refine rm_istore_n (ls' := [(0, .ref (ad k 4 d)), (1, .int 0), (2, .ref (ad k 5 d)), (3, .int 4)]) hc dX1_learntSlots_9 rfl (by decide) rfl ?_
  refine rm_iconst (v := 0) hc dX1_learntSlots_10 (by decide) ?_
  refine rm_istore (ls' := [(0, .ref (ad k 4 d)), (1, .int 0), (2, .ref (ad k 5 d)), (3, .int 4), (4, .int 0)]) hc dX1_learntSlots_11 (by decide) rfl ?_
  refine rm_iload hc dX1_learntSlots_13 rfl ?_
  refine rm_iload_n hc dX1_learntSlots_15 rfl rfl ?_
  refine rm_icmp_ge (tgt := 40) hc dX1_learntSlots_16 (by decide) (fun h => absurd h (by decide)) (fun _ => ?_)
  refine rm_aload_n hc dX1_learntSlots_19 rfl rfl ?_
  refine rm_iload hc dX1_learntSlots_20 rfl ?_
  refine rm_aald (t0 := 3) (i := 0) (v := .ref (ad k (d + 20) 0)) hc dX1_learntSlots_22 (dm_5 (by omega) (by omega) (by omega)) rfl rfl (by omega) (by decide) rfl rfl ?_
  refine rm_astore (ls' := [(0, .ref (ad k 4 d)), (1, .int 0), (2, .ref (ad k 5 d)), (3, .int 4), (4, .int 0), (5, .ref (ad k (d + 20) 0))]) hc dX1_learntSlots_23 (by decide) rfl ?_
  refine rm_iload_n hc dX1_learntSlots_25 rfl rfl ?_
  refine rm_aload hc dX1_learntSlots_26 rfl ?_
  refine rm_iconst (v := 0) hc dX1_learntSlots_28 (by decide) ?_
  refine rm_calliV (As := [.int 0]) (rest := [.int 0]) hc dX1_learntSlots_29 (c_X5_look hI x (k := k) (d := d) (s0 := 0) (by omega) (by omega) (by omega) (by omega) 0) mv_X1_47 (dm_s (d := d) (by omega) (by omega) (by omega) (by omega)) rfl rfl (hn := rfl) (hst := rfl) (hw := Nat.le_of_ble_eq_true rfl) (hR := ⟨⟨rfl, rfl⟩, Nat.le_of_ble_eq_true rfl, Nat.le_of_ble_eq_true rfl⟩) (hnc := ⟨Nat.zero_le _, Nat.zero_le _⟩) (fun r_2 y_2 h_2 => ?_)
  obtain ⟨e_2, ey_2⟩ := h_2
  obtain rfl := ey_2.symm
  refine rm_iadd hc dX1_learntSlots_32 (fun v_3 e_3 => ?_)
  refine rm_istore_n (ls' := [(0, .ref (ad k 4 d)), (1, .int v_3), (2, .ref (ad k 5 d)), (3, .int 4), (4, .int 0), (5, .ref (ad k (d + 20) 0))]) hc dX1_learntSlots_33 rfl (by decide) rfl ?_
  refine rm_iinc (v := 1) (ls' := [(0, .ref (ad k 4 d)), (1, .int v_3), (2, .ref (ad k 5 d)), (3, .int 4), (4, .int 1), (5, .ref (ad k (d + 20) 0))]) hc dX1_learntSlots_34 rfl (by decide) (by decide) rfl ?_
  refine rm_goto (tgt := 13) hc dX1_learntSlots_37 (by decide) ?_
  refine rm_iload hc dX1_learntSlots_13 rfl ?_
  refine rm_iload_n hc dX1_learntSlots_15 rfl rfl ?_
  refine rm_icmp_ge (tgt := 40) hc dX1_learntSlots_16 (by decide) (fun h => absurd h (by decide)) (fun _ => ?_)
  refine rm_aload_n hc dX1_learntSlots_19 rfl rfl ?_
  refine rm_iload hc dX1_learntSlots_20 rfl ?_
  refine rm_aald (t0 := 3) (i := 1) (v := .ref (ad k (d + 20) 1)) hc dX1_learntSlots_22 (dm_5 (by omega) (by omega) (by omega)) rfl rfl (by omega) (by decide) rfl rfl ?_
  refine rm_astore (ls' := [(0, .ref (ad k 4 d)), (1, .int v_3), (2, .ref (ad k 5 d)), (3, .int 4), (4, .int 1), (5, .ref (ad k (d + 20) 1))]) hc dX1_learntSlots_23 (by decide) rfl ?_
  refine rm_iload_n hc dX1_learntSlots_25 rfl rfl ?_
  refine rm_aload hc dX1_learntSlots_26 rfl ?_
  refine rm_iconst (v := 0) hc dX1_learntSlots_28 (by decide) ?_
  refine rm_calliV (As := [.int 0]) (rest := [.int v_3]) hc dX1_learntSlots_29 (c_X5_look hI x (k := k) (d := d) (s0 := 1) (by omega) (by omega) (by omega) (by omega) 0) mv_X1_47 (dm_s (d := d) (by omega) (by omega) (by omega) (by omega)) rfl rfl (hn := rfl) (hst := rfl) (hw := Nat.le_of_ble_eq_true rfl) (hR := ⟨⟨rfl, rfl⟩, Nat.le_of_ble_eq_true rfl, Nat.le_of_ble_eq_true rfl⟩) (hnc := ⟨Nat.zero_le _, Nat.zero_le _⟩) (fun r_5 y_5 h_5 => ?_)
  obtain ⟨e_5, ey_5⟩ := h_5
  obtain rfl := ey_5.symm
  refine rm_iadd hc dX1_learntSlots_32 (fun v_6 e_6 => ?_)
  refine rm_istore_n (ls' := [(0, .ref (ad k 4 d)), (1, .int v_6), (2, .ref (ad k 5 d)), (3, .int 4), (4, .int 1), (5, .ref (ad k (d + 20) 1))]) hc dX1_learntSlots_33 rfl (by decide) rfl ?_
  refine rm_iinc (v := 2) (ls' := [(0, .ref (ad k 4 d)), (1, .int v_6), (2, .ref (ad k 5 d)), (3, .int 4), (4, .int 2), (5, .ref (ad k (d + 20) 1))]) hc dX1_learntSlots_34 rfl (by decide) (by decide) rfl ?_
  refine rm_goto (tgt := 13) hc dX1_learntSlots_37 (by decide) ?_
  refine rm_iload hc dX1_learntSlots_13 rfl ?_
  refine rm_iload_n hc dX1_learntSlots_15 rfl rfl ?_
  refine rm_icmp_ge (tgt := 40) hc dX1_learntSlots_16 (by decide) (fun h => absurd h (by decide)) (fun _ => ?_)
  refine rm_aload_n hc dX1_learntSlots_19 rfl rfl ?_
  refine rm_iload hc dX1_learntSlots_20 rfl ?_
  refine rm_aald (t0 := 3) (i := 2) (v := .ref (ad k (d + 20) 2)) hc dX1_learntSlots_22 (dm_5 (by omega) (by omega) (by omega)) rfl rfl (by omega) (by decide) rfl rfl ?_
  refine rm_astore (ls' := [(0, .ref (ad k 4 d)), (1, .int v_6), (2, .ref (ad k 5 d)), (3, .int 4), (4, .int 2), (5, .ref (ad k (d + 20) 2))]) hc dX1_learntSlots_23 (by decide) rfl ?_
  refine rm_iload_n hc dX1_learntSlots_25 rfl rfl ?_
  refine rm_aload hc dX1_learntSlots_26 rfl ?_
  refine rm_iconst (v := 0) hc dX1_learntSlots_28 (by decide) ?_
  refine rm_calliV (As := [.int 0]) (rest := [.int v_6]) hc dX1_learntSlots_29 (c_X5_look hI x (k := k) (d := d) (s0 := 2) (by omega) (by omega) (by omega) (by omega) 0) mv_X1_47 (dm_s (d := d) (by omega) (by omega) (by omega) (by omega)) rfl rfl (hn := rfl) (hst := rfl) (hw := Nat.le_of_ble_eq_true rfl) (hR := ⟨⟨rfl, rfl⟩, Nat.le_of_ble_eq_true rfl, Nat.le_of_ble_eq_true rfl⟩) (hnc := ⟨Nat.zero_le _, Nat.zero_le _⟩) (fun r_8 y_8 h_8 => ?_)
  obtain ⟨e_8, ey_8⟩ := h_8
  obtain rfl := ey_8.symm
  refine rm_iadd hc dX1_learntSlots_32 (fun v_9 e_9 => ?_)
  refine rm_istore_n (ls' := [(0, .ref (ad k 4 d)), (1, .int v_9), (2, .ref (ad k 5 d)), (3, .int 4), (4, .int 2), (5, .ref (ad k (d + 20) 2))]) hc dX1_learntSlots_33 rfl (by decide) rfl ?_
  refine rm_iinc (v := 3) (ls' := [(0, .ref (ad k 4 d)), (1, .int v_9), (2, .ref (ad k 5 d)), (3, .int 4), (4, .int 3), (5, .ref (ad k (d + 20) 2))]) hc dX1_learntSlots_34 rfl (by decide) (by decide) rfl ?_
  refine rm_goto (tgt := 13) hc dX1_learntSlots_37 (by decide) ?_
  refine rm_iload hc dX1_learntSlots_13 rfl ?_
  refine rm_iload_n hc dX1_learntSlots_15 rfl rfl ?_
  refine rm_icmp_ge (tgt := 40) hc dX1_learntSlots_16 (by decide) (fun h => absurd h (by decide)) (fun _ => ?_)
  refine rm_aload_n hc dX1_learntSlots_19 rfl rfl ?_
  refine rm_iload hc dX1_learntSlots_20 rfl ?_
  refine rm_aald (t0 := 3) (i := 3) (v := .ref (ad k (d + 20) 3)) hc dX1_learntSlots_22 (dm_5 (by omega) (by omega) (by omega)) rfl rfl (by omega) (by decide) rfl rfl ?_
  refine rm_astore (ls' := [(0, .ref (ad k 4 d)), (1, .int v_9), (2, .ref (ad k 5 d)), (3, .int 4), (4, .int 3), (5, .ref (ad k (d + 20) 3))]) hc dX1_learntSlots_23 (by decide) rfl ?_
  refine rm_iload_n hc dX1_learntSlots_25 rfl rfl ?_
  refine rm_aload hc dX1_learntSlots_26 rfl ?_
  refine rm_iconst (v := 0) hc dX1_learntSlots_28 (by decide) ?_
  refine rm_calliV (As := [.int 0]) (rest := [.int v_9]) hc dX1_learntSlots_29 (c_X5_look hI x (k := k) (d := d) (s0 := 3) (by omega) (by omega) (by omega) (by omega) 0) mv_X1_47 (dm_s (d := d) (by omega) (by omega) (by omega) (by omega)) rfl rfl (hn := rfl) (hst := rfl) (hw := Nat.le_of_ble_eq_true rfl) (hR := ⟨⟨rfl, rfl⟩, Nat.le_of_ble_eq_true rfl, Nat.le_of_ble_eq_true rfl⟩) (hnc := ⟨Nat.zero_le _, Nat.zero_le _⟩) (fun r_11 y_11 h_11 => ?_)
  obtain ⟨e_11, ey_11⟩ := h_11
  obtain rfl := ey_11.symm
  refine rm_iadd hc dX1_learntSlots_32 (fun v_12 e_12 => ?_)
  refine rm_istore_n (ls' := [(0, .ref (ad k 4 d)), (1, .int v_12), (2, .ref (ad k 5 d)), (3, .int 4), (4, .int 3), (5, .ref (ad k (d + 20) 3))]) hc dX1_learntSlots_33 rfl (by decide) rfl ?_
  refine rm_iinc (v := 4) (ls' := [(0, .ref (ad k 4 d)), (1, .int v_12), (2, .ref (ad k 5 d)), (3, .int 4), (4, .int 4), (5, .ref (ad k (d + 20) 3))]) hc dX1_learntSlots_34 rfl (by decide) (by decide) rfl ?_
  refine rm_goto (tgt := 13) hc dX1_learntSlots_37 (by decide) ?_
  refine rm_iload hc dX1_learntSlots_13 rfl ?_
  refine rm_iload_n hc dX1_learntSlots_15 rfl rfl ?_
  refine rm_icmp_ge (tgt := 40) hc dX1_learntSlots_16 (by decide) (fun _ => ?_) (fun h => absurd (by decide) h)
  refine rm_iload_n hc dX1_learntSlots_40 rfl rfl ?_
  exact rm_iret hc dX1_learntSlots_41 ⟨by subst_vars; rfl, rfl⟩

abbrev rm_X1_look : Room := { frames := 2, cells := 0, slots := 0, locals := 46 }
set_option maxHeartbeats 4000000 in
set_option maxRecDepth 100000 in
theorem c_X1_look {l : Launch} {D : va_G} {cy : Nat → ClassId} {ad : Ads} (hI : IJ ad) (x : Mem) {k d k2 : Nat} (hk : k < 8) (hd3 : d < 3) (hkd : k = 7 → d = 0) (hk2 : k2 < 7) (w : Int32) : Cti l yX1_look cX1_look 3 (some .int) rm_X1_look D cy ad [.ref (ad k 4 d), .int w, .ref (ad k2 8 0)] x (fun r y => r = lookDoor x k d (x k2 2) w ∧ y = x) := by
  refine rm_entry (Qc := Qi D cy ad (fun r y => r = lookDoor x k d (x k2 2) w ∧ y = x)) hI (by decide) (Nat.le_of_ble_eq_true rfl) ?_
  intro p e s m args below meth c hc
  show RM _ _ _ _ _ _ _ _ _ _ _ _ _ _ _ _ _ [(0, .ref (ad k 4 d)), (1, .int w), (2, .ref (ad k2 8 0))] []
  refine rm_iload_n hc dX1_look_0 rfl rfl ?_
  by_cases z_1 : w = 0
  · --case 0
    subst z_1
    refine rm_tin (off := 47) (tgt := 48) hc dX1_look_1 (by decide) (by decide) (by decide) (by decide) ?_
    refine rm_aload_n hc dX1_look_48 rfl rfl ?_
    refine rm_geti hc dX1_look_49 fl_X1_22 (dm_4 (by omega) (by omega) (by omega)) rfl rfl (fun v_2 e_2 => ?_)
    refine rm_if_eq (tgt := 59) hc dX1_look_52 (by decide) (fun c_3 => ?_) (fun c_3 => ?_)
    · --T
      refine rm_iconst (v := 0) hc dX1_look_59 (by decide) ?_
      exact rm_iret hc dX1_look_60 ⟨by subst_vars; simp [lookDoor, *], rfl⟩
    · --F
      refine rm_iconst (v := 1) hc dX1_look_55 (by decide) ?_
      refine rm_goto (tgt := 60) hc dX1_look_56 (by decide) ?_
      exact rm_iret hc dX1_look_60 ⟨by subst_vars; simp [lookDoor, *], rfl⟩
  by_cases z_4 : w = 1
  · --case 1
    subst z_4
    refine rm_tin (off := 60) (tgt := 61) hc dX1_look_1 (by decide) (by decide) (by decide) (by decide) ?_
    refine rm_aload_n hc dX1_look_61 rfl rfl ?_
    refine rm_geti hc dX1_look_62 fl_X1_26 (dm_4 (by omega) (by omega) (by omega)) rfl rfl (fun v_5 e_5 => ?_)
    exact rm_iret hc dX1_look_65 ⟨by subst_vars; simp [lookDoor, *], rfl⟩
  by_cases z_6 : w = 2
  · --case 2
    subst z_6
    refine rm_tin (off := 65) (tgt := 66) hc dX1_look_1 (by decide) (by decide) (by decide) (by decide) ?_
    refine rm_aload_n hc dX1_look_66 rfl rfl ?_
    refine rm_aload_n hc dX1_look_67 rfl rfl ?_
    refine rm_calliV (As := [.ref (ad k2 8 0)]) (rest := []) hc dX1_look_68 (c_X1_isLocked hI x (k := k) (d := d) (k2 := k2) (by omega) (by omega) (by omega) (by omega)) mv_X1_51 (dm_4 (by omega) (by omega) (by omega)) rfl rfl (hn := rfl) (hst := rfl) (hw := Nat.le_of_ble_eq_true rfl) (hR := ⟨⟨rfl, rfl⟩, Nat.le_of_ble_eq_true rfl, Nat.le_of_ble_eq_true rfl⟩) (hnc := ⟨Nat.zero_le _, Nat.zero_le _⟩) (fun r_7 y_7 h_7 => ?_)
    obtain ⟨e_7, ey_7⟩ := h_7
    obtain rfl := ey_7.symm
    refine rm_if_eq (tgt := 78) hc dX1_look_71 (by decide) (fun c_8 => ?_) (fun c_8 => ?_)
    · --T
      refine rm_iconst (v := 0) hc dX1_look_78 (by decide) ?_
      exact rm_iret hc dX1_look_79 ⟨by subst_vars; simp [lookDoor, *], rfl⟩
    · --F
      refine rm_iconst (v := 1) hc dX1_look_74 (by decide) ?_
      refine rm_goto (tgt := 79) hc dX1_look_75 (by decide) ?_
      exact rm_iret hc dX1_look_79 ⟨by subst_vars; simp [lookDoor, *], rfl⟩
  by_cases z_9 : w = 3
  · --case 3
    subst z_9
    refine rm_tin (off := 79) (tgt := 80) hc dX1_look_1 (by decide) (by decide) (by decide) (by decide) ?_
    refine rm_aload_n hc dX1_look_80 rfl rfl ?_
    refine rm_calliV (As := []) (rest := []) hc dX1_look_81 (c_X1_learntSlots hI x (k := k) (d := d) (by omega) (by omega) (by omega)) mv_X1_69 (dm_4 (by omega) (by omega) (by omega)) rfl rfl (hn := rfl) (hst := rfl) (hw := Nat.le_of_ble_eq_true rfl) (hR := ⟨⟨rfl, rfl⟩, Nat.le_of_ble_eq_true rfl, Nat.le_of_ble_eq_true rfl⟩) (hnc := ⟨Nat.zero_le _, Nat.zero_le _⟩) (fun r_10 y_10 h_10 => ?_)
    obtain ⟨e_10, ey_10⟩ := h_10
    obtain rfl := ey_10.symm
    exact rm_iret hc dX1_look_84 ⟨by subst_vars; simp [lookDoor, *], rfl⟩
  by_cases z_11 : w = 4
  · --case 4
    subst z_11
    refine rm_tin (off := 84) (tgt := 85) hc dX1_look_1 (by decide) (by decide) (by decide) (by decide) ?_
    refine rm_aload_n hc dX1_look_85 rfl rfl ?_
    refine rm_geti hc dX1_look_86 fl_X1_30 (dm_4 (by omega) (by omega) (by omega)) rfl rfl (fun v_12 e_12 => ?_)
    exact rm_iret hc dX1_look_89 ⟨by subst_vars; simp [lookDoor, *], rfl⟩
  by_cases z_13 : w = 5
  · --case 5
    subst z_13
    refine rm_tin (off := 89) (tgt := 90) hc dX1_look_1 (by decide) (by decide) (by decide) (by decide) ?_
    refine rm_aload_n hc dX1_look_90 rfl rfl ?_
    refine rm_geti hc dX1_look_91 fl_X1_33 (dm_4 (by omega) (by omega) (by omega)) rfl rfl (fun v_14 e_14 => ?_)
    exact rm_iret hc dX1_look_94 ⟨by subst_vars; simp [lookDoor, *], rfl⟩
  by_cases z_15 : w = 6
  · --case 6
    subst z_15
    refine rm_tin (off := 94) (tgt := 95) hc dX1_look_1 (by decide) (by decide) (by decide) (by decide) ?_
    refine rm_aload_n hc dX1_look_95 rfl rfl ?_
    refine rm_geti hc dX1_look_96 fl_X1_36 (dm_4 (by omega) (by omega) (by omega)) rfl rfl (fun v_16 e_16 => ?_)
    exact rm_iret hc dX1_look_99 ⟨by subst_vars; simp [lookDoor, *], rfl⟩
  by_cases z_17 : w = 7
  · --case 7
    subst z_17
    refine rm_tin (off := 99) (tgt := 100) hc dX1_look_1 (by decide) (by decide) (by decide) (by decide) ?_
    refine rm_aload_n hc dX1_look_100 rfl rfl ?_
    refine rm_geti hc dX1_look_101 fl_X1_39 (dm_4 (by omega) (by omega) (by omega)) rfl rfl (fun v_18 e_18 => ?_)
    exact rm_iret hc dX1_look_104 ⟨by subst_vars; simp [lookDoor, *], rfl⟩
  refine rm_tout (tgt := 105) hc dX1_look_1 (by have zz0 := lv_neT (k := 0) (a := 0) z_1 (by decide); have zz1 := lv_neT (k := 1) (a := 1) z_4 (by decide); have zz2 := lv_neT (k := 2) (a := 2) z_6 (by decide); have zz3 := lv_neT (k := 3) (a := 3) z_9 (by decide); have zz4 := lv_neT (k := 4) (a := 4) z_11 (by decide); have zz5 := lv_neT (k := 5) (a := 5) z_13 (by decide); have zz6 := lv_neT (k := 6) (a := 6) z_15 (by decide); have zz7 := lv_neT (k := 7) (a := 7) z_17 (by decide); omega) (by decide) ?_
  refine rm_iconst (v := -1) hc dX1_look_105 (by decide) ?_
  exact rm_iret hc dX1_look_106 ⟨by subst_vars; simp [lookDoor, *], rfl⟩

abbrev rm_X1_hear : Room := { frames := 2, cells := 0, slots := 0, locals := 45 }
set_option maxHeartbeats 4000000 in
set_option maxRecDepth 100000 in
theorem c_X1_hear {l : Launch} {D : va_G} {cy : Nat → ClassId} {ad : Ads} (hI : IJ ad) (x : Mem) {k d k2 : Nat} (hk : k < 8) (hd3 : d < 3) (hkd : k = 7 → d = 0) (hk2 : k2 < 7) (num wv : Int32) (mm : Nat) (hmm : mm < 2 ^ 30) (hw : x k2 1 = nI mm) (ew : wv = x k2 0) : Cti l yX1_hear cX1_hear 8 (some .int) rm_X1_hear D cy ad [.ref (ad k 4 d), .int num, .ref (ad k2 8 0)] x (fun r y => r = hrR x k d k2 num mm ∧ y = hrM x k d k2 num mm) := by
  refine rm_entry (Qc := Qi D cy ad (fun r y => r = hrR x k d k2 num mm ∧ y = hrM x k d k2 num mm)) hI (by decide) (Nat.le_of_ble_eq_true rfl) ?_
  intro p e s m args below meth c hc
  show RM _ _ _ _ _ _ _ _ _ _ _ _ _ _ _ _ _ [(0, .ref (ad k 4 d)), (1, .int num), (2, .ref (ad k2 8 0))] []
  refine rm_aload_n hc dX1_hear_0 rfl rfl ?_
  refine rm_aload_n hc dX1_hear_1 rfl rfl ?_
  refine rm_calliV (As := [.ref (ad k2 8 0)]) (rest := []) hc dX1_hear_2 (c_X1_isLocked hI x (k := k) (d := d) (k2 := k2) (by omega) (by omega) (by omega) (by omega)) mv_X1_51 (dm_4 (by omega) (by omega) (by omega)) rfl rfl (hn := rfl) (hst := rfl) (hw := Nat.le_of_ble_eq_true rfl) (hR := ⟨⟨rfl, rfl⟩, Nat.le_of_ble_eq_true rfl, Nat.le_of_ble_eq_true rfl⟩) (hnc := ⟨Nat.zero_le _, Nat.zero_le _⟩) (fun r_1 y_1 h_1 => ?_)
  obtain ⟨e_1, ey_1⟩ := h_1
  obtain rfl := ey_1.symm
  refine rm_if_eq (tgt := 20) hc dX1_hear_5 (by decide) (fun c_2 => ?_) (fun c_2 => ?_)
  · --open
    have hL : lockS (x k2 2) (x k (31 + 22 * d)) = 0 := e_1.symm.trans c_2
    refine rm_aload_n hc dX1_hear_20 rfl rfl ?_
    refine rm_get hc dX1_hear_21 fl_X1_11 (dm_4 (by omega) (by omega) (by omega)) rfl rfl ?_
    refine rm_astore_n (ls' := [(0, .ref (ad k 4 d)), (1, .int num), (2, .ref (ad k2 8 0)), (3, .ref (ad k 5 d))]) hc dX1_hear_24 rfl (by decide) rfl ?_
    refine rm_aload_n hc dX1_hear_25 rfl rfl ?_
    refine rm_alen (n := 0) (t0 := 3) (v := 4) hc dX1_hear_26 (dm_5 (by omega) (by omega) (by omega)) rfl rfl rfl ?_
    refine rm_istore (ls' := [(0, .ref (ad k 4 d)), (1, .int num), (2, .ref (ad k2 8 0)), (3, .ref (ad k 5 d)), (4, .int 4)]) hc dX1_hear_27 (by decide) rfl ?_
    refine rm_iconst (v := 0) hc dX1_hear_29 (by decide) ?_
    refine rm_istore (ls' := [(0, .ref (ad k 4 d)), (1, .int num), (2, .ref (ad k2 8 0)), (3, .ref (ad k 5 d)), (4, .int 4), (5, .int 0)]) hc dX1_hear_30 (by decide) rfl ?_
    refine rm_iload hc dX1_hear_32 rfl ?_
    refine rm_iload hc dX1_hear_34 rfl ?_
    refine rm_icmp_ge (tgt := 121) hc dX1_hear_36 (by decide) (fun h => absurd h (by decide)) (fun _ => ?_)
    refine rm_aload_n hc dX1_hear_39 rfl rfl ?_
    refine rm_iload hc dX1_hear_40 rfl ?_
    refine rm_aald (t0 := 3) (i := 0) (v := .ref (ad k (d + 20) 0)) hc dX1_hear_42 (dm_5 (by omega) (by omega) (by omega)) rfl rfl (by omega) (by decide) rfl rfl ?_
    refine rm_astore (ls' := [(0, .ref (ad k 4 d)), (1, .int num), (2, .ref (ad k2 8 0)), (3, .ref (ad k 5 d)), (4, .int 4), (5, .int 0), (6, .ref (ad k (d + 20) 0))]) hc dX1_hear_43 (by decide) rfl ?_
    refine rm_aload hc dX1_hear_45 rfl ?_
    refine rm_iload_n hc dX1_hear_47 rfl rfl ?_
    refine rm_aload_n hc dX1_hear_48 rfl rfl ?_
    refine rm_geti hc dX1_hear_49 fl_X1_55 (dm_8 (by omega)) rfl rfl (fun v_4 e_4 => ?_)
    obtain rfl : v_4 = nI mm := e_4.trans hw
    refine rm_calliV (As := [.int num, .int (nI (mm))]) (rest := []) hc dX1_hear_52 (c_X5_stepsTo hI x (k := k) (d := d) (s0 := 0) (by omega) (by omega) (by omega) (by omega) num mm (by omega)) mv_X1_58 (dm_s (d := d) (by omega) (by omega) (by omega) (by omega)) rfl rfl (hn := rfl) (hst := rfl) (hw := Nat.le_of_ble_eq_true rfl) (hR := ⟨⟨rfl, rfl⟩, Nat.le_of_ble_eq_true rfl, Nat.le_of_ble_eq_true rfl⟩) (hnc := ⟨Nat.zero_le _, Nat.zero_le _⟩) (fun r_5 y_5 h_5 => ?_)
    obtain ⟨e_5, ey_5⟩ := h_5
    obtain rfl := ey_5.symm
    have hb_5 := stpS_le (x := x) (k := k) (d := d) (s := 0) (num := num) (mm := mm)
    obtain ⟨t_5, ht_5⟩ : ∃ t_5 : Nat, stpS x k d 0 num mm = t_5 := ⟨_, rfl⟩
    rw [ht_5] at e_5 hb_5
    obtain rfl := e_5
    refine rm_istore (ls' := [(0, .ref (ad k 4 d)), (1, .int num), (2, .ref (ad k2 8 0)), (3, .ref (ad k 5 d)), (4, .int 4), (5, .int 0), (6, .ref (ad k (d + 20) 0)), (7, .int (nI (t_5)))]) hc dX1_hear_55 (by decide) rfl ?_
    refine rm_iload hc dX1_hear_57 rfl ?_
    rcases Nat.eq_zero_or_pos t_5 with zt_5 | zt_5
    · --zero
      refine rm_if_le (tgt := 98) hc dX1_hear_59 (by decide) (fun _ => ?_) (fun h => absurd (by rw [zt_5]; decide) h)
      refine rm_iload hc dX1_hear_98 rfl ?_
      refine rm_if_le (tgt := 115) hc dX1_hear_100 (by decide) (fun _ => ?_) (fun h => absurd (by rw [zt_5]; decide) h)
      refine rm_iinc (v := 1) (ls' := [(0, .ref (ad k 4 d)), (1, .int num), (2, .ref (ad k2 8 0)), (3, .ref (ad k 5 d)), (4, .int 4), (5, .int 1), (6, .ref (ad k (d + 20) 0)), (7, .int (nI (t_5)))]) hc dX1_hear_115 rfl (by decide) (by decide) rfl ?_
      refine rm_goto (tgt := 32) hc dX1_hear_118 (by decide) ?_
      refine rm_iload hc dX1_hear_32 rfl ?_
      refine rm_iload hc dX1_hear_34 rfl ?_
      refine rm_icmp_ge (tgt := 121) hc dX1_hear_36 (by decide) (fun h => absurd h (by decide)) (fun _ => ?_)
      refine rm_aload_n hc dX1_hear_39 rfl rfl ?_
      refine rm_iload hc dX1_hear_40 rfl ?_
      refine rm_aald (t0 := 3) (i := 1) (v := .ref (ad k (d + 20) 1)) hc dX1_hear_42 (dm_5 (by omega) (by omega) (by omega)) rfl rfl (by omega) (by decide) rfl rfl ?_
      refine rm_astore (ls' := [(0, .ref (ad k 4 d)), (1, .int num), (2, .ref (ad k2 8 0)), (3, .ref (ad k 5 d)), (4, .int 4), (5, .int 1), (6, .ref (ad k (d + 20) 1)), (7, .int (nI (t_5)))]) hc dX1_hear_43 (by decide) rfl ?_
      refine rm_aload hc dX1_hear_45 rfl ?_
      refine rm_iload_n hc dX1_hear_47 rfl rfl ?_
      refine rm_aload_n hc dX1_hear_48 rfl rfl ?_
      refine rm_geti hc dX1_hear_49 fl_X1_55 (dm_8 (by omega)) rfl rfl (fun v_10 e_10 => ?_)
      obtain rfl : v_10 = nI mm := e_10.trans hw
      refine rm_calliV (As := [.int num, .int (nI (mm))]) (rest := []) hc dX1_hear_52 (c_X5_stepsTo hI x (k := k) (d := d) (s0 := 1) (by omega) (by omega) (by omega) (by omega) num mm (by omega)) mv_X1_58 (dm_s (d := d) (by omega) (by omega) (by omega) (by omega)) rfl rfl (hn := rfl) (hst := rfl) (hw := Nat.le_of_ble_eq_true rfl) (hR := ⟨⟨rfl, rfl⟩, Nat.le_of_ble_eq_true rfl, Nat.le_of_ble_eq_true rfl⟩) (hnc := ⟨Nat.zero_le _, Nat.zero_le _⟩) (fun r_11 y_11 h_11 => ?_)
      obtain ⟨e_11, ey_11⟩ := h_11
      obtain rfl := ey_11.symm
      have hb_11 := stpS_le (x := x) (k := k) (d := d) (s := 1) (num := num) (mm := mm)
      obtain ⟨t_11, ht_11⟩ : ∃ t_11 : Nat, stpS x k d 1 num mm = t_11 := ⟨_, rfl⟩
      rw [ht_11] at e_11 hb_11
      obtain rfl := e_11
      refine rm_istore (ls' := [(0, .ref (ad k 4 d)), (1, .int num), (2, .ref (ad k2 8 0)), (3, .ref (ad k 5 d)), (4, .int 4), (5, .int 1), (6, .ref (ad k (d + 20) 1)), (7, .int (nI (t_11)))]) hc dX1_hear_55 (by decide) rfl ?_
      refine rm_iload hc dX1_hear_57 rfl ?_
      rcases Nat.eq_zero_or_pos t_11 with zt_11 | zt_11
      · --zero
        refine rm_if_le (tgt := 98) hc dX1_hear_59 (by decide) (fun _ => ?_) (fun h => absurd (by rw [zt_11]; decide) h)
        refine rm_iload hc dX1_hear_98 rfl ?_
        refine rm_if_le (tgt := 115) hc dX1_hear_100 (by decide) (fun _ => ?_) (fun h => absurd (by rw [zt_11]; decide) h)
        refine rm_iinc (v := 2) (ls' := [(0, .ref (ad k 4 d)), (1, .int num), (2, .ref (ad k2 8 0)), (3, .ref (ad k 5 d)), (4, .int 4), (5, .int 2), (6, .ref (ad k (d + 20) 1)), (7, .int (nI (t_11)))]) hc dX1_hear_115 rfl (by decide) (by decide) rfl ?_
        refine rm_goto (tgt := 32) hc dX1_hear_118 (by decide) ?_
        refine rm_iload hc dX1_hear_32 rfl ?_
        refine rm_iload hc dX1_hear_34 rfl ?_
        refine rm_icmp_ge (tgt := 121) hc dX1_hear_36 (by decide) (fun h => absurd h (by decide)) (fun _ => ?_)
        refine rm_aload_n hc dX1_hear_39 rfl rfl ?_
        refine rm_iload hc dX1_hear_40 rfl ?_
        refine rm_aald (t0 := 3) (i := 2) (v := .ref (ad k (d + 20) 2)) hc dX1_hear_42 (dm_5 (by omega) (by omega) (by omega)) rfl rfl (by omega) (by decide) rfl rfl ?_
        refine rm_astore (ls' := [(0, .ref (ad k 4 d)), (1, .int num), (2, .ref (ad k2 8 0)), (3, .ref (ad k 5 d)), (4, .int 4), (5, .int 2), (6, .ref (ad k (d + 20) 2)), (7, .int (nI (t_11)))]) hc dX1_hear_43 (by decide) rfl ?_
        refine rm_aload hc dX1_hear_45 rfl ?_
        refine rm_iload_n hc dX1_hear_47 rfl rfl ?_
        refine rm_aload_n hc dX1_hear_48 rfl rfl ?_
        refine rm_geti hc dX1_hear_49 fl_X1_55 (dm_8 (by omega)) rfl rfl (fun v_16 e_16 => ?_)
        obtain rfl : v_16 = nI mm := e_16.trans hw
        refine rm_calliV (As := [.int num, .int (nI (mm))]) (rest := []) hc dX1_hear_52 (c_X5_stepsTo hI x (k := k) (d := d) (s0 := 2) (by omega) (by omega) (by omega) (by omega) num mm (by omega)) mv_X1_58 (dm_s (d := d) (by omega) (by omega) (by omega) (by omega)) rfl rfl (hn := rfl) (hst := rfl) (hw := Nat.le_of_ble_eq_true rfl) (hR := ⟨⟨rfl, rfl⟩, Nat.le_of_ble_eq_true rfl, Nat.le_of_ble_eq_true rfl⟩) (hnc := ⟨Nat.zero_le _, Nat.zero_le _⟩) (fun r_17 y_17 h_17 => ?_)
        obtain ⟨e_17, ey_17⟩ := h_17
        obtain rfl := ey_17.symm
        have hb_17 := stpS_le (x := x) (k := k) (d := d) (s := 2) (num := num) (mm := mm)
        obtain ⟨t_17, ht_17⟩ : ∃ t_17 : Nat, stpS x k d 2 num mm = t_17 := ⟨_, rfl⟩
        rw [ht_17] at e_17 hb_17
        obtain rfl := e_17
        refine rm_istore (ls' := [(0, .ref (ad k 4 d)), (1, .int num), (2, .ref (ad k2 8 0)), (3, .ref (ad k 5 d)), (4, .int 4), (5, .int 2), (6, .ref (ad k (d + 20) 2)), (7, .int (nI (t_17)))]) hc dX1_hear_55 (by decide) rfl ?_
        refine rm_iload hc dX1_hear_57 rfl ?_
        rcases Nat.eq_zero_or_pos t_17 with zt_17 | zt_17
        · --zero
          refine rm_if_le (tgt := 98) hc dX1_hear_59 (by decide) (fun _ => ?_) (fun h => absurd (by rw [zt_17]; decide) h)
          refine rm_iload hc dX1_hear_98 rfl ?_
          refine rm_if_le (tgt := 115) hc dX1_hear_100 (by decide) (fun _ => ?_) (fun h => absurd (by rw [zt_17]; decide) h)
          refine rm_iinc (v := 3) (ls' := [(0, .ref (ad k 4 d)), (1, .int num), (2, .ref (ad k2 8 0)), (3, .ref (ad k 5 d)), (4, .int 4), (5, .int 3), (6, .ref (ad k (d + 20) 2)), (7, .int (nI (t_17)))]) hc dX1_hear_115 rfl (by decide) (by decide) rfl ?_
          refine rm_goto (tgt := 32) hc dX1_hear_118 (by decide) ?_
          refine rm_iload hc dX1_hear_32 rfl ?_
          refine rm_iload hc dX1_hear_34 rfl ?_
          refine rm_icmp_ge (tgt := 121) hc dX1_hear_36 (by decide) (fun h => absurd h (by decide)) (fun _ => ?_)
          refine rm_aload_n hc dX1_hear_39 rfl rfl ?_
          refine rm_iload hc dX1_hear_40 rfl ?_
          refine rm_aald (t0 := 3) (i := 3) (v := .ref (ad k (d + 20) 3)) hc dX1_hear_42 (dm_5 (by omega) (by omega) (by omega)) rfl rfl (by omega) (by decide) rfl rfl ?_
          refine rm_astore (ls' := [(0, .ref (ad k 4 d)), (1, .int num), (2, .ref (ad k2 8 0)), (3, .ref (ad k 5 d)), (4, .int 4), (5, .int 3), (6, .ref (ad k (d + 20) 3)), (7, .int (nI (t_17)))]) hc dX1_hear_43 (by decide) rfl ?_
          refine rm_aload hc dX1_hear_45 rfl ?_
          refine rm_iload_n hc dX1_hear_47 rfl rfl ?_
          refine rm_aload_n hc dX1_hear_48 rfl rfl ?_
          refine rm_geti hc dX1_hear_49 fl_X1_55 (dm_8 (by omega)) rfl rfl (fun v_22 e_22 => ?_)
          obtain rfl : v_22 = nI mm := e_22.trans hw
          refine rm_calliV (As := [.int num, .int (nI (mm))]) (rest := []) hc dX1_hear_52 (c_X5_stepsTo hI x (k := k) (d := d) (s0 := 3) (by omega) (by omega) (by omega) (by omega) num mm (by omega)) mv_X1_58 (dm_s (d := d) (by omega) (by omega) (by omega) (by omega)) rfl rfl (hn := rfl) (hst := rfl) (hw := Nat.le_of_ble_eq_true rfl) (hR := ⟨⟨rfl, rfl⟩, Nat.le_of_ble_eq_true rfl, Nat.le_of_ble_eq_true rfl⟩) (hnc := ⟨Nat.zero_le _, Nat.zero_le _⟩) (fun r_23 y_23 h_23 => ?_)
          obtain ⟨e_23, ey_23⟩ := h_23
          obtain rfl := ey_23.symm
          have hb_23 := stpS_le (x := x) (k := k) (d := d) (s := 3) (num := num) (mm := mm)
          obtain ⟨t_23, ht_23⟩ : ∃ t_23 : Nat, stpS x k d 3 num mm = t_23 := ⟨_, rfl⟩
          rw [ht_23] at e_23 hb_23
          obtain rfl := e_23
          refine rm_istore (ls' := [(0, .ref (ad k 4 d)), (1, .int num), (2, .ref (ad k2 8 0)), (3, .ref (ad k 5 d)), (4, .int 4), (5, .int 3), (6, .ref (ad k (d + 20) 3)), (7, .int (nI (t_23)))]) hc dX1_hear_55 (by decide) rfl ?_
          refine rm_iload hc dX1_hear_57 rfl ?_
          rcases Nat.eq_zero_or_pos t_23 with zt_23 | zt_23
          · --zero
            refine rm_if_le (tgt := 98) hc dX1_hear_59 (by decide) (fun _ => ?_) (fun h => absurd (by rw [zt_23]; decide) h)
            refine rm_iload hc dX1_hear_98 rfl ?_
            refine rm_if_le (tgt := 115) hc dX1_hear_100 (by decide) (fun _ => ?_) (fun h => absurd (by rw [zt_23]; decide) h)
            refine rm_iinc (v := 4) (ls' := [(0, .ref (ad k 4 d)), (1, .int num), (2, .ref (ad k2 8 0)), (3, .ref (ad k 5 d)), (4, .int 4), (5, .int 4), (6, .ref (ad k (d + 20) 3)), (7, .int (nI (t_23)))]) hc dX1_hear_115 rfl (by decide) (by decide) rfl ?_
            refine rm_goto (tgt := 32) hc dX1_hear_118 (by decide) ?_
            refine rm_iload hc dX1_hear_32 rfl ?_
            refine rm_iload hc dX1_hear_34 rfl ?_
            refine rm_icmp_ge (tgt := 121) hc dX1_hear_36 (by decide) (fun _ => ?_) (fun h => absurd (by decide) h)
            refine rm_aload_n hc dX1_hear_121 rfl rfl ?_
            refine rm_dup hc dX1_hear_122 rfl ?_
            refine rm_geti hc dX1_hear_123 fl_X1_26 (dm_4 (by omega) (by omega) (by omega)) rfl rfl (fun v_28 e_28 => ?_)
            refine rm_iconst (v := 1) hc dX1_hear_126 (by decide) ?_
            refine rm_iadd hc dX1_hear_127 (fun v_29 e_29 => ?_)
            refine rm_put hc dX1_hear_128 fl_X1_26 (dm_4 (by omega) (by omega) (by omega)) rfl (Nat.le_of_ble_eq_true rfl) ft_1_2 rfl rfl (so_4_2 (by omega) (by omega)) (rm_nm (fun x_30 ex_30 => ?_))
            refine rm_aload_n hc dX1_hear_131 rfl rfl ?_
            refine rm_dup hc dX1_hear_132 rfl ?_
            refine rm_geti hc dX1_hear_133 fl_X1_36 (dm_4 (by omega) (by omega) (by omega)) rfl rfl (fun v_31 e_31 => ?_)
            refine rm_iconst (v := 1) hc dX1_hear_136 (by decide) ?_
            refine rm_iadd hc dX1_hear_137 (fun v_32 e_32 => ?_)
            refine rm_put hc dX1_hear_138 fl_X1_36 (dm_4 (by omega) (by omega) (by omega)) rfl (Nat.le_of_ble_eq_true rfl) ft_1_5 rfl rfl (so_4_5 (by omega) (by omega)) (rm_nm (fun x_33 ex_33 => ?_))
            refine rm_iconst (v := 2) hc dX1_hear_141 (by decide) ?_
            exact rm_iret hc dX1_hear_142 ⟨(hr_2 (k2 := k2) hL (mean_4 (by rw [ht_5]; exact zt_5) (by rw [ht_11]; exact zt_11) (by rw [ht_17]; exact zt_17) (by rw [ht_23]; exact zt_23))).1.symm, by rw [(hr_2 (k2 := k2) hL (mean_4 (by rw [ht_5]; exact zt_5) (by rw [ht_11]; exact zt_11) (by rw [ht_17]; exact zt_17) (by rw [ht_23]; exact zt_23))).2]; subst_vars; simp [up]⟩
          · --pos
            refine rm_if_le (tgt := 98) hc dX1_hear_59 (by decide) (fun h => absurd h (nI_nle (n := t_23) (by omega) (by omega))) (fun _ => ?_)
            refine rm_aload hc dX1_hear_62 rfl ?_
            refine rm_iload hc dX1_hear_64 rfl ?_
            refine rm_aload_n hc dX1_hear_66 rfl rfl ?_
            refine rm_geti hc dX1_hear_67 fl_X1_62 (dm_8 (by omega)) rfl rfl (fun v_35 e_35 => ?_)
            obtain rfl : wv = v_35 := (e_35.trans ew.symm).symm
            refine rm_calliV (As := [.int (nI (t_23)), .int wv]) (rest := []) hc dX1_hear_70 (c_X5_take hI x (k := k) (d := d) (s0 := 3) (by omega) (by omega) (by omega) (by omega) (nI (t_23)) wv) mv_X1_65 (dm_s (d := d) (by omega) (by omega) (by omega) (by omega)) rfl rfl (hn := rfl) (hst := rfl) (hw := Nat.le_of_ble_eq_true rfl) (hR := ⟨⟨rfl, rfl⟩, Nat.le_of_ble_eq_true rfl, Nat.le_of_ble_eq_true rfl⟩) (hnc := ⟨Nat.zero_le _, Nat.zero_le _⟩) (fun r_36 y_36 h_36 => ?_)
            obtain ⟨e_36, ey_36⟩ := h_36
            by_cases hT : takS x k d 3 (nI (t_23)) wv
            · --take 1
              rw [if_pos hT] at e_36 ey_36
              obtain rfl := e_36
              refine rm_if_eq (tgt := 98) hc dX1_hear_73 (by decide) (fun h => absurd h (by decide)) (fun _ => ?_)
              refine rm_aload_n hc dX1_hear_76 rfl rfl ?_
              refine rm_iconst (v := 1) hc dX1_hear_77 (by decide) ?_
              refine rm_put hc dX1_hear_78 fl_X1_22 (dm_4 (by omega) (by omega) (by omega)) rfl (Nat.le_of_ble_eq_true rfl) ft_1_1 rfl rfl (so_4_1 (by omega) (by omega)) (rm_nm (fun x_38 ex_38 => ?_))
              refine rm_aload_n hc dX1_hear_81 rfl rfl ?_
              refine rm_dup hc dX1_hear_82 rfl ?_
              refine rm_geti hc dX1_hear_83 fl_X1_30 (dm_4 (by omega) (by omega) (by omega)) rfl rfl (fun v_39 e_39 => ?_)
              refine rm_iconst (v := 1) hc dX1_hear_86 (by decide) ?_
              refine rm_iadd hc dX1_hear_87 (fun v_40 e_40 => ?_)
              refine rm_put hc dX1_hear_88 fl_X1_30 (dm_4 (by omega) (by omega) (by omega)) rfl (Nat.le_of_ble_eq_true rfl) ft_1_3 rfl rfl (so_4_3 (by omega) (by omega)) (rm_nm (fun x_41 ex_41 => ?_))
              refine rm_aload_n hc dX1_hear_91 rfl rfl ?_
              refine rm_iconst (v := 0) hc dX1_hear_92 (by decide) ?_
              refine rm_put hc dX1_hear_93 fl_X1_26 (dm_4 (by omega) (by omega) (by omega)) rfl (Nat.le_of_ble_eq_true rfl) ft_1_2 rfl rfl (so_4_2 (by omega) (by omega)) (rm_nm (fun x_42 ex_42 => ?_))
              refine rm_iconst (v := 0) hc dX1_hear_96 (by decide) ?_
              exact rm_iret hc dX1_hear_97 ⟨(hr_0 (k2 := k2) hL ((mean_3 (by rw [ht_5]; exact zt_5) (by rw [ht_11]; exact zt_11) (by rw [ht_17]; exact zt_17) (by rw [ht_23]; omega)).trans (by rw [ht_23])) (by omega) (by rw [← ew]; exact hT)).1.symm, by rw [(hr_0 (k2 := k2) hL ((mean_3 (by rw [ht_5]; exact zt_5) (by rw [ht_11]; exact zt_11) (by rw [ht_17]; exact zt_17) (by rw [ht_23]; omega)).trans (by rw [ht_23])) (by omega) (by rw [← ew]; exact hT)).2]; subst_vars; simp [opnM, up]⟩
            · --take 0
              rw [if_neg hT] at e_36 ey_36
              obtain rfl := e_36
              refine rm_if_eq (tgt := 98) hc dX1_hear_73 (by decide) (fun _ => ?_) (fun h => absurd (by decide) h)
              refine rm_iload hc dX1_hear_98 rfl ?_
              refine rm_if_le (tgt := 115) hc dX1_hear_100 (by decide) (fun h => absurd h (nI_nle (n := t_23) (by omega) (by omega))) (fun _ => ?_)
              refine rm_aload_n hc dX1_hear_103 rfl rfl ?_
              refine rm_dup hc dX1_hear_104 rfl ?_
              refine rm_geti hc dX1_hear_105 fl_X1_33 (dm_4 (by omega) (by omega) (by omega)) rfl rfl (fun v_45 e_45 => ?_)
              refine rm_iconst (v := 1) hc dX1_hear_108 (by decide) ?_
              refine rm_iadd hc dX1_hear_109 (fun v_46 e_46 => ?_)
              refine rm_put hc dX1_hear_110 fl_X1_33 (dm_4 (by omega) (by omega) (by omega)) rfl (Nat.le_of_ble_eq_true rfl) ft_1_4 rfl rfl (so_4_4 (by omega) (by omega)) (rm_nm (fun x_47 ex_47 => ?_))
              refine rm_iconst (v := 1) hc dX1_hear_113 (by decide) ?_
              exact rm_iret hc dX1_hear_114 ⟨(hr_1 (k2 := k2) hL ((mean_3 (by rw [ht_5]; exact zt_5) (by rw [ht_11]; exact zt_11) (by rw [ht_17]; exact zt_17) (by rw [ht_23]; omega)).trans (by rw [ht_23])) (by omega) (by rw [← ew]; exact hT)).1.symm, by rw [(hr_1 (k2 := k2) hL ((mean_3 (by rw [ht_5]; exact zt_5) (by rw [ht_11]; exact zt_11) (by rw [ht_17]; exact zt_17) (by rw [ht_23]; omega)).trans (by rw [ht_23])) (by omega) (by rw [← ew]; exact hT)).2]; subst_vars; rw [tak0_33]⟩
        · --pos
          refine rm_if_le (tgt := 98) hc dX1_hear_59 (by decide) (fun h => absurd h (nI_nle (n := t_17) (by omega) (by omega))) (fun _ => ?_)
          refine rm_aload hc dX1_hear_62 rfl ?_
          refine rm_iload hc dX1_hear_64 rfl ?_
          refine rm_aload_n hc dX1_hear_66 rfl rfl ?_
          refine rm_geti hc dX1_hear_67 fl_X1_62 (dm_8 (by omega)) rfl rfl (fun v_49 e_49 => ?_)
          obtain rfl : wv = v_49 := (e_49.trans ew.symm).symm
          refine rm_calliV (As := [.int (nI (t_17)), .int wv]) (rest := []) hc dX1_hear_70 (c_X5_take hI x (k := k) (d := d) (s0 := 2) (by omega) (by omega) (by omega) (by omega) (nI (t_17)) wv) mv_X1_65 (dm_s (d := d) (by omega) (by omega) (by omega) (by omega)) rfl rfl (hn := rfl) (hst := rfl) (hw := Nat.le_of_ble_eq_true rfl) (hR := ⟨⟨rfl, rfl⟩, Nat.le_of_ble_eq_true rfl, Nat.le_of_ble_eq_true rfl⟩) (hnc := ⟨Nat.zero_le _, Nat.zero_le _⟩) (fun r_50 y_50 h_50 => ?_)
          obtain ⟨e_50, ey_50⟩ := h_50
          by_cases hT : takS x k d 2 (nI (t_17)) wv
          · --take 1
            rw [if_pos hT] at e_50 ey_50
            obtain rfl := e_50
            refine rm_if_eq (tgt := 98) hc dX1_hear_73 (by decide) (fun h => absurd h (by decide)) (fun _ => ?_)
            refine rm_aload_n hc dX1_hear_76 rfl rfl ?_
            refine rm_iconst (v := 1) hc dX1_hear_77 (by decide) ?_
            refine rm_put hc dX1_hear_78 fl_X1_22 (dm_4 (by omega) (by omega) (by omega)) rfl (Nat.le_of_ble_eq_true rfl) ft_1_1 rfl rfl (so_4_1 (by omega) (by omega)) (rm_nm (fun x_52 ex_52 => ?_))
            refine rm_aload_n hc dX1_hear_81 rfl rfl ?_
            refine rm_dup hc dX1_hear_82 rfl ?_
            refine rm_geti hc dX1_hear_83 fl_X1_30 (dm_4 (by omega) (by omega) (by omega)) rfl rfl (fun v_53 e_53 => ?_)
            refine rm_iconst (v := 1) hc dX1_hear_86 (by decide) ?_
            refine rm_iadd hc dX1_hear_87 (fun v_54 e_54 => ?_)
            refine rm_put hc dX1_hear_88 fl_X1_30 (dm_4 (by omega) (by omega) (by omega)) rfl (Nat.le_of_ble_eq_true rfl) ft_1_3 rfl rfl (so_4_3 (by omega) (by omega)) (rm_nm (fun x_55 ex_55 => ?_))
            refine rm_aload_n hc dX1_hear_91 rfl rfl ?_
            refine rm_iconst (v := 0) hc dX1_hear_92 (by decide) ?_
            refine rm_put hc dX1_hear_93 fl_X1_26 (dm_4 (by omega) (by omega) (by omega)) rfl (Nat.le_of_ble_eq_true rfl) ft_1_2 rfl rfl (so_4_2 (by omega) (by omega)) (rm_nm (fun x_56 ex_56 => ?_))
            refine rm_iconst (v := 0) hc dX1_hear_96 (by decide) ?_
            exact rm_iret hc dX1_hear_97 ⟨(hr_0 (k2 := k2) hL ((mean_2 (by rw [ht_5]; exact zt_5) (by rw [ht_11]; exact zt_11) (by rw [ht_17]; omega)).trans (by rw [ht_17])) (by omega) (by rw [← ew]; exact hT)).1.symm, by rw [(hr_0 (k2 := k2) hL ((mean_2 (by rw [ht_5]; exact zt_5) (by rw [ht_11]; exact zt_11) (by rw [ht_17]; omega)).trans (by rw [ht_17])) (by omega) (by rw [← ew]; exact hT)).2]; subst_vars; simp [opnM, up]⟩
          · --take 0
            rw [if_neg hT] at e_50 ey_50
            obtain rfl := e_50
            refine rm_if_eq (tgt := 98) hc dX1_hear_73 (by decide) (fun _ => ?_) (fun h => absurd (by decide) h)
            refine rm_iload hc dX1_hear_98 rfl ?_
            refine rm_if_le (tgt := 115) hc dX1_hear_100 (by decide) (fun h => absurd h (nI_nle (n := t_17) (by omega) (by omega))) (fun _ => ?_)
            refine rm_aload_n hc dX1_hear_103 rfl rfl ?_
            refine rm_dup hc dX1_hear_104 rfl ?_
            refine rm_geti hc dX1_hear_105 fl_X1_33 (dm_4 (by omega) (by omega) (by omega)) rfl rfl (fun v_59 e_59 => ?_)
            refine rm_iconst (v := 1) hc dX1_hear_108 (by decide) ?_
            refine rm_iadd hc dX1_hear_109 (fun v_60 e_60 => ?_)
            refine rm_put hc dX1_hear_110 fl_X1_33 (dm_4 (by omega) (by omega) (by omega)) rfl (Nat.le_of_ble_eq_true rfl) ft_1_4 rfl rfl (so_4_4 (by omega) (by omega)) (rm_nm (fun x_61 ex_61 => ?_))
            refine rm_iconst (v := 1) hc dX1_hear_113 (by decide) ?_
            exact rm_iret hc dX1_hear_114 ⟨(hr_1 (k2 := k2) hL ((mean_2 (by rw [ht_5]; exact zt_5) (by rw [ht_11]; exact zt_11) (by rw [ht_17]; omega)).trans (by rw [ht_17])) (by omega) (by rw [← ew]; exact hT)).1.symm, by rw [(hr_1 (k2 := k2) hL ((mean_2 (by rw [ht_5]; exact zt_5) (by rw [ht_11]; exact zt_11) (by rw [ht_17]; omega)).trans (by rw [ht_17])) (by omega) (by rw [← ew]; exact hT)).2]; subst_vars; rw [tak0_33]⟩
      · --pos
        refine rm_if_le (tgt := 98) hc dX1_hear_59 (by decide) (fun h => absurd h (nI_nle (n := t_11) (by omega) (by omega))) (fun _ => ?_)
        refine rm_aload hc dX1_hear_62 rfl ?_
        refine rm_iload hc dX1_hear_64 rfl ?_
        refine rm_aload_n hc dX1_hear_66 rfl rfl ?_
        refine rm_geti hc dX1_hear_67 fl_X1_62 (dm_8 (by omega)) rfl rfl (fun v_63 e_63 => ?_)
        obtain rfl : wv = v_63 := (e_63.trans ew.symm).symm
        refine rm_calliV (As := [.int (nI (t_11)), .int wv]) (rest := []) hc dX1_hear_70 (c_X5_take hI x (k := k) (d := d) (s0 := 1) (by omega) (by omega) (by omega) (by omega) (nI (t_11)) wv) mv_X1_65 (dm_s (d := d) (by omega) (by omega) (by omega) (by omega)) rfl rfl (hn := rfl) (hst := rfl) (hw := Nat.le_of_ble_eq_true rfl) (hR := ⟨⟨rfl, rfl⟩, Nat.le_of_ble_eq_true rfl, Nat.le_of_ble_eq_true rfl⟩) (hnc := ⟨Nat.zero_le _, Nat.zero_le _⟩) (fun r_64 y_64 h_64 => ?_)
        obtain ⟨e_64, ey_64⟩ := h_64
        by_cases hT : takS x k d 1 (nI (t_11)) wv
        · --take 1
          rw [if_pos hT] at e_64 ey_64
          obtain rfl := e_64
          refine rm_if_eq (tgt := 98) hc dX1_hear_73 (by decide) (fun h => absurd h (by decide)) (fun _ => ?_)
          refine rm_aload_n hc dX1_hear_76 rfl rfl ?_
          refine rm_iconst (v := 1) hc dX1_hear_77 (by decide) ?_
          refine rm_put hc dX1_hear_78 fl_X1_22 (dm_4 (by omega) (by omega) (by omega)) rfl (Nat.le_of_ble_eq_true rfl) ft_1_1 rfl rfl (so_4_1 (by omega) (by omega)) (rm_nm (fun x_66 ex_66 => ?_))
          refine rm_aload_n hc dX1_hear_81 rfl rfl ?_
          refine rm_dup hc dX1_hear_82 rfl ?_
          refine rm_geti hc dX1_hear_83 fl_X1_30 (dm_4 (by omega) (by omega) (by omega)) rfl rfl (fun v_67 e_67 => ?_)
          refine rm_iconst (v := 1) hc dX1_hear_86 (by decide) ?_
          refine rm_iadd hc dX1_hear_87 (fun v_68 e_68 => ?_)
          refine rm_put hc dX1_hear_88 fl_X1_30 (dm_4 (by omega) (by omega) (by omega)) rfl (Nat.le_of_ble_eq_true rfl) ft_1_3 rfl rfl (so_4_3 (by omega) (by omega)) (rm_nm (fun x_69 ex_69 => ?_))
          refine rm_aload_n hc dX1_hear_91 rfl rfl ?_
          refine rm_iconst (v := 0) hc dX1_hear_92 (by decide) ?_
          refine rm_put hc dX1_hear_93 fl_X1_26 (dm_4 (by omega) (by omega) (by omega)) rfl (Nat.le_of_ble_eq_true rfl) ft_1_2 rfl rfl (so_4_2 (by omega) (by omega)) (rm_nm (fun x_70 ex_70 => ?_))
          refine rm_iconst (v := 0) hc dX1_hear_96 (by decide) ?_
          exact rm_iret hc dX1_hear_97 ⟨(hr_0 (k2 := k2) hL ((mean_1 (by rw [ht_5]; exact zt_5) (by rw [ht_11]; omega)).trans (by rw [ht_11])) (by omega) (by rw [← ew]; exact hT)).1.symm, by rw [(hr_0 (k2 := k2) hL ((mean_1 (by rw [ht_5]; exact zt_5) (by rw [ht_11]; omega)).trans (by rw [ht_11])) (by omega) (by rw [← ew]; exact hT)).2]; subst_vars; simp [opnM, up]⟩
        · --take 0
          rw [if_neg hT] at e_64 ey_64
          obtain rfl := e_64
          refine rm_if_eq (tgt := 98) hc dX1_hear_73 (by decide) (fun _ => ?_) (fun h => absurd (by decide) h)
          refine rm_iload hc dX1_hear_98 rfl ?_
          refine rm_if_le (tgt := 115) hc dX1_hear_100 (by decide) (fun h => absurd h (nI_nle (n := t_11) (by omega) (by omega))) (fun _ => ?_)
          refine rm_aload_n hc dX1_hear_103 rfl rfl ?_
          refine rm_dup hc dX1_hear_104 rfl ?_
          refine rm_geti hc dX1_hear_105 fl_X1_33 (dm_4 (by omega) (by omega) (by omega)) rfl rfl (fun v_73 e_73 => ?_)
          refine rm_iconst (v := 1) hc dX1_hear_108 (by decide) ?_
          refine rm_iadd hc dX1_hear_109 (fun v_74 e_74 => ?_)
          refine rm_put hc dX1_hear_110 fl_X1_33 (dm_4 (by omega) (by omega) (by omega)) rfl (Nat.le_of_ble_eq_true rfl) ft_1_4 rfl rfl (so_4_4 (by omega) (by omega)) (rm_nm (fun x_75 ex_75 => ?_))
          refine rm_iconst (v := 1) hc dX1_hear_113 (by decide) ?_
          exact rm_iret hc dX1_hear_114 ⟨(hr_1 (k2 := k2) hL ((mean_1 (by rw [ht_5]; exact zt_5) (by rw [ht_11]; omega)).trans (by rw [ht_11])) (by omega) (by rw [← ew]; exact hT)).1.symm, by rw [(hr_1 (k2 := k2) hL ((mean_1 (by rw [ht_5]; exact zt_5) (by rw [ht_11]; omega)).trans (by rw [ht_11])) (by omega) (by rw [← ew]; exact hT)).2]; subst_vars; rw [tak0_33]⟩
    · --pos
      refine rm_if_le (tgt := 98) hc dX1_hear_59 (by decide) (fun h => absurd h (nI_nle (n := t_5) (by omega) (by omega))) (fun _ => ?_)
      refine rm_aload hc dX1_hear_62 rfl ?_
      refine rm_iload hc dX1_hear_64 rfl ?_
      refine rm_aload_n hc dX1_hear_66 rfl rfl ?_
      refine rm_geti hc dX1_hear_67 fl_X1_62 (dm_8 (by omega)) rfl rfl (fun v_77 e_77 => ?_)
      obtain rfl : wv = v_77 := (e_77.trans ew.symm).symm
      refine rm_calliV (As := [.int (nI (t_5)), .int wv]) (rest := []) hc dX1_hear_70 (c_X5_take hI x (k := k) (d := d) (s0 := 0) (by omega) (by omega) (by omega) (by omega) (nI (t_5)) wv) mv_X1_65 (dm_s (d := d) (by omega) (by omega) (by omega) (by omega)) rfl rfl (hn := rfl) (hst := rfl) (hw := Nat.le_of_ble_eq_true rfl) (hR := ⟨⟨rfl, rfl⟩, Nat.le_of_ble_eq_true rfl, Nat.le_of_ble_eq_true rfl⟩) (hnc := ⟨Nat.zero_le _, Nat.zero_le _⟩) (fun r_78 y_78 h_78 => ?_)
      obtain ⟨e_78, ey_78⟩ := h_78
      by_cases hT : takS x k d 0 (nI (t_5)) wv
      · --take 1
        rw [if_pos hT] at e_78 ey_78
        obtain rfl := e_78
        refine rm_if_eq (tgt := 98) hc dX1_hear_73 (by decide) (fun h => absurd h (by decide)) (fun _ => ?_)
        refine rm_aload_n hc dX1_hear_76 rfl rfl ?_
        refine rm_iconst (v := 1) hc dX1_hear_77 (by decide) ?_
        refine rm_put hc dX1_hear_78 fl_X1_22 (dm_4 (by omega) (by omega) (by omega)) rfl (Nat.le_of_ble_eq_true rfl) ft_1_1 rfl rfl (so_4_1 (by omega) (by omega)) (rm_nm (fun x_80 ex_80 => ?_))
        refine rm_aload_n hc dX1_hear_81 rfl rfl ?_
        refine rm_dup hc dX1_hear_82 rfl ?_
        refine rm_geti hc dX1_hear_83 fl_X1_30 (dm_4 (by omega) (by omega) (by omega)) rfl rfl (fun v_81 e_81 => ?_)
        refine rm_iconst (v := 1) hc dX1_hear_86 (by decide) ?_
        refine rm_iadd hc dX1_hear_87 (fun v_82 e_82 => ?_)
        refine rm_put hc dX1_hear_88 fl_X1_30 (dm_4 (by omega) (by omega) (by omega)) rfl (Nat.le_of_ble_eq_true rfl) ft_1_3 rfl rfl (so_4_3 (by omega) (by omega)) (rm_nm (fun x_83 ex_83 => ?_))
        refine rm_aload_n hc dX1_hear_91 rfl rfl ?_
        refine rm_iconst (v := 0) hc dX1_hear_92 (by decide) ?_
        refine rm_put hc dX1_hear_93 fl_X1_26 (dm_4 (by omega) (by omega) (by omega)) rfl (Nat.le_of_ble_eq_true rfl) ft_1_2 rfl rfl (so_4_2 (by omega) (by omega)) (rm_nm (fun x_84 ex_84 => ?_))
        refine rm_iconst (v := 0) hc dX1_hear_96 (by decide) ?_
        exact rm_iret hc dX1_hear_97 ⟨(hr_0 (k2 := k2) hL ((mean_0  (by rw [ht_5]; omega)).trans (by rw [ht_5])) (by omega) (by rw [← ew]; exact hT)).1.symm, by rw [(hr_0 (k2 := k2) hL ((mean_0  (by rw [ht_5]; omega)).trans (by rw [ht_5])) (by omega) (by rw [← ew]; exact hT)).2]; subst_vars; simp [opnM, up]⟩
      · --take 0
        rw [if_neg hT] at e_78 ey_78
        obtain rfl := e_78
        refine rm_if_eq (tgt := 98) hc dX1_hear_73 (by decide) (fun _ => ?_) (fun h => absurd (by decide) h)
        refine rm_iload hc dX1_hear_98 rfl ?_
        refine rm_if_le (tgt := 115) hc dX1_hear_100 (by decide) (fun h => absurd h (nI_nle (n := t_5) (by omega) (by omega))) (fun _ => ?_)
        refine rm_aload_n hc dX1_hear_103 rfl rfl ?_
        refine rm_dup hc dX1_hear_104 rfl ?_
        refine rm_geti hc dX1_hear_105 fl_X1_33 (dm_4 (by omega) (by omega) (by omega)) rfl rfl (fun v_87 e_87 => ?_)
        refine rm_iconst (v := 1) hc dX1_hear_108 (by decide) ?_
        refine rm_iadd hc dX1_hear_109 (fun v_88 e_88 => ?_)
        refine rm_put hc dX1_hear_110 fl_X1_33 (dm_4 (by omega) (by omega) (by omega)) rfl (Nat.le_of_ble_eq_true rfl) ft_1_4 rfl rfl (so_4_4 (by omega) (by omega)) (rm_nm (fun x_89 ex_89 => ?_))
        refine rm_iconst (v := 1) hc dX1_hear_113 (by decide) ?_
        exact rm_iret hc dX1_hear_114 ⟨(hr_1 (k2 := k2) hL ((mean_0  (by rw [ht_5]; omega)).trans (by rw [ht_5])) (by omega) (by rw [← ew]; exact hT)).1.symm, by rw [(hr_1 (k2 := k2) hL ((mean_0  (by rw [ht_5]; omega)).trans (by rw [ht_5])) (by omega) (by rw [← ew]; exact hT)).2]; subst_vars; rw [tak0_33]⟩
  · --locked
    refine rm_aload_n hc dX1_hear_8 rfl rfl ?_
    refine rm_dup hc dX1_hear_9 rfl ?_
    refine rm_geti hc dX1_hear_10 fl_X1_39 (dm_4 (by omega) (by omega) (by omega)) rfl rfl (fun v_90 e_90 => ?_)
    refine rm_iconst (v := 1) hc dX1_hear_13 (by decide) ?_
    refine rm_iadd hc dX1_hear_14 (fun v_91 e_91 => ?_)
    refine rm_put hc dX1_hear_15 fl_X1_39 (dm_4 (by omega) (by omega) (by omega)) rfl (Nat.le_of_ble_eq_true rfl) ft_1_6 rfl rfl (so_4_6 (by omega) (by omega)) (rm_nm (fun x_92 ex_92 => ?_))
    refine rm_iconst (v := 3) hc dX1_hear_18 (by decide) ?_
    exact rm_iret hc dX1_hear_19 ⟨by subst_vars; exact (hr_3 (by assumption)).1.symm, by subst_vars; exact (hr_3 (by assumption)).2.symm⟩

abbrev rm_X6_copyFrom : Room := { frames := 2, cells := 0, slots := 0, locals := 61 }
set_option maxHeartbeats 4000000 in
set_option maxRecDepth 100000 in
theorem c_X6_copyFrom {l : Launch} {D : va_G} {cy : Nat → ClassId} {ad : Ads} (hI : IJ ad) (x : Mem) {k k2 : Nat} (hk : k < 7) (hk2 : k2 < 7) (hkk : k2 ≠ k) (hF : FLG x k2) : Ctv l yX6_copyFrom cX6_copyFrom 3 none rm_X6_copyFrom D cy ad [.ref (ad k 0 0), .ref (ad k2 0 0)] x (fun y => y = cpS x k 0 k2 0 96) := by
  refine rm_entry (Qc := Qv D cy ad (fun y => y = cpS x k 0 k2 0 96)) hI (by decide) (Nat.le_of_ble_eq_true rfl) ?_
  intro p e s m args below meth c hc
  show RM _ _ _ _ _ _ _ _ _ _ _ _ _ _ _ _ _ [(0, .ref (ad k 0 0)), (1, .ref (ad k2 0 0))] []
  refine rm_iconst (v := 0) hc dX6_copyFrom_0 (by decide) ?_
  refine rm_istore_n (ls' := [(0, .ref (ad k 0 0)), (1, .ref (ad k2 0 0)), (2, .int 0)]) hc dX6_copyFrom_1 rfl (by decide) rfl ?_
  refine rm_iload_n hc dX6_copyFrom_2 rfl rfl ?_
  refine rm_iconst (v := 4) hc dX6_copyFrom_3 (by decide) ?_
  refine rm_icmp_ge (tgt := 28) hc dX6_copyFrom_4 (by decide) (fun h => absurd h (by decide)) (fun _ => ?_)
  refine rm_aload_n hc dX6_copyFrom_7 rfl rfl ?_
  refine rm_get hc dX6_copyFrom_8 fl_X6_11 (dm_0 (by omega)) rfl rfl ?_
  refine rm_iload_n hc dX6_copyFrom_11 rfl rfl ?_
  refine rm_aald (t0 := 1) (i := 0) (v := .ref (ad k 2 0)) hc dX6_copyFrom_12 (dm_1 (by omega)) rfl rfl (by omega) (by decide) rfl rfl ?_
  refine rm_aload_n hc dX6_copyFrom_13 rfl rfl ?_
  refine rm_get hc dX6_copyFrom_14 fl_X6_11 (dm_0 (by omega)) rfl rfl ?_
  refine rm_iload_n hc dX6_copyFrom_17 rfl rfl ?_
  refine rm_aald (t0 := 1) (i := 0) (v := .ref (ad k2 2 0)) hc dX6_copyFrom_18 (dm_1 (by omega)) rfl rfl (by omega) (by decide) rfl rfl ?_
  refine rm_callvV (As := [.ref (ad k2 2 0)]) (rest := []) hc dX6_copyFrom_19 (c_X2_copyFrom hI x (k := k) (j := 0) (k2 := k2) (by omega) (by omega) (by omega) hkk) mv_X6_41 (dm_2 (by omega) (by omega)) rfl rfl (hn := rfl) (hst := rfl) (hw := Nat.le_of_ble_eq_true rfl) (hR := ⟨⟨rfl, rfl⟩, Nat.le_of_ble_eq_true rfl, Nat.le_of_ble_eq_true rfl⟩) (hnc := ⟨Nat.zero_le _, Nat.zero_le _⟩) (fun y_2 h_2 => ?_)
  refine rm_iinc (v := 1) (ls' := [(0, .ref (ad k 0 0)), (1, .ref (ad k2 0 0)), (2, .int 1)]) hc dX6_copyFrom_22 rfl (by decide) (by decide) rfl ?_
  refine rm_goto (tgt := 2) hc dX6_copyFrom_25 (by decide) ?_
  refine rm_iload_n hc dX6_copyFrom_2 rfl rfl ?_
  refine rm_iconst (v := 4) hc dX6_copyFrom_3 (by decide) ?_
  refine rm_icmp_ge (tgt := 28) hc dX6_copyFrom_4 (by decide) (fun h => absurd h (by decide)) (fun _ => ?_)
  refine rm_aload_n hc dX6_copyFrom_7 rfl rfl ?_
  refine rm_get hc dX6_copyFrom_8 fl_X6_11 (dm_0 (by omega)) rfl rfl ?_
  refine rm_iload_n hc dX6_copyFrom_11 rfl rfl ?_
  refine rm_aald (t0 := 1) (i := 1) (v := .ref (ad k 2 1)) hc dX6_copyFrom_12 (dm_1 (by omega)) rfl rfl (by omega) (by decide) rfl rfl ?_
  refine rm_aload_n hc dX6_copyFrom_13 rfl rfl ?_
  refine rm_get hc dX6_copyFrom_14 fl_X6_11 (dm_0 (by omega)) rfl rfl ?_
  refine rm_iload_n hc dX6_copyFrom_17 rfl rfl ?_
  refine rm_aald (t0 := 1) (i := 1) (v := .ref (ad k2 2 1)) hc dX6_copyFrom_18 (dm_1 (by omega)) rfl rfl (by omega) (by decide) rfl rfl ?_
  refine rm_callvV (As := [.ref (ad k2 2 1)]) (rest := []) hc dX6_copyFrom_19 (c_X2_copyFrom hI y_2 (k := k) (j := 1) (k2 := k2) (by omega) (by omega) (by omega) hkk) mv_X6_41 (dm_2 (by omega) (by omega)) rfl rfl (hn := rfl) (hst := rfl) (hw := Nat.le_of_ble_eq_true rfl) (hR := ⟨⟨rfl, rfl⟩, Nat.le_of_ble_eq_true rfl, Nat.le_of_ble_eq_true rfl⟩) (hnc := ⟨Nat.zero_le _, Nat.zero_le _⟩) (fun y_4 h_4 => ?_)
  refine rm_iinc (v := 2) (ls' := [(0, .ref (ad k 0 0)), (1, .ref (ad k2 0 0)), (2, .int 2)]) hc dX6_copyFrom_22 rfl (by decide) (by decide) rfl ?_
  refine rm_goto (tgt := 2) hc dX6_copyFrom_25 (by decide) ?_
  refine rm_iload_n hc dX6_copyFrom_2 rfl rfl ?_
  refine rm_iconst (v := 4) hc dX6_copyFrom_3 (by decide) ?_
  refine rm_icmp_ge (tgt := 28) hc dX6_copyFrom_4 (by decide) (fun h => absurd h (by decide)) (fun _ => ?_)
  refine rm_aload_n hc dX6_copyFrom_7 rfl rfl ?_
  refine rm_get hc dX6_copyFrom_8 fl_X6_11 (dm_0 (by omega)) rfl rfl ?_
  refine rm_iload_n hc dX6_copyFrom_11 rfl rfl ?_
  refine rm_aald (t0 := 1) (i := 2) (v := .ref (ad k 2 2)) hc dX6_copyFrom_12 (dm_1 (by omega)) rfl rfl (by omega) (by decide) rfl rfl ?_
  refine rm_aload_n hc dX6_copyFrom_13 rfl rfl ?_
  refine rm_get hc dX6_copyFrom_14 fl_X6_11 (dm_0 (by omega)) rfl rfl ?_
  refine rm_iload_n hc dX6_copyFrom_17 rfl rfl ?_
  refine rm_aald (t0 := 1) (i := 2) (v := .ref (ad k2 2 2)) hc dX6_copyFrom_18 (dm_1 (by omega)) rfl rfl (by omega) (by decide) rfl rfl ?_
  refine rm_callvV (As := [.ref (ad k2 2 2)]) (rest := []) hc dX6_copyFrom_19 (c_X2_copyFrom hI y_4 (k := k) (j := 2) (k2 := k2) (by omega) (by omega) (by omega) hkk) mv_X6_41 (dm_2 (by omega) (by omega)) rfl rfl (hn := rfl) (hst := rfl) (hw := Nat.le_of_ble_eq_true rfl) (hR := ⟨⟨rfl, rfl⟩, Nat.le_of_ble_eq_true rfl, Nat.le_of_ble_eq_true rfl⟩) (hnc := ⟨Nat.zero_le _, Nat.zero_le _⟩) (fun y_6 h_6 => ?_)
  refine rm_iinc (v := 3) (ls' := [(0, .ref (ad k 0 0)), (1, .ref (ad k2 0 0)), (2, .int 3)]) hc dX6_copyFrom_22 rfl (by decide) (by decide) rfl ?_
  refine rm_goto (tgt := 2) hc dX6_copyFrom_25 (by decide) ?_
  refine rm_iload_n hc dX6_copyFrom_2 rfl rfl ?_
  refine rm_iconst (v := 4) hc dX6_copyFrom_3 (by decide) ?_
  refine rm_icmp_ge (tgt := 28) hc dX6_copyFrom_4 (by decide) (fun h => absurd h (by decide)) (fun _ => ?_)
  refine rm_aload_n hc dX6_copyFrom_7 rfl rfl ?_
  refine rm_get hc dX6_copyFrom_8 fl_X6_11 (dm_0 (by omega)) rfl rfl ?_
  refine rm_iload_n hc dX6_copyFrom_11 rfl rfl ?_
  refine rm_aald (t0 := 1) (i := 3) (v := .ref (ad k 2 3)) hc dX6_copyFrom_12 (dm_1 (by omega)) rfl rfl (by omega) (by decide) rfl rfl ?_
  refine rm_aload_n hc dX6_copyFrom_13 rfl rfl ?_
  refine rm_get hc dX6_copyFrom_14 fl_X6_11 (dm_0 (by omega)) rfl rfl ?_
  refine rm_iload_n hc dX6_copyFrom_17 rfl rfl ?_
  refine rm_aald (t0 := 1) (i := 3) (v := .ref (ad k2 2 3)) hc dX6_copyFrom_18 (dm_1 (by omega)) rfl rfl (by omega) (by decide) rfl rfl ?_
  refine rm_callvV (As := [.ref (ad k2 2 3)]) (rest := []) hc dX6_copyFrom_19 (c_X2_copyFrom hI y_6 (k := k) (j := 3) (k2 := k2) (by omega) (by omega) (by omega) hkk) mv_X6_41 (dm_2 (by omega) (by omega)) rfl rfl (hn := rfl) (hst := rfl) (hw := Nat.le_of_ble_eq_true rfl) (hR := ⟨⟨rfl, rfl⟩, Nat.le_of_ble_eq_true rfl, Nat.le_of_ble_eq_true rfl⟩) (hnc := ⟨Nat.zero_le _, Nat.zero_le _⟩) (fun y_8 h_8 => ?_)
  refine rm_iinc (v := 4) (ls' := [(0, .ref (ad k 0 0)), (1, .ref (ad k2 0 0)), (2, .int 4)]) hc dX6_copyFrom_22 rfl (by decide) (by decide) rfl ?_
  refine rm_goto (tgt := 2) hc dX6_copyFrom_25 (by decide) ?_
  refine rm_iload_n hc dX6_copyFrom_2 rfl rfl ?_
  refine rm_iconst (v := 4) hc dX6_copyFrom_3 (by decide) ?_
  refine rm_icmp_ge (tgt := 28) hc dX6_copyFrom_4 (by decide) (fun _ => ?_) (fun h => absurd (by decide) h)
  refine rm_iconst (v := 0) hc dX6_copyFrom_28 (by decide) ?_
  refine rm_istore_n (ls' := [(0, .ref (ad k 0 0)), (1, .ref (ad k2 0 0)), (2, .int 0)]) hc dX6_copyFrom_29 rfl (by decide) rfl ?_
  refine rm_iload_n hc dX6_copyFrom_30 rfl rfl ?_
  refine rm_iconst (v := 3) hc dX6_copyFrom_31 (by decide) ?_
  refine rm_icmp_ge (tgt := 56) hc dX6_copyFrom_32 (by decide) (fun h => absurd h (by decide)) (fun _ => ?_)
  refine rm_aload_n hc dX6_copyFrom_35 rfl rfl ?_
  refine rm_get hc dX6_copyFrom_36 fl_X6_22 (dm_0 (by omega)) rfl rfl ?_
  refine rm_iload_n hc dX6_copyFrom_39 rfl rfl ?_
  refine rm_aald (t0 := 2) (i := 0) (v := .ref (ad k 4 0)) hc dX6_copyFrom_40 (dm_3 (by omega)) rfl rfl (by omega) (by decide) rfl rfl ?_
  refine rm_aload_n hc dX6_copyFrom_41 rfl rfl ?_
  refine rm_get hc dX6_copyFrom_42 fl_X6_22 (dm_0 (by omega)) rfl rfl ?_
  refine rm_iload_n hc dX6_copyFrom_45 rfl rfl ?_
  refine rm_aald (t0 := 2) (i := 0) (v := .ref (ad k2 4 0)) hc dX6_copyFrom_46 (dm_3 (by omega)) rfl rfl (by omega) (by decide) rfl rfl ?_
  refine rm_callvV (As := [.ref (ad k2 4 0)]) (rest := []) hc dX6_copyFrom_47 (c_X1_copyFrom hI y_8 (k := k) (d := 0) (k2 := k2) (d2 := 0) (by omega) (by omega) (by omega) (by omega) (by omega) (by omega) hkk (fun q hq => by subst_vars; first | exact (hF 0 (by omega)).2 q hq | (simp only [cpS_b hkk]; exact (hF 0 (by omega)).2 q hq)) (by subst_vars; first | exact (hF 0 (by omega)).1 | (simp only [cpS_b hkk]; exact (hF 0 (by omega)).1))) mv_X6_45 (dm_4 (by omega) (by omega) (by omega)) rfl rfl (hn := rfl) (hst := rfl) (hw := Nat.le_of_ble_eq_true rfl) (hR := ⟨⟨rfl, rfl⟩, Nat.le_of_ble_eq_true rfl, Nat.le_of_ble_eq_true rfl⟩) (hnc := ⟨Nat.zero_le _, Nat.zero_le _⟩) (fun y_11 h_11 => ?_)
  refine rm_iinc (v := 1) (ls' := [(0, .ref (ad k 0 0)), (1, .ref (ad k2 0 0)), (2, .int 1)]) hc dX6_copyFrom_50 rfl (by decide) (by decide) rfl ?_
  refine rm_goto (tgt := 30) hc dX6_copyFrom_53 (by decide) ?_
  refine rm_iload_n hc dX6_copyFrom_30 rfl rfl ?_
  refine rm_iconst (v := 3) hc dX6_copyFrom_31 (by decide) ?_
  refine rm_icmp_ge (tgt := 56) hc dX6_copyFrom_32 (by decide) (fun h => absurd h (by decide)) (fun _ => ?_)
  refine rm_aload_n hc dX6_copyFrom_35 rfl rfl ?_
  refine rm_get hc dX6_copyFrom_36 fl_X6_22 (dm_0 (by omega)) rfl rfl ?_
  refine rm_iload_n hc dX6_copyFrom_39 rfl rfl ?_
  refine rm_aald (t0 := 2) (i := 1) (v := .ref (ad k 4 1)) hc dX6_copyFrom_40 (dm_3 (by omega)) rfl rfl (by omega) (by decide) rfl rfl ?_
  refine rm_aload_n hc dX6_copyFrom_41 rfl rfl ?_
  refine rm_get hc dX6_copyFrom_42 fl_X6_22 (dm_0 (by omega)) rfl rfl ?_
  refine rm_iload_n hc dX6_copyFrom_45 rfl rfl ?_
  refine rm_aald (t0 := 2) (i := 1) (v := .ref (ad k2 4 1)) hc dX6_copyFrom_46 (dm_3 (by omega)) rfl rfl (by omega) (by decide) rfl rfl ?_
  refine rm_callvV (As := [.ref (ad k2 4 1)]) (rest := []) hc dX6_copyFrom_47 (c_X1_copyFrom hI y_11 (k := k) (d := 1) (k2 := k2) (d2 := 1) (by omega) (by omega) (by omega) (by omega) (by omega) (by omega) hkk (fun q hq => by subst_vars; first | exact (hF 1 (by omega)).2 q hq | (simp only [cpS_b hkk]; exact (hF 1 (by omega)).2 q hq)) (by subst_vars; first | exact (hF 1 (by omega)).1 | (simp only [cpS_b hkk]; exact (hF 1 (by omega)).1))) mv_X6_45 (dm_4 (by omega) (by omega) (by omega)) rfl rfl (hn := rfl) (hst := rfl) (hw := Nat.le_of_ble_eq_true rfl) (hR := ⟨⟨rfl, rfl⟩, Nat.le_of_ble_eq_true rfl, Nat.le_of_ble_eq_true rfl⟩) (hnc := ⟨Nat.zero_le _, Nat.zero_le _⟩) (fun y_13 h_13 => ?_)
  refine rm_iinc (v := 2) (ls' := [(0, .ref (ad k 0 0)), (1, .ref (ad k2 0 0)), (2, .int 2)]) hc dX6_copyFrom_50 rfl (by decide) (by decide) rfl ?_
  refine rm_goto (tgt := 30) hc dX6_copyFrom_53 (by decide) ?_
  refine rm_iload_n hc dX6_copyFrom_30 rfl rfl ?_
  refine rm_iconst (v := 3) hc dX6_copyFrom_31 (by decide) ?_
  refine rm_icmp_ge (tgt := 56) hc dX6_copyFrom_32 (by decide) (fun h => absurd h (by decide)) (fun _ => ?_)
  refine rm_aload_n hc dX6_copyFrom_35 rfl rfl ?_
  refine rm_get hc dX6_copyFrom_36 fl_X6_22 (dm_0 (by omega)) rfl rfl ?_
  refine rm_iload_n hc dX6_copyFrom_39 rfl rfl ?_
  refine rm_aald (t0 := 2) (i := 2) (v := .ref (ad k 4 2)) hc dX6_copyFrom_40 (dm_3 (by omega)) rfl rfl (by omega) (by decide) rfl rfl ?_
  refine rm_aload_n hc dX6_copyFrom_41 rfl rfl ?_
  refine rm_get hc dX6_copyFrom_42 fl_X6_22 (dm_0 (by omega)) rfl rfl ?_
  refine rm_iload_n hc dX6_copyFrom_45 rfl rfl ?_
  refine rm_aald (t0 := 2) (i := 2) (v := .ref (ad k2 4 2)) hc dX6_copyFrom_46 (dm_3 (by omega)) rfl rfl (by omega) (by decide) rfl rfl ?_
  refine rm_callvV (As := [.ref (ad k2 4 2)]) (rest := []) hc dX6_copyFrom_47 (c_X1_copyFrom hI y_13 (k := k) (d := 2) (k2 := k2) (d2 := 2) (by omega) (by omega) (by omega) (by omega) (by omega) (by omega) hkk (fun q hq => by subst_vars; first | exact (hF 2 (by omega)).2 q hq | (simp only [cpS_b hkk]; exact (hF 2 (by omega)).2 q hq)) (by subst_vars; first | exact (hF 2 (by omega)).1 | (simp only [cpS_b hkk]; exact (hF 2 (by omega)).1))) mv_X6_45 (dm_4 (by omega) (by omega) (by omega)) rfl rfl (hn := rfl) (hst := rfl) (hw := Nat.le_of_ble_eq_true rfl) (hR := ⟨⟨rfl, rfl⟩, Nat.le_of_ble_eq_true rfl, Nat.le_of_ble_eq_true rfl⟩) (hnc := ⟨Nat.zero_le _, Nat.zero_le _⟩) (fun y_15 h_15 => ?_)
  refine rm_iinc (v := 3) (ls' := [(0, .ref (ad k 0 0)), (1, .ref (ad k2 0 0)), (2, .int 3)]) hc dX6_copyFrom_50 rfl (by decide) (by decide) rfl ?_
  refine rm_goto (tgt := 30) hc dX6_copyFrom_53 (by decide) ?_
  refine rm_iload_n hc dX6_copyFrom_30 rfl rfl ?_
  refine rm_iconst (v := 3) hc dX6_copyFrom_31 (by decide) ?_
  refine rm_icmp_ge (tgt := 56) hc dX6_copyFrom_32 (by decide) (fun _ => ?_) (fun h => absurd (by decide) h)
  refine rm_aload_n hc dX6_copyFrom_56 rfl rfl ?_
  refine rm_get hc dX6_copyFrom_57 fl_X6_30 (dm_0 (by omega)) rfl rfl ?_
  refine rm_aload_n hc dX6_copyFrom_60 rfl rfl ?_
  refine rm_get hc dX6_copyFrom_61 fl_X6_30 (dm_0 (by omega)) rfl rfl ?_
  refine rm_callvV (As := [.ref (ad k2 6 0)]) (rest := []) hc dX6_copyFrom_64 (c_X0_copyFrom hI y_15 (k := k) (k2 := k2) (by omega) (by omega) hkk) mv_X6_48 (dm_6 (by omega)) rfl rfl (hn := rfl) (hst := rfl) (hw := Nat.le_of_ble_eq_true rfl) (hR := ⟨⟨rfl, rfl⟩, Nat.le_of_ble_eq_true rfl, Nat.le_of_ble_eq_true rfl⟩) (hnc := ⟨Nat.zero_le _, Nat.zero_le _⟩) (fun y_17 h_17 => ?_)
  refine rm_aload_n hc dX6_copyFrom_67 rfl rfl ?_
  refine rm_get hc dX6_copyFrom_68 fl_X6_37 (dm_0 (by omega)) rfl rfl ?_
  refine rm_aload_n hc dX6_copyFrom_71 rfl rfl ?_
  refine rm_get hc dX6_copyFrom_72 fl_X6_37 (dm_0 (by omega)) rfl rfl ?_
  refine rm_callvV (As := [.ref (ad k2 8 0)]) (rest := []) hc dX6_copyFrom_75 (c_X4_copyFrom hI y_17 (k := k) (k2 := k2) (by omega) (by omega) hkk) mv_X6_51 (dm_8 (by omega)) rfl rfl (hn := rfl) (hst := rfl) (hw := Nat.le_of_ble_eq_true rfl) (hR := ⟨⟨rfl, rfl⟩, Nat.le_of_ble_eq_true rfl, Nat.le_of_ble_eq_true rfl⟩) (hnc := ⟨Nat.zero_le _, Nat.zero_le _⟩) (fun y_18 h_18 => ?_)
  refine rm_aload_n hc dX6_copyFrom_78 rfl rfl ?_
  refine rm_aload_n hc dX6_copyFrom_79 rfl rfl ?_
  refine rm_geti hc dX6_copyFrom_80 fl_X6_54 (dm_0 (by omega)) rfl rfl (fun v_19 e_19 => ?_)
  refine rm_put hc dX6_copyFrom_83 fl_X6_54 (dm_0 (by omega)) rfl (Nat.le_of_ble_eq_true rfl) ft_6_4 rfl rfl (so_0_4 (by omega)) (rm_nm (fun x_20 ex_20 => ?_))
  refine rm_aload_n hc dX6_copyFrom_86 rfl rfl ?_
  refine rm_aload_n hc dX6_copyFrom_87 rfl rfl ?_
  refine rm_geti hc dX6_copyFrom_88 fl_X6_58 (dm_0 (by omega)) rfl rfl (fun v_21 e_21 => ?_)
  refine rm_put hc dX6_copyFrom_91 fl_X6_58 (dm_0 (by omega)) rfl (Nat.le_of_ble_eq_true rfl) ft_6_5 rfl rfl (so_0_5 (by omega)) (rm_nm (fun x_22 ex_22 => ?_))
  exact rm_vret hc dX6_copyFrom_94 (by subst_vars; simp only [Nat.reduceMul, Nat.reduceAdd, cpS_b hkk, up_b _ _ _ hkk]; exact cpStateF hkk)
end
section
def canS (b : Int32) : Int32 := if b ≤ 0 then 0 else 1
def b2 (v : Int32) : Int32 := if v = 0 then 0 else 1
/-- a number is sent to the doors 0 .. n - 1 of a set: which opened, and the memory -/
def sendS (x : Mem) (k : Nat) (msk num : Int32) (mm : Nat) : Nat → Int32 × Mem
  | 0 => (0, x)
  | d + 1 => if (msk >>> (nI d &&& 31)) &&& 1 = 1 then (if hrR (sendS x k msk num mm d).2 k d k num mm = 0 then (sendS x k msk num mm d).1 ||| (1 <<< (nI d &&& 31)) else (sendS x k msk num mm d).1, hrM (sendS x k msk num mm d).2 k d k num mm) else sendS x k msk num mm d
theorem hrM_lo {x : Mem} {k d k2 n : Nat} {num : Int32} {mm : Nat} (hn : n < 30) : hrM x k d k2 num mm k n = x k n := by
  have e : ∀ (z : Mem) (i : Nat) (v : Int32), n < i → up z k i v k n = z k n := fun z i v h => up_n _ _ (by omega)
  unfold hrM
  split
  · rw [e _ _ _ (by omega)]
  · split
    · rw [e _ _ _ (by omega), e _ _ _ (by omega)]
    · split
      · unfold opnM tak1
        rw [e _ _ _ (by omega), e _ _ _ (by omega), e _ _ _ (by omega), e _ _ _ (by omega), e _ _ _ (by omega)]
      · unfold tak0
        rw [e _ _ _ (by omega), e _ _ _ (by omega)]
theorem hrM_b {x : Mem} {k d k2 b n : Nat} {num : Int32} {mm : Nat} (hb : b ≠ k) : hrM x k d k2 num mm b n = x b n := by
  have e : ∀ (z : Mem) (i : Nat) (v : Int32), up z k i v b n = z b n := fun z i v => up_b _ _ _ hb
  unfold hrM
  split
  · rw [e]
  · split
    · rw [e, e]
    · split
      · unfold opnM tak1
        rw [e, e, e, e, e]
      · unfold tak0
        rw [e, e]
theorem sendS_lo {x : Mem} {k : Nat} {msk num : Int32} {mm n : Nat} (hn : n < 30) : ∀ d, (sendS x k msk num mm d).2 k n = x k n
  | 0 => rfl
  | d + 1 => by
    unfold sendS
    split
    · exact (hrM_lo hn).trans (sendS_lo hn d)
    · exact sendS_lo hn d
theorem sendS_b {x : Mem} {k b n : Nat} {msk num : Int32} {mm : Nat} (hb : b ≠ k) : ∀ d, (sendS x k msk num mm d).2 b n = x b n
  | 0 => rfl
  | d + 1 => by
    unfold sendS
    split
    · exact (hrM_b hb).trans (sendS_b hb d)
    · exact sendS_b hb d
theorem sendS_y {x : Mem} {k d : Nat} {msk num : Int32} {mm : Nat} (h : (msk >>> (nI d &&& 31)) &&& 1 = 1) : sendS x k msk num mm (d + 1) = (if hrR (sendS x k msk num mm d).2 k d k num mm = 0 then (sendS x k msk num mm d).1 ||| (1 <<< (nI d &&& 31)) else (sendS x k msk num mm d).1, hrM (sendS x k msk num mm d).2 k d k num mm) := by
  conv => lhs; unfold sendS
  rw [if_pos h]
theorem sendS_n {x : Mem} {k d : Nat} {msk num : Int32} {mm : Nat} (h : ¬ (msk >>> (nI d &&& 31)) &&& 1 = 1) : sendS x k msk num mm (d + 1) = sendS x k msk num mm d := by
  conv => lhs; unfold sendS
  rw [if_neg h]
/-- the number of a fob's next press -/
def nxtN (x : Mem) (k j : Nat) : Int32 := nu (x k (14 + 4 * j)) (nx (x k (15 + 4 * j)))
def prsS (x : Mem) (k j : Nat) (msk : Int32) (mm : Nat) : Int32 × Mem := sendS (recF (sndF x k j) k (nxtN x k j)) k msk (nxtN x k j) mm 3
theorem recF_1 {x : Mem} {k : Nat} {v : Int32} : recF x k v k 1 = x k 1 := by simp [recF, up, shA]
theorem sndF_1 {x : Mem} {k j : Nat} : sndF x k j k 1 = x k 1 := by
  unfold sndF
  rw [up_n _ _ (by omega), up_n _ _ (by omega), up_n _ _ (by omega)]
def sum4 (a b c d : Int32) : Int32 := 0 + a + b + c + d
def sum3 (a b c : Int32) : Int32 := 0 + a + b + c
/-- the ring's next place: a count of which nq is the rest by 6 -/
def NXT (x : Mem) (nq lo : Nat) : Prop := ∃ w : Nat, w < 2 ^ 20 ∧ lo ≤ w ∧ w % 6 = nq ∧ x 8 0 = nI w
def kpM (x : Mem) (nq : Nat) : Mem := up (up (cpS x (nq + 1) 0 0 0 96) 8 0 (x 8 0 + 1)) 8 1 (if 6 < x 8 1 + 1 then 6 else x 8 1 + 1)
def rsM (x : Mem) (nq : Nat) : Mem := cpS (up (up x 8 0 (x 8 0 - 1)) 8 1 (x 8 1 - 1)) 0 0 ((nq + 5) % 6 + 1) 0 96
-- the text
def inPartS (c : Int32) : Int32 := if c = 99 then 3 else if c = 102 then 1 else if c = 114 then 2 else 8
def inSetS (c lo : Int32) : Int32 := if c - 48 < lo then 8 else if 3 ≤ c - 48 then 8 else 5 + (c - 48)
def expS (e c : Int32) : Int32 := if e = 0 then inPartS c else if e = 1 then (if c < 48 then 8 else if 51 < c then 8 else 4) else if e = 2 then (if c < 48 then 8 else if 55 < c then 8 else 4) else if e = 3 then (if c < 48 then 8 else if 50 < c then 8 else 7) else if e = 4 then (if c = 45 then 7 else inSetS c 0) else if e = 8 then 8 else if c = 59 then 0 else inSetS c (e - 5 + 1)
def codeS (x : Mem) (a : Int32) : Int32 := if a < 0 then -1 else if x 8 2 ≤ a then -1 else if 60 ≤ a then -1 else x 9 a.toNatClampNeg
def digS (x : Mem) (a : Int32) : Int32 := if codeS x a < 48 then -1 else if 57 < codeS x a then -1 else codeS x a - 48
def glS (x : Mem) : Nat → Int32 → Nat → Nat
  | 0, _, i => i
  | f + 1, e, i => if expS e (codeS x (nI i)) = 8 then i else glS x f (expS e (codeS x (nI i))) (i + 1)
def feS (x : Mem) : Nat → Int32 → Nat → Int32
  | 0, e, _ => e
  | f + 1, e, i => feS x f (expS e (codeS x (nI i))) (i + 1)
def compS (e : Int32) : Int32 := if e < 5 then 0 else if 7 < e then 0 else 1
def endS (x : Mem) (a : Int32) : Int32 := if a = x 8 2 then 1 else if codeS x a = 59 then 1 else 0
def mkS (x : Mem) : Nat → Nat → Int32 → Int32
  | 0, _, v => v
  | f + 1, i, v => mkS x f (i + 1) (if digS x (nI i) < 0 then v else if 3 ≤ digS x (nI i) then v else v ||| (1 <<< (digS x (nI i) &&& 31)))
theorem glS_y {x : Mem} {f i : Nat} {e : Int32} (h : expS e (codeS x (nI i)) = 8) : glS x (f + 1) e i = i := by simp [glS, h]
theorem glS_n {x : Mem} {f i : Nat} {e : Int32} (h : ¬ expS e (codeS x (nI i)) = 8) : glS x (f + 1) e i = glS x f (expS e (codeS x (nI i))) (i + 1) := by simp [glS, h]
theorem mk_1 {x : Mem} {f i : Nat} {v : Int32} (h : digS x (nI i) < 0) : mkS x (f + 1) i v = mkS x f (i + 1) v := by simp [mkS, h]
theorem mk_2 {x : Mem} {f i : Nat} {v : Int32} (h : ¬ digS x (nI i) < 0) (h2 : 3 ≤ digS x (nI i)) : mkS x (f + 1) i v = mkS x f (i + 1) v := by simp only [mkS, if_neg h, if_pos h2]
theorem mk_3 {x : Mem} {f i : Nat} {v : Int32} (h : ¬ digS x (nI i) < 0) (h2 : ¬ 3 ≤ digS x (nI i)) : mkS x (f + 1) i v = mkS x f (i + 1) (v ||| (1 <<< (digS x (nI i) &&& 31))) := by simp only [mkS, if_neg h, if_neg h2]
theorem xor6 {n : Nat} (h : n < 2 ^ 20) : 0 ≤ nI n ^^^ 6 := by
  rw [Int32.le_iff_toInt_le]
  have e : (nI n ^^^ 6).toInt = (nI n ^^^ 6).toBitVec.toInt := rfl
  have hm : (nI n).toBitVec.msb = false := by
    rw [BitVec.msb_eq_toInt]
    have e2 : (nI n).toBitVec.toInt = (nI n).toInt := rfl
    rw [e2, nI_toInt (by omega)]
    exact decide_eq_false (by omega)
  have hx : (nI n ^^^ 6).toBitVec.msb = false := by
    rw [Int32.toBitVec_xor, BitVec.msb_xor, hm]
    decide
  rw [BitVec.msb_eq_toInt] at hx
  have h0 := of_decide_eq_false hx
  rw [e]
  have z : (0 : Int32).toInt = 0 := by decide
  omega
theorem irem6 {n : Nat} (h : n < 2 ^ 20) : nI n - nI n / 6 * 6 = nI (n % 6) := pk_rem (d := 6) (by omega) (by omega) (by omega)
theorem FLG_up {x : Mem} {b b' n : Nat} {v : Int32} (hb : b ≠ b') (h : FLG x b) : FLG (up x b' n v) b := by
  intro d hd
  refine ⟨?_, fun s hs => ?_⟩
  · rw [up_b _ _ _ hb]; exact (h d hd).1
  · rw [up_b _ _ _ hb]; exact (h d hd).2 s hs
theorem b2_0 {v : Int32} (h : v = 0) : b2 v = 0 := by rw [h]; rfl
theorem b2_1 {v : Int32} (h : ¬ v = 0) : b2 v = 1 := if_neg h
theorem sum3_of {a b c a' b' c' r : Int32} (ha : a = a') (hb : b = b') (hc : c = c') (h : r = sum3 a' b' c') : r = sum3 a b c := by rw [ha, hb, hc]; exact h
/-- the same for a member that the machine has no entry for, of a class that has entries -/
theorem rm_entryF {l : Launch} {y : MethodName} {cc : ByteArray} {nL : Nat} {ret : Option FieldType} {rm : Room} {D : va_G} {cy : Nat → ClassId} {ad : Ads} {As : List Value} {x : Mem} {Qc : (Nat → Prop) → Array Value → State → Outcome → State → Prop} (hI : IJ ad) (hy : plainFor y = true) (hl : (lg_sl As).length ≤ nL)
    (body : ∀ p e s m args below meth c, CX p s m args meth c cc nL y.cls ret D cy ad → RM p l e rm s m args below meth c nL (AA ad s.heap.size) (GG D cy ad x) 0 0 (QQ Qc below args s ad) 0 (lv_args 0 As) []) (sz : Nat) :
    Met l y (.code y cc nL ret :: TB) rm (va_Pc As (fun U => U.heap.size = sz ∧ va_P D vwCl (wl cy ad x) U.heap ∧ va_K D vwCl (tys cy) U ∧ NW U)) (Qc (AA ad sz)) 0 0 (AA ad sz) := by
  refine va_MetF (cc := cc) (maxL := nL) (ret := ret) hy rfl ?_
  intro p e s m args below meth c s₁ B hml hv
  obtain ⟨rfl, hsz, hP, hK, hN⟩ := hv
  subst hsz
  have hts := atoms_spec (ws := .code y cc nL ret :: TB) B.pre
  have hc : CX p s m As.toArray meth c cc nL y.cls ret D cy ad := ⟨⟨B.exec, B.bytes, hml, findClass_of_methodNamed B.named, fun w h => hts w (List.mem_cons_of_mem _ h)⟩, B.returns, B.notSynchronized, hK, hI, hN⟩
  have h := body p e s m As.toArray below meth c hc
  rw [lg_entry_eq]
  exact h s.heap [] _ hP va_S.rf (lv_entry As hl)
end
section
abbrev rm_X6_canPress : Room := { frames := 0, cells := 0, slots := 0, locals := 0 }
set_option maxHeartbeats 4000000 in
set_option maxRecDepth 100000 in
theorem c_X6_canPress {l : Launch} {D : va_G} {cy : Nat → ClassId} {ad : Ads} (hI : IJ ad) (x : Mem) {k j : Nat} (hk : k < 7) (hj : j < 4) : Cti l yX6_canPress cX6_canPress 2 (some .boolean) rm_X6_canPress D cy ad [.ref (ad k 0 0), .int (nI (j))] x (fun r y => r = canS (x k (16 + 4 * j)) ∧ y = x) := by
  refine rm_entry (Qc := Qi D cy ad (fun r y => r = canS (x k (16 + 4 * j)) ∧ y = x)) hI (by decide) (Nat.le_of_ble_eq_true rfl) ?_
  intro p e s m args below meth c hc
  show RM _ _ _ _ _ _ _ _ _ _ _ _ _ _ _ _ _ [(0, .ref (ad k 0 0)), (1, .int (nI (j)))] []
  refine rm_iload_n hc dX6_canPress_0 rfl rfl ?_
  refine rm_if_lt (tgt := 25) hc dX6_canPress_1 (by decide) (fun h => absurd h (fun h2 => absurd ((nI_ltI (a := j) (b := 0) (by omega) (by omega)).mp h2) (by omega))) (fun _ => ?_)
  refine rm_iload_n hc dX6_canPress_4 rfl rfl ?_
  refine rm_iconst (v := 4) hc dX6_canPress_5 (by decide) ?_
  refine rm_icmp_ge (tgt := 25) hc dX6_canPress_6 (by decide) (fun h => absurd h (fun h2 => absurd ((nI_leI (a := 4) (b := j) (by omega) (by omega)).mp h2) (by omega))) (fun _ => ?_)
  refine rm_aload_n hc dX6_canPress_9 rfl rfl ?_
  refine rm_get hc dX6_canPress_10 fl_X6_11 (dm_0 (by omega)) rfl rfl ?_
  refine rm_iload_n hc dX6_canPress_13 rfl rfl ?_
  refine rm_aald (t0 := 1) (i := j) (v := .ref (ad k 2 j)) hc dX6_canPress_14 (dm_1 (by omega)) rfl rfl (by omega) (by decide) rfl rfl ?_
  refine rm_geti hc dX6_canPress_15 fl_X6_61 (dm_2 (by omega) (by omega)) rfl rfl (fun v_3 e_3 => ?_)
  refine rm_if_le (tgt := 25) hc dX6_canPress_18 (by decide) (fun c_4 => ?_) (fun c_4 => ?_)
  · --T
    refine rm_iconst (v := 0) hc dX6_canPress_25 (by decide) ?_
    exact rm_zret hc dX6_canPress_26 rfl ⟨by subst_vars; simp [canS, *], rfl⟩
  · --F
    refine rm_iconst (v := 1) hc dX6_canPress_21 (by decide) ?_
    refine rm_goto (tgt := 26) hc dX6_canPress_22 (by decide) ?_
    exact rm_zret hc dX6_canPress_26 rfl ⟨by subst_vars; simp [canS, *], rfl⟩

abbrev rm_X6_canSendAgain : Room := { frames := 0, cells := 0, slots := 0, locals := 0 }
set_option maxHeartbeats 4000000 in
set_option maxRecDepth 100000 in
theorem c_X6_canSendAgain {l : Launch} {D : va_G} {cy : Nat → ClassId} {ad : Ads} (hI : IJ ad) (x : Mem) {k ii nr : Nat} (hk : k < 7) (hnr : x k 5 = nI nr) (hr8 : nr ≤ 8) (hi8 : ii < 2 ^ 20) : Cti l yX6_canSendAgain cX6_canSendAgain 2 (some .boolean) rm_X6_canSendAgain D cy ad [.ref (ad k 0 0), .int (nI (ii))] x (fun r y => r = (if ii < nr then 1 else 0) ∧ y = x) := by
  refine rm_entry (Qc := Qi D cy ad (fun r y => r = (if ii < nr then 1 else 0) ∧ y = x)) hI (by decide) (Nat.le_of_ble_eq_true rfl) ?_
  intro p e s m args below meth c hc
  show RM _ _ _ _ _ _ _ _ _ _ _ _ _ _ _ _ _ [(0, .ref (ad k 0 0)), (1, .int (nI (ii)))] []
  refine rm_iload_n hc dX6_canSendAgain_0 rfl rfl ?_
  refine rm_if_lt (tgt := 19) hc dX6_canSendAgain_1 (by decide) (fun h => absurd h (fun h2 => absurd ((nI_ltI (a := ii) (b := 0) (by omega) (by omega)).mp h2) (by omega))) (fun _ => ?_)
  refine rm_iload_n hc dX6_canSendAgain_4 rfl rfl ?_
  refine rm_aload_n hc dX6_canSendAgain_5 rfl rfl ?_
  refine rm_get hc dX6_canSendAgain_6 fl_X6_30 (dm_0 (by omega)) rfl rfl ?_
  refine rm_geti hc dX6_canSendAgain_9 fl_X6_64 (dm_6 (by omega)) rfl rfl (fun v_2 e_2 => ?_)
  obtain rfl : v_2 = nI nr := e_2.trans hnr
  rcases Nat.lt_or_ge ii nr with z_3 | z_3
  · --
    refine rm_icmp_ge (tgt := 19) hc dX6_canSendAgain_12 (by decide) (fun h => absurd h (fun h2 => absurd ((nI_leI (a := nr) (b := ii) (by omega) (by omega)).mp h2) (by omega))) (fun _ => ?_)
    refine rm_iconst (v := 1) hc dX6_canSendAgain_15 (by decide) ?_
    refine rm_goto (tgt := 20) hc dX6_canSendAgain_16 (by decide) ?_
    exact rm_zret hc dX6_canSendAgain_20 rfl ⟨by rw [if_pos (by omega)], rfl⟩
  · --
    refine rm_icmp_ge (tgt := 19) hc dX6_canSendAgain_12 (by decide) (fun _ => ?_) (fun h => absurd ((nI_leI (a := nr) (b := ii) (by omega) (by omega)).mpr (by omega)) h)
    refine rm_iconst (v := 0) hc dX6_canSendAgain_19 (by decide) ?_
    exact rm_zret hc dX6_canSendAgain_20 rfl ⟨by rw [if_neg (by omega)], rfl⟩


abbrev rm_X6_presses : Room := { frames := 0, cells := 0, slots := 0, locals := 0 }
set_option maxHeartbeats 4000000 in
set_option maxRecDepth 100000 in
theorem c_X6_presses {l : Launch} {D : va_G} {cy : Nat → ClassId} {ad : Ads} (hI : IJ ad) (x : Mem) {k : Nat} (hk : k < 7) : Cti l yX6_presses cX6_presses 6 (some .int) rm_X6_presses D cy ad [.ref (ad k 0 0)] x (fun r y => r = sum4 (x k 17) (x k 21) (x k 25) (x k 29) ∧ y = x) := by
  refine rm_entry (Qc := Qi D cy ad (fun r y => r = sum4 (x k 17) (x k 21) (x k 25) (x k 29) ∧ y = x)) hI (by decide) (Nat.le_of_ble_eq_true rfl) ?_
  intro p e s m args below meth c hc
  show RM _ _ _ _ _ _ _ _ _ _ _ _ _ _ _ _ _ [(0, .ref (ad k 0 0))] []
  refine rm_iconst (v := 0) hc dX6_presses_0 (by decide) ?_
  refine rm_istore_n (ls' := [(0, .ref (ad k 0 0)), (1, .int 0)]) hc dX6_presses_1 rfl (by decide) rfl ?_
  refine rm_aload_n hc dX6_presses_2 rfl rfl ?_
  refine rm_get hc dX6_presses_3 fl_X6_11 (dm_0 (by omega)) rfl rfl ?_
  refine rm_astore_n (ls' := [(0, .ref (ad k 0 0)), (1, .int 0), (2, .ref (ad k 1 0))]) hc dX6_presses_6 rfl (by decide) rfl ?_
  refine rm_aload_n hc dX6_presses_7 rfl rfl ?_
  refine rm_alen (n := 0) (t0 := 1) (v := 4) hc dX6_presses_8 (dm_1 (by omega)) rfl rfl rfl ?_
  refine rm_istore_n (ls' := [(0, .ref (ad k 0 0)), (1, .int 0), (2, .ref (ad k 1 0)), (3, .int 4)]) hc dX6_presses_9 rfl (by decide) rfl ?_
  refine rm_iconst (v := 0) hc dX6_presses_10 (by decide) ?_
  refine rm_istore (ls' := [(0, .ref (ad k 0 0)), (1, .int 0), (2, .ref (ad k 1 0)), (3, .int 4), (4, .int 0)]) hc dX6_presses_11 (by decide) rfl ?_
  refine rm_iload hc dX6_presses_13 rfl ?_
  refine rm_iload_n hc dX6_presses_15 rfl rfl ?_
  refine rm_icmp_ge (tgt := 39) hc dX6_presses_16 (by decide) (fun h => absurd h (by decide)) (fun _ => ?_)
  refine rm_aload_n hc dX6_presses_19 rfl rfl ?_
  refine rm_iload hc dX6_presses_20 rfl ?_
  refine rm_aald (t0 := 1) (i := 0) (v := .ref (ad k 2 0)) hc dX6_presses_22 (dm_1 (by omega)) rfl rfl (by omega) (by decide) rfl rfl ?_
  refine rm_astore (ls' := [(0, .ref (ad k 0 0)), (1, .int 0), (2, .ref (ad k 1 0)), (3, .int 4), (4, .int 0), (5, .ref (ad k 2 0))]) hc dX6_presses_23 (by decide) rfl ?_
  refine rm_iload_n hc dX6_presses_25 rfl rfl ?_
  refine rm_aload hc dX6_presses_26 rfl ?_
  refine rm_geti hc dX6_presses_28 fl_X6_102 (dm_2 (by omega) (by omega)) rfl rfl (fun v_2 e_2 => ?_)
  refine rm_iadd hc dX6_presses_31 (fun v_3 e_3 => ?_)
  refine rm_istore_n (ls' := [(0, .ref (ad k 0 0)), (1, .int v_3), (2, .ref (ad k 1 0)), (3, .int 4), (4, .int 0), (5, .ref (ad k 2 0))]) hc dX6_presses_32 rfl (by decide) rfl ?_
  refine rm_iinc (v := 1) (ls' := [(0, .ref (ad k 0 0)), (1, .int v_3), (2, .ref (ad k 1 0)), (3, .int 4), (4, .int 1), (5, .ref (ad k 2 0))]) hc dX6_presses_33 rfl (by decide) (by decide) rfl ?_
  refine rm_goto (tgt := 13) hc dX6_presses_36 (by decide) ?_
  refine rm_iload hc dX6_presses_13 rfl ?_
  refine rm_iload_n hc dX6_presses_15 rfl rfl ?_
  refine rm_icmp_ge (tgt := 39) hc dX6_presses_16 (by decide) (fun h => absurd h (by decide)) (fun _ => ?_)
  refine rm_aload_n hc dX6_presses_19 rfl rfl ?_
  refine rm_iload hc dX6_presses_20 rfl ?_
  refine rm_aald (t0 := 1) (i := 1) (v := .ref (ad k 2 1)) hc dX6_presses_22 (dm_1 (by omega)) rfl rfl (by omega) (by decide) rfl rfl ?_
  refine rm_astore (ls' := [(0, .ref (ad k 0 0)), (1, .int v_3), (2, .ref (ad k 1 0)), (3, .int 4), (4, .int 1), (5, .ref (ad k 2 1))]) hc dX6_presses_23 (by decide) rfl ?_
  refine rm_iload_n hc dX6_presses_25 rfl rfl ?_
  refine rm_aload hc dX6_presses_26 rfl ?_
  refine rm_geti hc dX6_presses_28 fl_X6_102 (dm_2 (by omega) (by omega)) rfl rfl (fun v_5 e_5 => ?_)
  refine rm_iadd hc dX6_presses_31 (fun v_6 e_6 => ?_)
  refine rm_istore_n (ls' := [(0, .ref (ad k 0 0)), (1, .int v_6), (2, .ref (ad k 1 0)), (3, .int 4), (4, .int 1), (5, .ref (ad k 2 1))]) hc dX6_presses_32 rfl (by decide) rfl ?_
  refine rm_iinc (v := 2) (ls' := [(0, .ref (ad k 0 0)), (1, .int v_6), (2, .ref (ad k 1 0)), (3, .int 4), (4, .int 2), (5, .ref (ad k 2 1))]) hc dX6_presses_33 rfl (by decide) (by decide) rfl ?_
  refine rm_goto (tgt := 13) hc dX6_presses_36 (by decide) ?_
  refine rm_iload hc dX6_presses_13 rfl ?_
  refine rm_iload_n hc dX6_presses_15 rfl rfl ?_
  refine rm_icmp_ge (tgt := 39) hc dX6_presses_16 (by decide) (fun h => absurd h (by decide)) (fun _ => ?_)
  refine rm_aload_n hc dX6_presses_19 rfl rfl ?_
  refine rm_iload hc dX6_presses_20 rfl ?_
  refine rm_aald (t0 := 1) (i := 2) (v := .ref (ad k 2 2)) hc dX6_presses_22 (dm_1 (by omega)) rfl rfl (by omega) (by decide) rfl rfl ?_
  refine rm_astore (ls' := [(0, .ref (ad k 0 0)), (1, .int v_6), (2, .ref (ad k 1 0)), (3, .int 4), (4, .int 2), (5, .ref (ad k 2 2))]) hc dX6_presses_23 (by decide) rfl ?_
  refine rm_iload_n hc dX6_presses_25 rfl rfl ?_
  refine rm_aload hc dX6_presses_26 rfl ?_
  refine rm_geti hc dX6_presses_28 fl_X6_102 (dm_2 (by omega) (by omega)) rfl rfl (fun v_8 e_8 => ?_)
  refine rm_iadd hc dX6_presses_31 (fun v_9 e_9 => ?_)
  refine rm_istore_n (ls' := [(0, .ref (ad k 0 0)), (1, .int v_9), (2, .ref (ad k 1 0)), (3, .int 4), (4, .int 2), (5, .ref (ad k 2 2))]) hc dX6_presses_32 rfl (by decide) rfl ?_
  refine rm_iinc (v := 3) (ls' := [(0, .ref (ad k 0 0)), (1, .int v_9), (2, .ref (ad k 1 0)), (3, .int 4), (4, .int 3), (5, .ref (ad k 2 2))]) hc dX6_presses_33 rfl (by decide) (by decide) rfl ?_
  refine rm_goto (tgt := 13) hc dX6_presses_36 (by decide) ?_
  refine rm_iload hc dX6_presses_13 rfl ?_
  refine rm_iload_n hc dX6_presses_15 rfl rfl ?_
  refine rm_icmp_ge (tgt := 39) hc dX6_presses_16 (by decide) (fun h => absurd h (by decide)) (fun _ => ?_)
  refine rm_aload_n hc dX6_presses_19 rfl rfl ?_
  refine rm_iload hc dX6_presses_20 rfl ?_
  refine rm_aald (t0 := 1) (i := 3) (v := .ref (ad k 2 3)) hc dX6_presses_22 (dm_1 (by omega)) rfl rfl (by omega) (by decide) rfl rfl ?_
  refine rm_astore (ls' := [(0, .ref (ad k 0 0)), (1, .int v_9), (2, .ref (ad k 1 0)), (3, .int 4), (4, .int 3), (5, .ref (ad k 2 3))]) hc dX6_presses_23 (by decide) rfl ?_
  refine rm_iload_n hc dX6_presses_25 rfl rfl ?_
  refine rm_aload hc dX6_presses_26 rfl ?_
  refine rm_geti hc dX6_presses_28 fl_X6_102 (dm_2 (by omega) (by omega)) rfl rfl (fun v_11 e_11 => ?_)
  refine rm_iadd hc dX6_presses_31 (fun v_12 e_12 => ?_)
  refine rm_istore_n (ls' := [(0, .ref (ad k 0 0)), (1, .int v_12), (2, .ref (ad k 1 0)), (3, .int 4), (4, .int 3), (5, .ref (ad k 2 3))]) hc dX6_presses_32 rfl (by decide) rfl ?_
  refine rm_iinc (v := 4) (ls' := [(0, .ref (ad k 0 0)), (1, .int v_12), (2, .ref (ad k 1 0)), (3, .int 4), (4, .int 4), (5, .ref (ad k 2 3))]) hc dX6_presses_33 rfl (by decide) (by decide) rfl ?_
  refine rm_goto (tgt := 13) hc dX6_presses_36 (by decide) ?_
  refine rm_iload hc dX6_presses_13 rfl ?_
  refine rm_iload_n hc dX6_presses_15 rfl rfl ?_
  refine rm_icmp_ge (tgt := 39) hc dX6_presses_16 (by decide) (fun _ => ?_) (fun h => absurd (by decide) h)
  refine rm_iload_n hc dX6_presses_39 rfl rfl ?_
  exact rm_iret hc dX6_presses_40 ⟨by subst_vars; rfl, rfl⟩

abbrev rm_X6_timesOpened : Room := { frames := 0, cells := 0, slots := 0, locals := 0 }
set_option maxHeartbeats 4000000 in
set_option maxRecDepth 100000 in
theorem c_X6_timesOpened {l : Launch} {D : va_G} {cy : Nat → ClassId} {ad : Ads} (hI : IJ ad) (x : Mem) {k : Nat} (hk : k < 7) : Cti l yX6_timesOpened cX6_timesOpened 6 (some .int) rm_X6_timesOpened D cy ad [.ref (ad k 0 0)] x (fun r y => r = sum3 (x k 32) (x k 54) (x k 76) ∧ y = x) := by
  refine rm_entry (Qc := Qi D cy ad (fun r y => r = sum3 (x k 32) (x k 54) (x k 76) ∧ y = x)) hI (by decide) (Nat.le_of_ble_eq_true rfl) ?_
  intro p e s m args below meth c hc
  show RM _ _ _ _ _ _ _ _ _ _ _ _ _ _ _ _ _ [(0, .ref (ad k 0 0))] []
  refine rm_iconst (v := 0) hc dX6_timesOpened_0 (by decide) ?_
  refine rm_istore_n (ls' := [(0, .ref (ad k 0 0)), (1, .int 0)]) hc dX6_timesOpened_1 rfl (by decide) rfl ?_
  refine rm_aload_n hc dX6_timesOpened_2 rfl rfl ?_
  refine rm_get hc dX6_timesOpened_3 fl_X6_22 (dm_0 (by omega)) rfl rfl ?_
  refine rm_astore_n (ls' := [(0, .ref (ad k 0 0)), (1, .int 0), (2, .ref (ad k 3 0))]) hc dX6_timesOpened_6 rfl (by decide) rfl ?_
  refine rm_aload_n hc dX6_timesOpened_7 rfl rfl ?_
  refine rm_alen (n := 0) (t0 := 2) (v := 3) hc dX6_timesOpened_8 (dm_3 (by omega)) rfl rfl rfl ?_
  refine rm_istore_n (ls' := [(0, .ref (ad k 0 0)), (1, .int 0), (2, .ref (ad k 3 0)), (3, .int 3)]) hc dX6_timesOpened_9 rfl (by decide) rfl ?_
  refine rm_iconst (v := 0) hc dX6_timesOpened_10 (by decide) ?_
  refine rm_istore (ls' := [(0, .ref (ad k 0 0)), (1, .int 0), (2, .ref (ad k 3 0)), (3, .int 3), (4, .int 0)]) hc dX6_timesOpened_11 (by decide) rfl ?_
  refine rm_iload hc dX6_timesOpened_13 rfl ?_
  refine rm_iload_n hc dX6_timesOpened_15 rfl rfl ?_
  refine rm_icmp_ge (tgt := 39) hc dX6_timesOpened_16 (by decide) (fun h => absurd h (by decide)) (fun _ => ?_)
  refine rm_aload_n hc dX6_timesOpened_19 rfl rfl ?_
  refine rm_iload hc dX6_timesOpened_20 rfl ?_
  refine rm_aald (t0 := 2) (i := 0) (v := .ref (ad k 4 0)) hc dX6_timesOpened_22 (dm_3 (by omega)) rfl rfl (by omega) (by decide) rfl rfl ?_
  refine rm_astore (ls' := [(0, .ref (ad k 0 0)), (1, .int 0), (2, .ref (ad k 3 0)), (3, .int 3), (4, .int 0), (5, .ref (ad k 4 0))]) hc dX6_timesOpened_23 (by decide) rfl ?_
  refine rm_iload_n hc dX6_timesOpened_25 rfl rfl ?_
  refine rm_aload hc dX6_timesOpened_26 rfl ?_
  refine rm_geti hc dX6_timesOpened_28 fl_X6_105 (dm_4 (by omega) (by omega) (by omega)) rfl rfl (fun v_2 e_2 => ?_)
  refine rm_iadd hc dX6_timesOpened_31 (fun v_3 e_3 => ?_)
  refine rm_istore_n (ls' := [(0, .ref (ad k 0 0)), (1, .int v_3), (2, .ref (ad k 3 0)), (3, .int 3), (4, .int 0), (5, .ref (ad k 4 0))]) hc dX6_timesOpened_32 rfl (by decide) rfl ?_
  refine rm_iinc (v := 1) (ls' := [(0, .ref (ad k 0 0)), (1, .int v_3), (2, .ref (ad k 3 0)), (3, .int 3), (4, .int 1), (5, .ref (ad k 4 0))]) hc dX6_timesOpened_33 rfl (by decide) (by decide) rfl ?_
  refine rm_goto (tgt := 13) hc dX6_timesOpened_36 (by decide) ?_
  refine rm_iload hc dX6_timesOpened_13 rfl ?_
  refine rm_iload_n hc dX6_timesOpened_15 rfl rfl ?_
  refine rm_icmp_ge (tgt := 39) hc dX6_timesOpened_16 (by decide) (fun h => absurd h (by decide)) (fun _ => ?_)
  refine rm_aload_n hc dX6_timesOpened_19 rfl rfl ?_
  refine rm_iload hc dX6_timesOpened_20 rfl ?_
  refine rm_aald (t0 := 2) (i := 1) (v := .ref (ad k 4 1)) hc dX6_timesOpened_22 (dm_3 (by omega)) rfl rfl (by omega) (by decide) rfl rfl ?_
  refine rm_astore (ls' := [(0, .ref (ad k 0 0)), (1, .int v_3), (2, .ref (ad k 3 0)), (3, .int 3), (4, .int 1), (5, .ref (ad k 4 1))]) hc dX6_timesOpened_23 (by decide) rfl ?_
  refine rm_iload_n hc dX6_timesOpened_25 rfl rfl ?_
  refine rm_aload hc dX6_timesOpened_26 rfl ?_
  refine rm_geti hc dX6_timesOpened_28 fl_X6_105 (dm_4 (by omega) (by omega) (by omega)) rfl rfl (fun v_5 e_5 => ?_)
  refine rm_iadd hc dX6_timesOpened_31 (fun v_6 e_6 => ?_)
  refine rm_istore_n (ls' := [(0, .ref (ad k 0 0)), (1, .int v_6), (2, .ref (ad k 3 0)), (3, .int 3), (4, .int 1), (5, .ref (ad k 4 1))]) hc dX6_timesOpened_32 rfl (by decide) rfl ?_
  refine rm_iinc (v := 2) (ls' := [(0, .ref (ad k 0 0)), (1, .int v_6), (2, .ref (ad k 3 0)), (3, .int 3), (4, .int 2), (5, .ref (ad k 4 1))]) hc dX6_timesOpened_33 rfl (by decide) (by decide) rfl ?_
  refine rm_goto (tgt := 13) hc dX6_timesOpened_36 (by decide) ?_
  refine rm_iload hc dX6_timesOpened_13 rfl ?_
  refine rm_iload_n hc dX6_timesOpened_15 rfl rfl ?_
  refine rm_icmp_ge (tgt := 39) hc dX6_timesOpened_16 (by decide) (fun h => absurd h (by decide)) (fun _ => ?_)
  refine rm_aload_n hc dX6_timesOpened_19 rfl rfl ?_
  refine rm_iload hc dX6_timesOpened_20 rfl ?_
  refine rm_aald (t0 := 2) (i := 2) (v := .ref (ad k 4 2)) hc dX6_timesOpened_22 (dm_3 (by omega)) rfl rfl (by omega) (by decide) rfl rfl ?_
  refine rm_astore (ls' := [(0, .ref (ad k 0 0)), (1, .int v_6), (2, .ref (ad k 3 0)), (3, .int 3), (4, .int 2), (5, .ref (ad k 4 2))]) hc dX6_timesOpened_23 (by decide) rfl ?_
  refine rm_iload_n hc dX6_timesOpened_25 rfl rfl ?_
  refine rm_aload hc dX6_timesOpened_26 rfl ?_
  refine rm_geti hc dX6_timesOpened_28 fl_X6_105 (dm_4 (by omega) (by omega) (by omega)) rfl rfl (fun v_8 e_8 => ?_)
  refine rm_iadd hc dX6_timesOpened_31 (fun v_9 e_9 => ?_)
  refine rm_istore_n (ls' := [(0, .ref (ad k 0 0)), (1, .int v_9), (2, .ref (ad k 3 0)), (3, .int 3), (4, .int 2), (5, .ref (ad k 4 2))]) hc dX6_timesOpened_32 rfl (by decide) rfl ?_
  refine rm_iinc (v := 3) (ls' := [(0, .ref (ad k 0 0)), (1, .int v_9), (2, .ref (ad k 3 0)), (3, .int 3), (4, .int 3), (5, .ref (ad k 4 2))]) hc dX6_timesOpened_33 rfl (by decide) (by decide) rfl ?_
  refine rm_goto (tgt := 13) hc dX6_timesOpened_36 (by decide) ?_
  refine rm_iload hc dX6_timesOpened_13 rfl ?_
  refine rm_iload_n hc dX6_timesOpened_15 rfl rfl ?_
  refine rm_icmp_ge (tgt := 39) hc dX6_timesOpened_16 (by decide) (fun _ => ?_) (fun h => absurd (by decide) h)
  refine rm_iload_n hc dX6_timesOpened_39 rfl rfl ?_
  exact rm_iret hc dX6_timesOpened_40 ⟨by subst_vars; rfl, rfl⟩

abbrev rm_X6_wrongNumbers : Room := { frames := 0, cells := 0, slots := 0, locals := 0 }
set_option maxHeartbeats 4000000 in
set_option maxRecDepth 100000 in
theorem c_X6_wrongNumbers {l : Launch} {D : va_G} {cy : Nat → ClassId} {ad : Ads} (hI : IJ ad) (x : Mem) {k : Nat} (hk : k < 7) : Cti l yX6_wrongNumbers cX6_wrongNumbers 6 (some .int) rm_X6_wrongNumbers D cy ad [.ref (ad k 0 0)] x (fun r y => r = sum3 (x k 34) (x k 56) (x k 78) ∧ y = x) := by
  refine rm_entry (Qc := Qi D cy ad (fun r y => r = sum3 (x k 34) (x k 56) (x k 78) ∧ y = x)) hI (by decide) (Nat.le_of_ble_eq_true rfl) ?_
  intro p e s m args below meth c hc
  show RM _ _ _ _ _ _ _ _ _ _ _ _ _ _ _ _ _ [(0, .ref (ad k 0 0))] []
  refine rm_iconst (v := 0) hc dX6_wrongNumbers_0 (by decide) ?_
  refine rm_istore_n (ls' := [(0, .ref (ad k 0 0)), (1, .int 0)]) hc dX6_wrongNumbers_1 rfl (by decide) rfl ?_
  refine rm_aload_n hc dX6_wrongNumbers_2 rfl rfl ?_
  refine rm_get hc dX6_wrongNumbers_3 fl_X6_22 (dm_0 (by omega)) rfl rfl ?_
  refine rm_astore_n (ls' := [(0, .ref (ad k 0 0)), (1, .int 0), (2, .ref (ad k 3 0))]) hc dX6_wrongNumbers_6 rfl (by decide) rfl ?_
  refine rm_aload_n hc dX6_wrongNumbers_7 rfl rfl ?_
  refine rm_alen (n := 0) (t0 := 2) (v := 3) hc dX6_wrongNumbers_8 (dm_3 (by omega)) rfl rfl rfl ?_
  refine rm_istore_n (ls' := [(0, .ref (ad k 0 0)), (1, .int 0), (2, .ref (ad k 3 0)), (3, .int 3)]) hc dX6_wrongNumbers_9 rfl (by decide) rfl ?_
  refine rm_iconst (v := 0) hc dX6_wrongNumbers_10 (by decide) ?_
  refine rm_istore (ls' := [(0, .ref (ad k 0 0)), (1, .int 0), (2, .ref (ad k 3 0)), (3, .int 3), (4, .int 0)]) hc dX6_wrongNumbers_11 (by decide) rfl ?_
  refine rm_iload hc dX6_wrongNumbers_13 rfl ?_
  refine rm_iload_n hc dX6_wrongNumbers_15 rfl rfl ?_
  refine rm_icmp_ge (tgt := 39) hc dX6_wrongNumbers_16 (by decide) (fun h => absurd h (by decide)) (fun _ => ?_)
  refine rm_aload_n hc dX6_wrongNumbers_19 rfl rfl ?_
  refine rm_iload hc dX6_wrongNumbers_20 rfl ?_
  refine rm_aald (t0 := 2) (i := 0) (v := .ref (ad k 4 0)) hc dX6_wrongNumbers_22 (dm_3 (by omega)) rfl rfl (by omega) (by decide) rfl rfl ?_
  refine rm_astore (ls' := [(0, .ref (ad k 0 0)), (1, .int 0), (2, .ref (ad k 3 0)), (3, .int 3), (4, .int 0), (5, .ref (ad k 4 0))]) hc dX6_wrongNumbers_23 (by decide) rfl ?_
  refine rm_iload_n hc dX6_wrongNumbers_25 rfl rfl ?_
  refine rm_aload hc dX6_wrongNumbers_26 rfl ?_
  refine rm_geti hc dX6_wrongNumbers_28 fl_X6_108 (dm_4 (by omega) (by omega) (by omega)) rfl rfl (fun v_2 e_2 => ?_)
  refine rm_iadd hc dX6_wrongNumbers_31 (fun v_3 e_3 => ?_)
  refine rm_istore_n (ls' := [(0, .ref (ad k 0 0)), (1, .int v_3), (2, .ref (ad k 3 0)), (3, .int 3), (4, .int 0), (5, .ref (ad k 4 0))]) hc dX6_wrongNumbers_32 rfl (by decide) rfl ?_
  refine rm_iinc (v := 1) (ls' := [(0, .ref (ad k 0 0)), (1, .int v_3), (2, .ref (ad k 3 0)), (3, .int 3), (4, .int 1), (5, .ref (ad k 4 0))]) hc dX6_wrongNumbers_33 rfl (by decide) (by decide) rfl ?_
  refine rm_goto (tgt := 13) hc dX6_wrongNumbers_36 (by decide) ?_
  refine rm_iload hc dX6_wrongNumbers_13 rfl ?_
  refine rm_iload_n hc dX6_wrongNumbers_15 rfl rfl ?_
  refine rm_icmp_ge (tgt := 39) hc dX6_wrongNumbers_16 (by decide) (fun h => absurd h (by decide)) (fun _ => ?_)
  refine rm_aload_n hc dX6_wrongNumbers_19 rfl rfl ?_
  refine rm_iload hc dX6_wrongNumbers_20 rfl ?_
  refine rm_aald (t0 := 2) (i := 1) (v := .ref (ad k 4 1)) hc dX6_wrongNumbers_22 (dm_3 (by omega)) rfl rfl (by omega) (by decide) rfl rfl ?_
  refine rm_astore (ls' := [(0, .ref (ad k 0 0)), (1, .int v_3), (2, .ref (ad k 3 0)), (3, .int 3), (4, .int 1), (5, .ref (ad k 4 1))]) hc dX6_wrongNumbers_23 (by decide) rfl ?_
  refine rm_iload_n hc dX6_wrongNumbers_25 rfl rfl ?_
  refine rm_aload hc dX6_wrongNumbers_26 rfl ?_
  refine rm_geti hc dX6_wrongNumbers_28 fl_X6_108 (dm_4 (by omega) (by omega) (by omega)) rfl rfl (fun v_5 e_5 => ?_)
  refine rm_iadd hc dX6_wrongNumbers_31 (fun v_6 e_6 => ?_)
  refine rm_istore_n (ls' := [(0, .ref (ad k 0 0)), (1, .int v_6), (2, .ref (ad k 3 0)), (3, .int 3), (4, .int 1), (5, .ref (ad k 4 1))]) hc dX6_wrongNumbers_32 rfl (by decide) rfl ?_
  refine rm_iinc (v := 2) (ls' := [(0, .ref (ad k 0 0)), (1, .int v_6), (2, .ref (ad k 3 0)), (3, .int 3), (4, .int 2), (5, .ref (ad k 4 1))]) hc dX6_wrongNumbers_33 rfl (by decide) (by decide) rfl ?_
  refine rm_goto (tgt := 13) hc dX6_wrongNumbers_36 (by decide) ?_
  refine rm_iload hc dX6_wrongNumbers_13 rfl ?_
  refine rm_iload_n hc dX6_wrongNumbers_15 rfl rfl ?_
  refine rm_icmp_ge (tgt := 39) hc dX6_wrongNumbers_16 (by decide) (fun h => absurd h (by decide)) (fun _ => ?_)
  refine rm_aload_n hc dX6_wrongNumbers_19 rfl rfl ?_
  refine rm_iload hc dX6_wrongNumbers_20 rfl ?_
  refine rm_aald (t0 := 2) (i := 2) (v := .ref (ad k 4 2)) hc dX6_wrongNumbers_22 (dm_3 (by omega)) rfl rfl (by omega) (by decide) rfl rfl ?_
  refine rm_astore (ls' := [(0, .ref (ad k 0 0)), (1, .int v_6), (2, .ref (ad k 3 0)), (3, .int 3), (4, .int 2), (5, .ref (ad k 4 2))]) hc dX6_wrongNumbers_23 (by decide) rfl ?_
  refine rm_iload_n hc dX6_wrongNumbers_25 rfl rfl ?_
  refine rm_aload hc dX6_wrongNumbers_26 rfl ?_
  refine rm_geti hc dX6_wrongNumbers_28 fl_X6_108 (dm_4 (by omega) (by omega) (by omega)) rfl rfl (fun v_8 e_8 => ?_)
  refine rm_iadd hc dX6_wrongNumbers_31 (fun v_9 e_9 => ?_)
  refine rm_istore_n (ls' := [(0, .ref (ad k 0 0)), (1, .int v_9), (2, .ref (ad k 3 0)), (3, .int 3), (4, .int 2), (5, .ref (ad k 4 2))]) hc dX6_wrongNumbers_32 rfl (by decide) rfl ?_
  refine rm_iinc (v := 3) (ls' := [(0, .ref (ad k 0 0)), (1, .int v_9), (2, .ref (ad k 3 0)), (3, .int 3), (4, .int 3), (5, .ref (ad k 4 2))]) hc dX6_wrongNumbers_33 rfl (by decide) (by decide) rfl ?_
  refine rm_goto (tgt := 13) hc dX6_wrongNumbers_36 (by decide) ?_
  refine rm_iload hc dX6_wrongNumbers_13 rfl ?_
  refine rm_iload_n hc dX6_wrongNumbers_15 rfl rfl ?_
  refine rm_icmp_ge (tgt := 39) hc dX6_wrongNumbers_16 (by decide) (fun _ => ?_) (fun h => absurd (by decide) h)
  refine rm_iload_n hc dX6_wrongNumbers_39 rfl rfl ?_
  exact rm_iret hc dX6_wrongNumbers_40 ⟨by subst_vars; rfl, rfl⟩

abbrev rm_X6_openDoors : Room := { frames := 0, cells := 0, slots := 0, locals := 0 }
set_option maxHeartbeats 4000000 in
set_option maxRecDepth 100000 in
theorem c_X6_openDoors {l : Launch} {D : va_G} {cy : Nat → ClassId} {ad : Ads} (hI : IJ ad) (x : Mem) {k : Nat} (hk : k < 7) : Cti l yX6_openDoors cX6_openDoors 6 (some .int) rm_X6_openDoors D cy ad [.ref (ad k 0 0)] x (fun r y => r = sum3 (b2 (x k 30)) (b2 (x k 52)) (b2 (x k 74)) ∧ y = x) := by
  refine rm_entry (Qc := Qi D cy ad (fun r y => r = sum3 (b2 (x k 30)) (b2 (x k 52)) (b2 (x k 74)) ∧ y = x)) hI (by decide) (Nat.le_of_ble_eq_true rfl) ?_
  intro p e s m args below meth c hc
  show RM _ _ _ _ _ _ _ _ _ _ _ _ _ _ _ _ _ [(0, .ref (ad k 0 0))] []
  refine rm_iconst (v := 0) hc dX6_openDoors_0 (by decide) ?_
  refine rm_istore_n (ls' := [(0, .ref (ad k 0 0)), (1, .int 0)]) hc dX6_openDoors_1 rfl (by decide) rfl ?_
  refine rm_aload_n hc dX6_openDoors_2 rfl rfl ?_
  refine rm_get hc dX6_openDoors_3 fl_X6_22 (dm_0 (by omega)) rfl rfl ?_
  refine rm_astore_n (ls' := [(0, .ref (ad k 0 0)), (1, .int 0), (2, .ref (ad k 3 0))]) hc dX6_openDoors_6 rfl (by decide) rfl ?_
  refine rm_aload_n hc dX6_openDoors_7 rfl rfl ?_
  refine rm_alen (n := 0) (t0 := 2) (v := 3) hc dX6_openDoors_8 (dm_3 (by omega)) rfl rfl rfl ?_
  refine rm_istore_n (ls' := [(0, .ref (ad k 0 0)), (1, .int 0), (2, .ref (ad k 3 0)), (3, .int 3)]) hc dX6_openDoors_9 rfl (by decide) rfl ?_
  refine rm_iconst (v := 0) hc dX6_openDoors_10 (by decide) ?_
  refine rm_istore (ls' := [(0, .ref (ad k 0 0)), (1, .int 0), (2, .ref (ad k 3 0)), (3, .int 3), (4, .int 0)]) hc dX6_openDoors_11 (by decide) rfl ?_
  refine rm_iload hc dX6_openDoors_13 rfl ?_
  refine rm_iload_n hc dX6_openDoors_15 rfl rfl ?_
  refine rm_icmp_ge (tgt := 47) hc dX6_openDoors_16 (by decide) (fun h => absurd h (by decide)) (fun _ => ?_)
  refine rm_aload_n hc dX6_openDoors_19 rfl rfl ?_
  refine rm_iload hc dX6_openDoors_20 rfl ?_
  refine rm_aald (t0 := 2) (i := 0) (v := .ref (ad k 4 0)) hc dX6_openDoors_22 (dm_3 (by omega)) rfl rfl (by omega) (by decide) rfl rfl ?_
  refine rm_astore (ls' := [(0, .ref (ad k 0 0)), (1, .int 0), (2, .ref (ad k 3 0)), (3, .int 3), (4, .int 0), (5, .ref (ad k 4 0))]) hc dX6_openDoors_23 (by decide) rfl ?_
  refine rm_iload_n hc dX6_openDoors_25 rfl rfl ?_
  refine rm_aload hc dX6_openDoors_26 rfl ?_
  refine rm_geti hc dX6_openDoors_28 fl_X6_98 (dm_4 (by omega) (by omega) (by omega)) rfl rfl (fun v_2 e_2 => ?_)
  refine rm_if_eq (tgt := 38) hc dX6_openDoors_31 (by decide) (fun c_3 => ?_) (fun c_3 => ?_)
  · --
    refine rm_iconst (v := 0) hc dX6_openDoors_38 (by decide) ?_
    refine rm_iadd hc dX6_openDoors_39 (fun v_4 e_4 => ?_)
    obtain rfl : v_4 = 0 := e_4.trans (by decide)
    clear e_4
    refine rm_istore_n (ls' := [(0, .ref (ad k 0 0)), (1, .int 0), (2, .ref (ad k 3 0)), (3, .int 3), (4, .int 0), (5, .ref (ad k 4 0))]) hc dX6_openDoors_40 rfl (by decide) rfl ?_
    refine rm_iinc (v := 1) (ls' := [(0, .ref (ad k 0 0)), (1, .int 0), (2, .ref (ad k 3 0)), (3, .int 3), (4, .int 1), (5, .ref (ad k 4 0))]) hc dX6_openDoors_41 rfl (by decide) (by decide) rfl ?_
    refine rm_goto (tgt := 13) hc dX6_openDoors_44 (by decide) ?_
    refine rm_iload hc dX6_openDoors_13 rfl ?_
    refine rm_iload_n hc dX6_openDoors_15 rfl rfl ?_
    refine rm_icmp_ge (tgt := 47) hc dX6_openDoors_16 (by decide) (fun h => absurd h (by decide)) (fun _ => ?_)
    refine rm_aload_n hc dX6_openDoors_19 rfl rfl ?_
    refine rm_iload hc dX6_openDoors_20 rfl ?_
    refine rm_aald (t0 := 2) (i := 1) (v := .ref (ad k 4 1)) hc dX6_openDoors_22 (dm_3 (by omega)) rfl rfl (by omega) (by decide) rfl rfl ?_
    refine rm_astore (ls' := [(0, .ref (ad k 0 0)), (1, .int 0), (2, .ref (ad k 3 0)), (3, .int 3), (4, .int 1), (5, .ref (ad k 4 1))]) hc dX6_openDoors_23 (by decide) rfl ?_
    refine rm_iload_n hc dX6_openDoors_25 rfl rfl ?_
    refine rm_aload hc dX6_openDoors_26 rfl ?_
    refine rm_geti hc dX6_openDoors_28 fl_X6_98 (dm_4 (by omega) (by omega) (by omega)) rfl rfl (fun v_6 e_6 => ?_)
    refine rm_if_eq (tgt := 38) hc dX6_openDoors_31 (by decide) (fun c_7 => ?_) (fun c_7 => ?_)
    · --
      refine rm_iconst (v := 0) hc dX6_openDoors_38 (by decide) ?_
      refine rm_iadd hc dX6_openDoors_39 (fun v_8 e_8 => ?_)
      obtain rfl : v_8 = 0 := e_8.trans (by decide)
      clear e_8
      refine rm_istore_n (ls' := [(0, .ref (ad k 0 0)), (1, .int 0), (2, .ref (ad k 3 0)), (3, .int 3), (4, .int 1), (5, .ref (ad k 4 1))]) hc dX6_openDoors_40 rfl (by decide) rfl ?_
      refine rm_iinc (v := 2) (ls' := [(0, .ref (ad k 0 0)), (1, .int 0), (2, .ref (ad k 3 0)), (3, .int 3), (4, .int 2), (5, .ref (ad k 4 1))]) hc dX6_openDoors_41 rfl (by decide) (by decide) rfl ?_
      refine rm_goto (tgt := 13) hc dX6_openDoors_44 (by decide) ?_
      refine rm_iload hc dX6_openDoors_13 rfl ?_
      refine rm_iload_n hc dX6_openDoors_15 rfl rfl ?_
      refine rm_icmp_ge (tgt := 47) hc dX6_openDoors_16 (by decide) (fun h => absurd h (by decide)) (fun _ => ?_)
      refine rm_aload_n hc dX6_openDoors_19 rfl rfl ?_
      refine rm_iload hc dX6_openDoors_20 rfl ?_
      refine rm_aald (t0 := 2) (i := 2) (v := .ref (ad k 4 2)) hc dX6_openDoors_22 (dm_3 (by omega)) rfl rfl (by omega) (by decide) rfl rfl ?_
      refine rm_astore (ls' := [(0, .ref (ad k 0 0)), (1, .int 0), (2, .ref (ad k 3 0)), (3, .int 3), (4, .int 2), (5, .ref (ad k 4 2))]) hc dX6_openDoors_23 (by decide) rfl ?_
      refine rm_iload_n hc dX6_openDoors_25 rfl rfl ?_
      refine rm_aload hc dX6_openDoors_26 rfl ?_
      refine rm_geti hc dX6_openDoors_28 fl_X6_98 (dm_4 (by omega) (by omega) (by omega)) rfl rfl (fun v_10 e_10 => ?_)
      refine rm_if_eq (tgt := 38) hc dX6_openDoors_31 (by decide) (fun c_11 => ?_) (fun c_11 => ?_)
      · --
        refine rm_iconst (v := 0) hc dX6_openDoors_38 (by decide) ?_
        refine rm_iadd hc dX6_openDoors_39 (fun v_12 e_12 => ?_)
        obtain rfl : v_12 = 0 := e_12.trans (by decide)
        clear e_12
        refine rm_istore_n (ls' := [(0, .ref (ad k 0 0)), (1, .int 0), (2, .ref (ad k 3 0)), (3, .int 3), (4, .int 2), (5, .ref (ad k 4 2))]) hc dX6_openDoors_40 rfl (by decide) rfl ?_
        refine rm_iinc (v := 3) (ls' := [(0, .ref (ad k 0 0)), (1, .int 0), (2, .ref (ad k 3 0)), (3, .int 3), (4, .int 3), (5, .ref (ad k 4 2))]) hc dX6_openDoors_41 rfl (by decide) (by decide) rfl ?_
        refine rm_goto (tgt := 13) hc dX6_openDoors_44 (by decide) ?_
        refine rm_iload hc dX6_openDoors_13 rfl ?_
        refine rm_iload_n hc dX6_openDoors_15 rfl rfl ?_
        refine rm_icmp_ge (tgt := 47) hc dX6_openDoors_16 (by decide) (fun _ => ?_) (fun h => absurd (by decide) h)
        refine rm_iload_n hc dX6_openDoors_47 rfl rfl ?_
        exact rm_iret hc dX6_openDoors_48 ⟨sum3_of (b2_0 (e_2.symm.trans c_3)) (b2_0 (e_6.symm.trans c_7)) (b2_0 (e_10.symm.trans c_11)) (by decide), rfl⟩
      · --
        refine rm_iconst (v := 1) hc dX6_openDoors_34 (by decide) ?_
        refine rm_goto (tgt := 39) hc dX6_openDoors_35 (by decide) ?_
        refine rm_iadd hc dX6_openDoors_39 (fun v_14 e_14 => ?_)
        obtain rfl : v_14 = 1 := e_14.trans (by decide)
        clear e_14
        refine rm_istore_n (ls' := [(0, .ref (ad k 0 0)), (1, .int 1), (2, .ref (ad k 3 0)), (3, .int 3), (4, .int 2), (5, .ref (ad k 4 2))]) hc dX6_openDoors_40 rfl (by decide) rfl ?_
        refine rm_iinc (v := 3) (ls' := [(0, .ref (ad k 0 0)), (1, .int 1), (2, .ref (ad k 3 0)), (3, .int 3), (4, .int 3), (5, .ref (ad k 4 2))]) hc dX6_openDoors_41 rfl (by decide) (by decide) rfl ?_
        refine rm_goto (tgt := 13) hc dX6_openDoors_44 (by decide) ?_
        refine rm_iload hc dX6_openDoors_13 rfl ?_
        refine rm_iload_n hc dX6_openDoors_15 rfl rfl ?_
        refine rm_icmp_ge (tgt := 47) hc dX6_openDoors_16 (by decide) (fun _ => ?_) (fun h => absurd (by decide) h)
        refine rm_iload_n hc dX6_openDoors_47 rfl rfl ?_
        exact rm_iret hc dX6_openDoors_48 ⟨sum3_of (b2_0 (e_2.symm.trans c_3)) (b2_0 (e_6.symm.trans c_7)) (b2_1 (fun h => c_11 (e_10.trans h))) (by decide), rfl⟩
    · --
      refine rm_iconst (v := 1) hc dX6_openDoors_34 (by decide) ?_
      refine rm_goto (tgt := 39) hc dX6_openDoors_35 (by decide) ?_
      refine rm_iadd hc dX6_openDoors_39 (fun v_16 e_16 => ?_)
      obtain rfl : v_16 = 1 := e_16.trans (by decide)
      clear e_16
      refine rm_istore_n (ls' := [(0, .ref (ad k 0 0)), (1, .int 1), (2, .ref (ad k 3 0)), (3, .int 3), (4, .int 1), (5, .ref (ad k 4 1))]) hc dX6_openDoors_40 rfl (by decide) rfl ?_
      refine rm_iinc (v := 2) (ls' := [(0, .ref (ad k 0 0)), (1, .int 1), (2, .ref (ad k 3 0)), (3, .int 3), (4, .int 2), (5, .ref (ad k 4 1))]) hc dX6_openDoors_41 rfl (by decide) (by decide) rfl ?_
      refine rm_goto (tgt := 13) hc dX6_openDoors_44 (by decide) ?_
      refine rm_iload hc dX6_openDoors_13 rfl ?_
      refine rm_iload_n hc dX6_openDoors_15 rfl rfl ?_
      refine rm_icmp_ge (tgt := 47) hc dX6_openDoors_16 (by decide) (fun h => absurd h (by decide)) (fun _ => ?_)
      refine rm_aload_n hc dX6_openDoors_19 rfl rfl ?_
      refine rm_iload hc dX6_openDoors_20 rfl ?_
      refine rm_aald (t0 := 2) (i := 2) (v := .ref (ad k 4 2)) hc dX6_openDoors_22 (dm_3 (by omega)) rfl rfl (by omega) (by decide) rfl rfl ?_
      refine rm_astore (ls' := [(0, .ref (ad k 0 0)), (1, .int 1), (2, .ref (ad k 3 0)), (3, .int 3), (4, .int 2), (5, .ref (ad k 4 2))]) hc dX6_openDoors_23 (by decide) rfl ?_
      refine rm_iload_n hc dX6_openDoors_25 rfl rfl ?_
      refine rm_aload hc dX6_openDoors_26 rfl ?_
      refine rm_geti hc dX6_openDoors_28 fl_X6_98 (dm_4 (by omega) (by omega) (by omega)) rfl rfl (fun v_18 e_18 => ?_)
      refine rm_if_eq (tgt := 38) hc dX6_openDoors_31 (by decide) (fun c_19 => ?_) (fun c_19 => ?_)
      · --
        refine rm_iconst (v := 0) hc dX6_openDoors_38 (by decide) ?_
        refine rm_iadd hc dX6_openDoors_39 (fun v_20 e_20 => ?_)
        obtain rfl : v_20 = 1 := e_20.trans (by decide)
        clear e_20
        refine rm_istore_n (ls' := [(0, .ref (ad k 0 0)), (1, .int 1), (2, .ref (ad k 3 0)), (3, .int 3), (4, .int 2), (5, .ref (ad k 4 2))]) hc dX6_openDoors_40 rfl (by decide) rfl ?_
        refine rm_iinc (v := 3) (ls' := [(0, .ref (ad k 0 0)), (1, .int 1), (2, .ref (ad k 3 0)), (3, .int 3), (4, .int 3), (5, .ref (ad k 4 2))]) hc dX6_openDoors_41 rfl (by decide) (by decide) rfl ?_
        refine rm_goto (tgt := 13) hc dX6_openDoors_44 (by decide) ?_
        refine rm_iload hc dX6_openDoors_13 rfl ?_
        refine rm_iload_n hc dX6_openDoors_15 rfl rfl ?_
        refine rm_icmp_ge (tgt := 47) hc dX6_openDoors_16 (by decide) (fun _ => ?_) (fun h => absurd (by decide) h)
        refine rm_iload_n hc dX6_openDoors_47 rfl rfl ?_
        exact rm_iret hc dX6_openDoors_48 ⟨sum3_of (b2_0 (e_2.symm.trans c_3)) (b2_1 (fun h => c_7 (e_6.trans h))) (b2_0 (e_18.symm.trans c_19)) (by decide), rfl⟩
      · --
        refine rm_iconst (v := 1) hc dX6_openDoors_34 (by decide) ?_
        refine rm_goto (tgt := 39) hc dX6_openDoors_35 (by decide) ?_
        refine rm_iadd hc dX6_openDoors_39 (fun v_22 e_22 => ?_)
        obtain rfl : v_22 = 2 := e_22.trans (by decide)
        clear e_22
        refine rm_istore_n (ls' := [(0, .ref (ad k 0 0)), (1, .int 2), (2, .ref (ad k 3 0)), (3, .int 3), (4, .int 2), (5, .ref (ad k 4 2))]) hc dX6_openDoors_40 rfl (by decide) rfl ?_
        refine rm_iinc (v := 3) (ls' := [(0, .ref (ad k 0 0)), (1, .int 2), (2, .ref (ad k 3 0)), (3, .int 3), (4, .int 3), (5, .ref (ad k 4 2))]) hc dX6_openDoors_41 rfl (by decide) (by decide) rfl ?_
        refine rm_goto (tgt := 13) hc dX6_openDoors_44 (by decide) ?_
        refine rm_iload hc dX6_openDoors_13 rfl ?_
        refine rm_iload_n hc dX6_openDoors_15 rfl rfl ?_
        refine rm_icmp_ge (tgt := 47) hc dX6_openDoors_16 (by decide) (fun _ => ?_) (fun h => absurd (by decide) h)
        refine rm_iload_n hc dX6_openDoors_47 rfl rfl ?_
        exact rm_iret hc dX6_openDoors_48 ⟨sum3_of (b2_0 (e_2.symm.trans c_3)) (b2_1 (fun h => c_7 (e_6.trans h))) (b2_1 (fun h => c_19 (e_18.trans h))) (by decide), rfl⟩
  · --
    refine rm_iconst (v := 1) hc dX6_openDoors_34 (by decide) ?_
    refine rm_goto (tgt := 39) hc dX6_openDoors_35 (by decide) ?_
    refine rm_iadd hc dX6_openDoors_39 (fun v_24 e_24 => ?_)
    obtain rfl : v_24 = 1 := e_24.trans (by decide)
    clear e_24
    refine rm_istore_n (ls' := [(0, .ref (ad k 0 0)), (1, .int 1), (2, .ref (ad k 3 0)), (3, .int 3), (4, .int 0), (5, .ref (ad k 4 0))]) hc dX6_openDoors_40 rfl (by decide) rfl ?_
    refine rm_iinc (v := 1) (ls' := [(0, .ref (ad k 0 0)), (1, .int 1), (2, .ref (ad k 3 0)), (3, .int 3), (4, .int 1), (5, .ref (ad k 4 0))]) hc dX6_openDoors_41 rfl (by decide) (by decide) rfl ?_
    refine rm_goto (tgt := 13) hc dX6_openDoors_44 (by decide) ?_
    refine rm_iload hc dX6_openDoors_13 rfl ?_
    refine rm_iload_n hc dX6_openDoors_15 rfl rfl ?_
    refine rm_icmp_ge (tgt := 47) hc dX6_openDoors_16 (by decide) (fun h => absurd h (by decide)) (fun _ => ?_)
    refine rm_aload_n hc dX6_openDoors_19 rfl rfl ?_
    refine rm_iload hc dX6_openDoors_20 rfl ?_
    refine rm_aald (t0 := 2) (i := 1) (v := .ref (ad k 4 1)) hc dX6_openDoors_22 (dm_3 (by omega)) rfl rfl (by omega) (by decide) rfl rfl ?_
    refine rm_astore (ls' := [(0, .ref (ad k 0 0)), (1, .int 1), (2, .ref (ad k 3 0)), (3, .int 3), (4, .int 1), (5, .ref (ad k 4 1))]) hc dX6_openDoors_23 (by decide) rfl ?_
    refine rm_iload_n hc dX6_openDoors_25 rfl rfl ?_
    refine rm_aload hc dX6_openDoors_26 rfl ?_
    refine rm_geti hc dX6_openDoors_28 fl_X6_98 (dm_4 (by omega) (by omega) (by omega)) rfl rfl (fun v_26 e_26 => ?_)
    refine rm_if_eq (tgt := 38) hc dX6_openDoors_31 (by decide) (fun c_27 => ?_) (fun c_27 => ?_)
    · --
      refine rm_iconst (v := 0) hc dX6_openDoors_38 (by decide) ?_
      refine rm_iadd hc dX6_openDoors_39 (fun v_28 e_28 => ?_)
      obtain rfl : v_28 = 1 := e_28.trans (by decide)
      clear e_28
      refine rm_istore_n (ls' := [(0, .ref (ad k 0 0)), (1, .int 1), (2, .ref (ad k 3 0)), (3, .int 3), (4, .int 1), (5, .ref (ad k 4 1))]) hc dX6_openDoors_40 rfl (by decide) rfl ?_
      refine rm_iinc (v := 2) (ls' := [(0, .ref (ad k 0 0)), (1, .int 1), (2, .ref (ad k 3 0)), (3, .int 3), (4, .int 2), (5, .ref (ad k 4 1))]) hc dX6_openDoors_41 rfl (by decide) (by decide) rfl ?_
      refine rm_goto (tgt := 13) hc dX6_openDoors_44 (by decide) ?_
      refine rm_iload hc dX6_openDoors_13 rfl ?_
      refine rm_iload_n hc dX6_openDoors_15 rfl rfl ?_
      refine rm_icmp_ge (tgt := 47) hc dX6_openDoors_16 (by decide) (fun h => absurd h (by decide)) (fun _ => ?_)
      refine rm_aload_n hc dX6_openDoors_19 rfl rfl ?_
      refine rm_iload hc dX6_openDoors_20 rfl ?_
      refine rm_aald (t0 := 2) (i := 2) (v := .ref (ad k 4 2)) hc dX6_openDoors_22 (dm_3 (by omega)) rfl rfl (by omega) (by decide) rfl rfl ?_
      refine rm_astore (ls' := [(0, .ref (ad k 0 0)), (1, .int 1), (2, .ref (ad k 3 0)), (3, .int 3), (4, .int 2), (5, .ref (ad k 4 2))]) hc dX6_openDoors_23 (by decide) rfl ?_
      refine rm_iload_n hc dX6_openDoors_25 rfl rfl ?_
      refine rm_aload hc dX6_openDoors_26 rfl ?_
      refine rm_geti hc dX6_openDoors_28 fl_X6_98 (dm_4 (by omega) (by omega) (by omega)) rfl rfl (fun v_30 e_30 => ?_)
      refine rm_if_eq (tgt := 38) hc dX6_openDoors_31 (by decide) (fun c_31 => ?_) (fun c_31 => ?_)
      · --
        refine rm_iconst (v := 0) hc dX6_openDoors_38 (by decide) ?_
        refine rm_iadd hc dX6_openDoors_39 (fun v_32 e_32 => ?_)
        obtain rfl : v_32 = 1 := e_32.trans (by decide)
        clear e_32
        refine rm_istore_n (ls' := [(0, .ref (ad k 0 0)), (1, .int 1), (2, .ref (ad k 3 0)), (3, .int 3), (4, .int 2), (5, .ref (ad k 4 2))]) hc dX6_openDoors_40 rfl (by decide) rfl ?_
        refine rm_iinc (v := 3) (ls' := [(0, .ref (ad k 0 0)), (1, .int 1), (2, .ref (ad k 3 0)), (3, .int 3), (4, .int 3), (5, .ref (ad k 4 2))]) hc dX6_openDoors_41 rfl (by decide) (by decide) rfl ?_
        refine rm_goto (tgt := 13) hc dX6_openDoors_44 (by decide) ?_
        refine rm_iload hc dX6_openDoors_13 rfl ?_
        refine rm_iload_n hc dX6_openDoors_15 rfl rfl ?_
        refine rm_icmp_ge (tgt := 47) hc dX6_openDoors_16 (by decide) (fun _ => ?_) (fun h => absurd (by decide) h)
        refine rm_iload_n hc dX6_openDoors_47 rfl rfl ?_
        exact rm_iret hc dX6_openDoors_48 ⟨sum3_of (b2_1 (fun h => c_3 (e_2.trans h))) (b2_0 (e_26.symm.trans c_27)) (b2_0 (e_30.symm.trans c_31)) (by decide), rfl⟩
      · --
        refine rm_iconst (v := 1) hc dX6_openDoors_34 (by decide) ?_
        refine rm_goto (tgt := 39) hc dX6_openDoors_35 (by decide) ?_
        refine rm_iadd hc dX6_openDoors_39 (fun v_34 e_34 => ?_)
        obtain rfl : v_34 = 2 := e_34.trans (by decide)
        clear e_34
        refine rm_istore_n (ls' := [(0, .ref (ad k 0 0)), (1, .int 2), (2, .ref (ad k 3 0)), (3, .int 3), (4, .int 2), (5, .ref (ad k 4 2))]) hc dX6_openDoors_40 rfl (by decide) rfl ?_
        refine rm_iinc (v := 3) (ls' := [(0, .ref (ad k 0 0)), (1, .int 2), (2, .ref (ad k 3 0)), (3, .int 3), (4, .int 3), (5, .ref (ad k 4 2))]) hc dX6_openDoors_41 rfl (by decide) (by decide) rfl ?_
        refine rm_goto (tgt := 13) hc dX6_openDoors_44 (by decide) ?_
        refine rm_iload hc dX6_openDoors_13 rfl ?_
        refine rm_iload_n hc dX6_openDoors_15 rfl rfl ?_
        refine rm_icmp_ge (tgt := 47) hc dX6_openDoors_16 (by decide) (fun _ => ?_) (fun h => absurd (by decide) h)
        refine rm_iload_n hc dX6_openDoors_47 rfl rfl ?_
        exact rm_iret hc dX6_openDoors_48 ⟨sum3_of (b2_1 (fun h => c_3 (e_2.trans h))) (b2_0 (e_26.symm.trans c_27)) (b2_1 (fun h => c_31 (e_30.trans h))) (by decide), rfl⟩
    · --
      refine rm_iconst (v := 1) hc dX6_openDoors_34 (by decide) ?_
      refine rm_goto (tgt := 39) hc dX6_openDoors_35 (by decide) ?_
      refine rm_iadd hc dX6_openDoors_39 (fun v_36 e_36 => ?_)
      obtain rfl : v_36 = 2 := e_36.trans (by decide)
      clear e_36
      refine rm_istore_n (ls' := [(0, .ref (ad k 0 0)), (1, .int 2), (2, .ref (ad k 3 0)), (3, .int 3), (4, .int 1), (5, .ref (ad k 4 1))]) hc dX6_openDoors_40 rfl (by decide) rfl ?_
      refine rm_iinc (v := 2) (ls' := [(0, .ref (ad k 0 0)), (1, .int 2), (2, .ref (ad k 3 0)), (3, .int 3), (4, .int 2), (5, .ref (ad k 4 1))]) hc dX6_openDoors_41 rfl (by decide) (by decide) rfl ?_
      refine rm_goto (tgt := 13) hc dX6_openDoors_44 (by decide) ?_
      refine rm_iload hc dX6_openDoors_13 rfl ?_
      refine rm_iload_n hc dX6_openDoors_15 rfl rfl ?_
      refine rm_icmp_ge (tgt := 47) hc dX6_openDoors_16 (by decide) (fun h => absurd h (by decide)) (fun _ => ?_)
      refine rm_aload_n hc dX6_openDoors_19 rfl rfl ?_
      refine rm_iload hc dX6_openDoors_20 rfl ?_
      refine rm_aald (t0 := 2) (i := 2) (v := .ref (ad k 4 2)) hc dX6_openDoors_22 (dm_3 (by omega)) rfl rfl (by omega) (by decide) rfl rfl ?_
      refine rm_astore (ls' := [(0, .ref (ad k 0 0)), (1, .int 2), (2, .ref (ad k 3 0)), (3, .int 3), (4, .int 2), (5, .ref (ad k 4 2))]) hc dX6_openDoors_23 (by decide) rfl ?_
      refine rm_iload_n hc dX6_openDoors_25 rfl rfl ?_
      refine rm_aload hc dX6_openDoors_26 rfl ?_
      refine rm_geti hc dX6_openDoors_28 fl_X6_98 (dm_4 (by omega) (by omega) (by omega)) rfl rfl (fun v_38 e_38 => ?_)
      refine rm_if_eq (tgt := 38) hc dX6_openDoors_31 (by decide) (fun c_39 => ?_) (fun c_39 => ?_)
      · --
        refine rm_iconst (v := 0) hc dX6_openDoors_38 (by decide) ?_
        refine rm_iadd hc dX6_openDoors_39 (fun v_40 e_40 => ?_)
        obtain rfl : v_40 = 2 := e_40.trans (by decide)
        clear e_40
        refine rm_istore_n (ls' := [(0, .ref (ad k 0 0)), (1, .int 2), (2, .ref (ad k 3 0)), (3, .int 3), (4, .int 2), (5, .ref (ad k 4 2))]) hc dX6_openDoors_40 rfl (by decide) rfl ?_
        refine rm_iinc (v := 3) (ls' := [(0, .ref (ad k 0 0)), (1, .int 2), (2, .ref (ad k 3 0)), (3, .int 3), (4, .int 3), (5, .ref (ad k 4 2))]) hc dX6_openDoors_41 rfl (by decide) (by decide) rfl ?_
        refine rm_goto (tgt := 13) hc dX6_openDoors_44 (by decide) ?_
        refine rm_iload hc dX6_openDoors_13 rfl ?_
        refine rm_iload_n hc dX6_openDoors_15 rfl rfl ?_
        refine rm_icmp_ge (tgt := 47) hc dX6_openDoors_16 (by decide) (fun _ => ?_) (fun h => absurd (by decide) h)
        refine rm_iload_n hc dX6_openDoors_47 rfl rfl ?_
        exact rm_iret hc dX6_openDoors_48 ⟨sum3_of (b2_1 (fun h => c_3 (e_2.trans h))) (b2_1 (fun h => c_27 (e_26.trans h))) (b2_0 (e_38.symm.trans c_39)) (by decide), rfl⟩
      · --
        refine rm_iconst (v := 1) hc dX6_openDoors_34 (by decide) ?_
        refine rm_goto (tgt := 39) hc dX6_openDoors_35 (by decide) ?_
        refine rm_iadd hc dX6_openDoors_39 (fun v_42 e_42 => ?_)
        obtain rfl : v_42 = 3 := e_42.trans (by decide)
        clear e_42
        refine rm_istore_n (ls' := [(0, .ref (ad k 0 0)), (1, .int 3), (2, .ref (ad k 3 0)), (3, .int 3), (4, .int 2), (5, .ref (ad k 4 2))]) hc dX6_openDoors_40 rfl (by decide) rfl ?_
        refine rm_iinc (v := 3) (ls' := [(0, .ref (ad k 0 0)), (1, .int 3), (2, .ref (ad k 3 0)), (3, .int 3), (4, .int 3), (5, .ref (ad k 4 2))]) hc dX6_openDoors_41 rfl (by decide) (by decide) rfl ?_
        refine rm_goto (tgt := 13) hc dX6_openDoors_44 (by decide) ?_
        refine rm_iload hc dX6_openDoors_13 rfl ?_
        refine rm_iload_n hc dX6_openDoors_15 rfl rfl ?_
        refine rm_icmp_ge (tgt := 47) hc dX6_openDoors_16 (by decide) (fun _ => ?_) (fun h => absurd (by decide) h)
        refine rm_iload_n hc dX6_openDoors_47 rfl rfl ?_
        exact rm_iret hc dX6_openDoors_48 ⟨sum3_of (b2_1 (fun h => c_3 (e_2.trans h))) (b2_1 (fun h => c_27 (e_26.trans h))) (b2_1 (fun h => c_39 (e_38.trans h))) (by decide), rfl⟩

abbrev rm_X6_lockedDoors : Room := { frames := 1, cells := 0, slots := 0, locals := 21 }
set_option maxHeartbeats 4000000 in
set_option maxRecDepth 100000 in
theorem c_X6_lockedDoors {l : Launch} {D : va_G} {cy : Nat → ClassId} {ad : Ads} (hI : IJ ad) (x : Mem) {k : Nat} (hk : k < 7) : Cti l yX6_lockedDoors cX6_lockedDoors 6 (some .int) rm_X6_lockedDoors D cy ad [.ref (ad k 0 0)] x (fun r y => r = sum3 (b2 (lockS (x k 2) (x k 31))) (b2 (lockS (x k 2) (x k 53))) (b2 (lockS (x k 2) (x k 75))) ∧ y = x) := by
  refine rm_entry (Qc := Qi D cy ad (fun r y => r = sum3 (b2 (lockS (x k 2) (x k 31))) (b2 (lockS (x k 2) (x k 53))) (b2 (lockS (x k 2) (x k 75))) ∧ y = x)) hI (by decide) (Nat.le_of_ble_eq_true rfl) ?_
  intro p e s m args below meth c hc
  show RM _ _ _ _ _ _ _ _ _ _ _ _ _ _ _ _ _ [(0, .ref (ad k 0 0))] []
  refine rm_iconst (v := 0) hc dX6_lockedDoors_0 (by decide) ?_
  refine rm_istore_n (ls' := [(0, .ref (ad k 0 0)), (1, .int 0)]) hc dX6_lockedDoors_1 rfl (by decide) rfl ?_
  refine rm_aload_n hc dX6_lockedDoors_2 rfl rfl ?_
  refine rm_get hc dX6_lockedDoors_3 fl_X6_22 (dm_0 (by omega)) rfl rfl ?_
  refine rm_astore_n (ls' := [(0, .ref (ad k 0 0)), (1, .int 0), (2, .ref (ad k 3 0))]) hc dX6_lockedDoors_6 rfl (by decide) rfl ?_
  refine rm_aload_n hc dX6_lockedDoors_7 rfl rfl ?_
  refine rm_alen (n := 0) (t0 := 2) (v := 3) hc dX6_lockedDoors_8 (dm_3 (by omega)) rfl rfl rfl ?_
  refine rm_istore_n (ls' := [(0, .ref (ad k 0 0)), (1, .int 0), (2, .ref (ad k 3 0)), (3, .int 3)]) hc dX6_lockedDoors_9 rfl (by decide) rfl ?_
  refine rm_iconst (v := 0) hc dX6_lockedDoors_10 (by decide) ?_
  refine rm_istore (ls' := [(0, .ref (ad k 0 0)), (1, .int 0), (2, .ref (ad k 3 0)), (3, .int 3), (4, .int 0)]) hc dX6_lockedDoors_11 (by decide) rfl ?_
  refine rm_iload hc dX6_lockedDoors_13 rfl ?_
  refine rm_iload_n hc dX6_lockedDoors_15 rfl rfl ?_
  refine rm_icmp_ge (tgt := 51) hc dX6_lockedDoors_16 (by decide) (fun h => absurd h (by decide)) (fun _ => ?_)
  refine rm_aload_n hc dX6_lockedDoors_19 rfl rfl ?_
  refine rm_iload hc dX6_lockedDoors_20 rfl ?_
  refine rm_aald (t0 := 2) (i := 0) (v := .ref (ad k 4 0)) hc dX6_lockedDoors_22 (dm_3 (by omega)) rfl rfl (by omega) (by decide) rfl rfl ?_
  refine rm_astore (ls' := [(0, .ref (ad k 0 0)), (1, .int 0), (2, .ref (ad k 3 0)), (3, .int 3), (4, .int 0), (5, .ref (ad k 4 0))]) hc dX6_lockedDoors_23 (by decide) rfl ?_
  refine rm_iload_n hc dX6_lockedDoors_25 rfl rfl ?_
  refine rm_aload hc dX6_lockedDoors_26 rfl ?_
  refine rm_aload_n hc dX6_lockedDoors_28 rfl rfl ?_
  refine rm_get hc dX6_lockedDoors_29 fl_X6_37 (dm_0 (by omega)) rfl rfl ?_
  refine rm_calliV (As := [.ref (ad k 8 0)]) (rest := [.int 0]) hc dX6_lockedDoors_32 (c_X1_isLocked hI x (k := k) (d := 0) (k2 := k) (by omega) (by omega) (by omega) (by omega)) mv_X6_111 (dm_4 (by omega) (by omega) (by omega)) rfl rfl (hn := rfl) (hst := rfl) (hw := Nat.le_of_ble_eq_true rfl) (hR := ⟨⟨rfl, rfl⟩, Nat.le_of_ble_eq_true rfl, Nat.le_of_ble_eq_true rfl⟩) (hnc := ⟨Nat.zero_le _, Nat.zero_le _⟩) (fun r_2 y_2 h_2 => ?_)
  obtain ⟨e_2, ey_2⟩ := h_2
  obtain rfl := ey_2.symm
  refine rm_if_eq (tgt := 42) hc dX6_lockedDoors_35 (by decide) (fun c_3 => ?_) (fun c_3 => ?_)
  · --
    refine rm_iconst (v := 0) hc dX6_lockedDoors_42 (by decide) ?_
    refine rm_iadd hc dX6_lockedDoors_43 (fun v_4 e_4 => ?_)
    obtain rfl : v_4 = 0 := e_4.trans (by decide)
    clear e_4
    refine rm_istore_n (ls' := [(0, .ref (ad k 0 0)), (1, .int 0), (2, .ref (ad k 3 0)), (3, .int 3), (4, .int 0), (5, .ref (ad k 4 0))]) hc dX6_lockedDoors_44 rfl (by decide) rfl ?_
    refine rm_iinc (v := 1) (ls' := [(0, .ref (ad k 0 0)), (1, .int 0), (2, .ref (ad k 3 0)), (3, .int 3), (4, .int 1), (5, .ref (ad k 4 0))]) hc dX6_lockedDoors_45 rfl (by decide) (by decide) rfl ?_
    refine rm_goto (tgt := 13) hc dX6_lockedDoors_48 (by decide) ?_
    refine rm_iload hc dX6_lockedDoors_13 rfl ?_
    refine rm_iload_n hc dX6_lockedDoors_15 rfl rfl ?_
    refine rm_icmp_ge (tgt := 51) hc dX6_lockedDoors_16 (by decide) (fun h => absurd h (by decide)) (fun _ => ?_)
    refine rm_aload_n hc dX6_lockedDoors_19 rfl rfl ?_
    refine rm_iload hc dX6_lockedDoors_20 rfl ?_
    refine rm_aald (t0 := 2) (i := 1) (v := .ref (ad k 4 1)) hc dX6_lockedDoors_22 (dm_3 (by omega)) rfl rfl (by omega) (by decide) rfl rfl ?_
    refine rm_astore (ls' := [(0, .ref (ad k 0 0)), (1, .int 0), (2, .ref (ad k 3 0)), (3, .int 3), (4, .int 1), (5, .ref (ad k 4 1))]) hc dX6_lockedDoors_23 (by decide) rfl ?_
    refine rm_iload_n hc dX6_lockedDoors_25 rfl rfl ?_
    refine rm_aload hc dX6_lockedDoors_26 rfl ?_
    refine rm_aload_n hc dX6_lockedDoors_28 rfl rfl ?_
    refine rm_get hc dX6_lockedDoors_29 fl_X6_37 (dm_0 (by omega)) rfl rfl ?_
    refine rm_calliV (As := [.ref (ad k 8 0)]) (rest := [.int 0]) hc dX6_lockedDoors_32 (c_X1_isLocked hI x (k := k) (d := 1) (k2 := k) (by omega) (by omega) (by omega) (by omega)) mv_X6_111 (dm_4 (by omega) (by omega) (by omega)) rfl rfl (hn := rfl) (hst := rfl) (hw := Nat.le_of_ble_eq_true rfl) (hR := ⟨⟨rfl, rfl⟩, Nat.le_of_ble_eq_true rfl, Nat.le_of_ble_eq_true rfl⟩) (hnc := ⟨Nat.zero_le _, Nat.zero_le _⟩) (fun r_6 y_6 h_6 => ?_)
    obtain ⟨e_6, ey_6⟩ := h_6
    obtain rfl := ey_6.symm
    refine rm_if_eq (tgt := 42) hc dX6_lockedDoors_35 (by decide) (fun c_7 => ?_) (fun c_7 => ?_)
    · --
      refine rm_iconst (v := 0) hc dX6_lockedDoors_42 (by decide) ?_
      refine rm_iadd hc dX6_lockedDoors_43 (fun v_8 e_8 => ?_)
      obtain rfl : v_8 = 0 := e_8.trans (by decide)
      clear e_8
      refine rm_istore_n (ls' := [(0, .ref (ad k 0 0)), (1, .int 0), (2, .ref (ad k 3 0)), (3, .int 3), (4, .int 1), (5, .ref (ad k 4 1))]) hc dX6_lockedDoors_44 rfl (by decide) rfl ?_
      refine rm_iinc (v := 2) (ls' := [(0, .ref (ad k 0 0)), (1, .int 0), (2, .ref (ad k 3 0)), (3, .int 3), (4, .int 2), (5, .ref (ad k 4 1))]) hc dX6_lockedDoors_45 rfl (by decide) (by decide) rfl ?_
      refine rm_goto (tgt := 13) hc dX6_lockedDoors_48 (by decide) ?_
      refine rm_iload hc dX6_lockedDoors_13 rfl ?_
      refine rm_iload_n hc dX6_lockedDoors_15 rfl rfl ?_
      refine rm_icmp_ge (tgt := 51) hc dX6_lockedDoors_16 (by decide) (fun h => absurd h (by decide)) (fun _ => ?_)
      refine rm_aload_n hc dX6_lockedDoors_19 rfl rfl ?_
      refine rm_iload hc dX6_lockedDoors_20 rfl ?_
      refine rm_aald (t0 := 2) (i := 2) (v := .ref (ad k 4 2)) hc dX6_lockedDoors_22 (dm_3 (by omega)) rfl rfl (by omega) (by decide) rfl rfl ?_
      refine rm_astore (ls' := [(0, .ref (ad k 0 0)), (1, .int 0), (2, .ref (ad k 3 0)), (3, .int 3), (4, .int 2), (5, .ref (ad k 4 2))]) hc dX6_lockedDoors_23 (by decide) rfl ?_
      refine rm_iload_n hc dX6_lockedDoors_25 rfl rfl ?_
      refine rm_aload hc dX6_lockedDoors_26 rfl ?_
      refine rm_aload_n hc dX6_lockedDoors_28 rfl rfl ?_
      refine rm_get hc dX6_lockedDoors_29 fl_X6_37 (dm_0 (by omega)) rfl rfl ?_
      refine rm_calliV (As := [.ref (ad k 8 0)]) (rest := [.int 0]) hc dX6_lockedDoors_32 (c_X1_isLocked hI x (k := k) (d := 2) (k2 := k) (by omega) (by omega) (by omega) (by omega)) mv_X6_111 (dm_4 (by omega) (by omega) (by omega)) rfl rfl (hn := rfl) (hst := rfl) (hw := Nat.le_of_ble_eq_true rfl) (hR := ⟨⟨rfl, rfl⟩, Nat.le_of_ble_eq_true rfl, Nat.le_of_ble_eq_true rfl⟩) (hnc := ⟨Nat.zero_le _, Nat.zero_le _⟩) (fun r_10 y_10 h_10 => ?_)
      obtain ⟨e_10, ey_10⟩ := h_10
      obtain rfl := ey_10.symm
      refine rm_if_eq (tgt := 42) hc dX6_lockedDoors_35 (by decide) (fun c_11 => ?_) (fun c_11 => ?_)
      · --
        refine rm_iconst (v := 0) hc dX6_lockedDoors_42 (by decide) ?_
        refine rm_iadd hc dX6_lockedDoors_43 (fun v_12 e_12 => ?_)
        obtain rfl : v_12 = 0 := e_12.trans (by decide)
        clear e_12
        refine rm_istore_n (ls' := [(0, .ref (ad k 0 0)), (1, .int 0), (2, .ref (ad k 3 0)), (3, .int 3), (4, .int 2), (5, .ref (ad k 4 2))]) hc dX6_lockedDoors_44 rfl (by decide) rfl ?_
        refine rm_iinc (v := 3) (ls' := [(0, .ref (ad k 0 0)), (1, .int 0), (2, .ref (ad k 3 0)), (3, .int 3), (4, .int 3), (5, .ref (ad k 4 2))]) hc dX6_lockedDoors_45 rfl (by decide) (by decide) rfl ?_
        refine rm_goto (tgt := 13) hc dX6_lockedDoors_48 (by decide) ?_
        refine rm_iload hc dX6_lockedDoors_13 rfl ?_
        refine rm_iload_n hc dX6_lockedDoors_15 rfl rfl ?_
        refine rm_icmp_ge (tgt := 51) hc dX6_lockedDoors_16 (by decide) (fun _ => ?_) (fun h => absurd (by decide) h)
        refine rm_iload_n hc dX6_lockedDoors_51 rfl rfl ?_
        exact rm_iret hc dX6_lockedDoors_52 ⟨sum3_of (b2_0 (e_2.symm.trans c_3)) (b2_0 (e_6.symm.trans c_7)) (b2_0 (e_10.symm.trans c_11)) (by decide), rfl⟩
      · --
        refine rm_iconst (v := 1) hc dX6_lockedDoors_38 (by decide) ?_
        refine rm_goto (tgt := 43) hc dX6_lockedDoors_39 (by decide) ?_
        refine rm_iadd hc dX6_lockedDoors_43 (fun v_14 e_14 => ?_)
        obtain rfl : v_14 = 1 := e_14.trans (by decide)
        clear e_14
        refine rm_istore_n (ls' := [(0, .ref (ad k 0 0)), (1, .int 1), (2, .ref (ad k 3 0)), (3, .int 3), (4, .int 2), (5, .ref (ad k 4 2))]) hc dX6_lockedDoors_44 rfl (by decide) rfl ?_
        refine rm_iinc (v := 3) (ls' := [(0, .ref (ad k 0 0)), (1, .int 1), (2, .ref (ad k 3 0)), (3, .int 3), (4, .int 3), (5, .ref (ad k 4 2))]) hc dX6_lockedDoors_45 rfl (by decide) (by decide) rfl ?_
        refine rm_goto (tgt := 13) hc dX6_lockedDoors_48 (by decide) ?_
        refine rm_iload hc dX6_lockedDoors_13 rfl ?_
        refine rm_iload_n hc dX6_lockedDoors_15 rfl rfl ?_
        refine rm_icmp_ge (tgt := 51) hc dX6_lockedDoors_16 (by decide) (fun _ => ?_) (fun h => absurd (by decide) h)
        refine rm_iload_n hc dX6_lockedDoors_51 rfl rfl ?_
        exact rm_iret hc dX6_lockedDoors_52 ⟨sum3_of (b2_0 (e_2.symm.trans c_3)) (b2_0 (e_6.symm.trans c_7)) (b2_1 (fun h => c_11 (e_10.trans h))) (by decide), rfl⟩
    · --
      refine rm_iconst (v := 1) hc dX6_lockedDoors_38 (by decide) ?_
      refine rm_goto (tgt := 43) hc dX6_lockedDoors_39 (by decide) ?_
      refine rm_iadd hc dX6_lockedDoors_43 (fun v_16 e_16 => ?_)
      obtain rfl : v_16 = 1 := e_16.trans (by decide)
      clear e_16
      refine rm_istore_n (ls' := [(0, .ref (ad k 0 0)), (1, .int 1), (2, .ref (ad k 3 0)), (3, .int 3), (4, .int 1), (5, .ref (ad k 4 1))]) hc dX6_lockedDoors_44 rfl (by decide) rfl ?_
      refine rm_iinc (v := 2) (ls' := [(0, .ref (ad k 0 0)), (1, .int 1), (2, .ref (ad k 3 0)), (3, .int 3), (4, .int 2), (5, .ref (ad k 4 1))]) hc dX6_lockedDoors_45 rfl (by decide) (by decide) rfl ?_
      refine rm_goto (tgt := 13) hc dX6_lockedDoors_48 (by decide) ?_
      refine rm_iload hc dX6_lockedDoors_13 rfl ?_
      refine rm_iload_n hc dX6_lockedDoors_15 rfl rfl ?_
      refine rm_icmp_ge (tgt := 51) hc dX6_lockedDoors_16 (by decide) (fun h => absurd h (by decide)) (fun _ => ?_)
      refine rm_aload_n hc dX6_lockedDoors_19 rfl rfl ?_
      refine rm_iload hc dX6_lockedDoors_20 rfl ?_
      refine rm_aald (t0 := 2) (i := 2) (v := .ref (ad k 4 2)) hc dX6_lockedDoors_22 (dm_3 (by omega)) rfl rfl (by omega) (by decide) rfl rfl ?_
      refine rm_astore (ls' := [(0, .ref (ad k 0 0)), (1, .int 1), (2, .ref (ad k 3 0)), (3, .int 3), (4, .int 2), (5, .ref (ad k 4 2))]) hc dX6_lockedDoors_23 (by decide) rfl ?_
      refine rm_iload_n hc dX6_lockedDoors_25 rfl rfl ?_
      refine rm_aload hc dX6_lockedDoors_26 rfl ?_
      refine rm_aload_n hc dX6_lockedDoors_28 rfl rfl ?_
      refine rm_get hc dX6_lockedDoors_29 fl_X6_37 (dm_0 (by omega)) rfl rfl ?_
      refine rm_calliV (As := [.ref (ad k 8 0)]) (rest := [.int 1]) hc dX6_lockedDoors_32 (c_X1_isLocked hI x (k := k) (d := 2) (k2 := k) (by omega) (by omega) (by omega) (by omega)) mv_X6_111 (dm_4 (by omega) (by omega) (by omega)) rfl rfl (hn := rfl) (hst := rfl) (hw := Nat.le_of_ble_eq_true rfl) (hR := ⟨⟨rfl, rfl⟩, Nat.le_of_ble_eq_true rfl, Nat.le_of_ble_eq_true rfl⟩) (hnc := ⟨Nat.zero_le _, Nat.zero_le _⟩) (fun r_18 y_18 h_18 => ?_)
      obtain ⟨e_18, ey_18⟩ := h_18
      obtain rfl := ey_18.symm
      refine rm_if_eq (tgt := 42) hc dX6_lockedDoors_35 (by decide) (fun c_19 => ?_) (fun c_19 => ?_)
      · --
        refine rm_iconst (v := 0) hc dX6_lockedDoors_42 (by decide) ?_
        refine rm_iadd hc dX6_lockedDoors_43 (fun v_20 e_20 => ?_)
        obtain rfl : v_20 = 1 := e_20.trans (by decide)
        clear e_20
        refine rm_istore_n (ls' := [(0, .ref (ad k 0 0)), (1, .int 1), (2, .ref (ad k 3 0)), (3, .int 3), (4, .int 2), (5, .ref (ad k 4 2))]) hc dX6_lockedDoors_44 rfl (by decide) rfl ?_
        refine rm_iinc (v := 3) (ls' := [(0, .ref (ad k 0 0)), (1, .int 1), (2, .ref (ad k 3 0)), (3, .int 3), (4, .int 3), (5, .ref (ad k 4 2))]) hc dX6_lockedDoors_45 rfl (by decide) (by decide) rfl ?_
        refine rm_goto (tgt := 13) hc dX6_lockedDoors_48 (by decide) ?_
        refine rm_iload hc dX6_lockedDoors_13 rfl ?_
        refine rm_iload_n hc dX6_lockedDoors_15 rfl rfl ?_
        refine rm_icmp_ge (tgt := 51) hc dX6_lockedDoors_16 (by decide) (fun _ => ?_) (fun h => absurd (by decide) h)
        refine rm_iload_n hc dX6_lockedDoors_51 rfl rfl ?_
        exact rm_iret hc dX6_lockedDoors_52 ⟨sum3_of (b2_0 (e_2.symm.trans c_3)) (b2_1 (fun h => c_7 (e_6.trans h))) (b2_0 (e_18.symm.trans c_19)) (by decide), rfl⟩
      · --
        refine rm_iconst (v := 1) hc dX6_lockedDoors_38 (by decide) ?_
        refine rm_goto (tgt := 43) hc dX6_lockedDoors_39 (by decide) ?_
        refine rm_iadd hc dX6_lockedDoors_43 (fun v_22 e_22 => ?_)
        obtain rfl : v_22 = 2 := e_22.trans (by decide)
        clear e_22
        refine rm_istore_n (ls' := [(0, .ref (ad k 0 0)), (1, .int 2), (2, .ref (ad k 3 0)), (3, .int 3), (4, .int 2), (5, .ref (ad k 4 2))]) hc dX6_lockedDoors_44 rfl (by decide) rfl ?_
        refine rm_iinc (v := 3) (ls' := [(0, .ref (ad k 0 0)), (1, .int 2), (2, .ref (ad k 3 0)), (3, .int 3), (4, .int 3), (5, .ref (ad k 4 2))]) hc dX6_lockedDoors_45 rfl (by decide) (by decide) rfl ?_
        refine rm_goto (tgt := 13) hc dX6_lockedDoors_48 (by decide) ?_
        refine rm_iload hc dX6_lockedDoors_13 rfl ?_
        refine rm_iload_n hc dX6_lockedDoors_15 rfl rfl ?_
        refine rm_icmp_ge (tgt := 51) hc dX6_lockedDoors_16 (by decide) (fun _ => ?_) (fun h => absurd (by decide) h)
        refine rm_iload_n hc dX6_lockedDoors_51 rfl rfl ?_
        exact rm_iret hc dX6_lockedDoors_52 ⟨sum3_of (b2_0 (e_2.symm.trans c_3)) (b2_1 (fun h => c_7 (e_6.trans h))) (b2_1 (fun h => c_19 (e_18.trans h))) (by decide), rfl⟩
  · --
    refine rm_iconst (v := 1) hc dX6_lockedDoors_38 (by decide) ?_
    refine rm_goto (tgt := 43) hc dX6_lockedDoors_39 (by decide) ?_
    refine rm_iadd hc dX6_lockedDoors_43 (fun v_24 e_24 => ?_)
    obtain rfl : v_24 = 1 := e_24.trans (by decide)
    clear e_24
    refine rm_istore_n (ls' := [(0, .ref (ad k 0 0)), (1, .int 1), (2, .ref (ad k 3 0)), (3, .int 3), (4, .int 0), (5, .ref (ad k 4 0))]) hc dX6_lockedDoors_44 rfl (by decide) rfl ?_
    refine rm_iinc (v := 1) (ls' := [(0, .ref (ad k 0 0)), (1, .int 1), (2, .ref (ad k 3 0)), (3, .int 3), (4, .int 1), (5, .ref (ad k 4 0))]) hc dX6_lockedDoors_45 rfl (by decide) (by decide) rfl ?_
    refine rm_goto (tgt := 13) hc dX6_lockedDoors_48 (by decide) ?_
    refine rm_iload hc dX6_lockedDoors_13 rfl ?_
    refine rm_iload_n hc dX6_lockedDoors_15 rfl rfl ?_
    refine rm_icmp_ge (tgt := 51) hc dX6_lockedDoors_16 (by decide) (fun h => absurd h (by decide)) (fun _ => ?_)
    refine rm_aload_n hc dX6_lockedDoors_19 rfl rfl ?_
    refine rm_iload hc dX6_lockedDoors_20 rfl ?_
    refine rm_aald (t0 := 2) (i := 1) (v := .ref (ad k 4 1)) hc dX6_lockedDoors_22 (dm_3 (by omega)) rfl rfl (by omega) (by decide) rfl rfl ?_
    refine rm_astore (ls' := [(0, .ref (ad k 0 0)), (1, .int 1), (2, .ref (ad k 3 0)), (3, .int 3), (4, .int 1), (5, .ref (ad k 4 1))]) hc dX6_lockedDoors_23 (by decide) rfl ?_
    refine rm_iload_n hc dX6_lockedDoors_25 rfl rfl ?_
    refine rm_aload hc dX6_lockedDoors_26 rfl ?_
    refine rm_aload_n hc dX6_lockedDoors_28 rfl rfl ?_
    refine rm_get hc dX6_lockedDoors_29 fl_X6_37 (dm_0 (by omega)) rfl rfl ?_
    refine rm_calliV (As := [.ref (ad k 8 0)]) (rest := [.int 1]) hc dX6_lockedDoors_32 (c_X1_isLocked hI x (k := k) (d := 1) (k2 := k) (by omega) (by omega) (by omega) (by omega)) mv_X6_111 (dm_4 (by omega) (by omega) (by omega)) rfl rfl (hn := rfl) (hst := rfl) (hw := Nat.le_of_ble_eq_true rfl) (hR := ⟨⟨rfl, rfl⟩, Nat.le_of_ble_eq_true rfl, Nat.le_of_ble_eq_true rfl⟩) (hnc := ⟨Nat.zero_le _, Nat.zero_le _⟩) (fun r_26 y_26 h_26 => ?_)
    obtain ⟨e_26, ey_26⟩ := h_26
    obtain rfl := ey_26.symm
    refine rm_if_eq (tgt := 42) hc dX6_lockedDoors_35 (by decide) (fun c_27 => ?_) (fun c_27 => ?_)
    · --
      refine rm_iconst (v := 0) hc dX6_lockedDoors_42 (by decide) ?_
      refine rm_iadd hc dX6_lockedDoors_43 (fun v_28 e_28 => ?_)
      obtain rfl : v_28 = 1 := e_28.trans (by decide)
      clear e_28
      refine rm_istore_n (ls' := [(0, .ref (ad k 0 0)), (1, .int 1), (2, .ref (ad k 3 0)), (3, .int 3), (4, .int 1), (5, .ref (ad k 4 1))]) hc dX6_lockedDoors_44 rfl (by decide) rfl ?_
      refine rm_iinc (v := 2) (ls' := [(0, .ref (ad k 0 0)), (1, .int 1), (2, .ref (ad k 3 0)), (3, .int 3), (4, .int 2), (5, .ref (ad k 4 1))]) hc dX6_lockedDoors_45 rfl (by decide) (by decide) rfl ?_
      refine rm_goto (tgt := 13) hc dX6_lockedDoors_48 (by decide) ?_
      refine rm_iload hc dX6_lockedDoors_13 rfl ?_
      refine rm_iload_n hc dX6_lockedDoors_15 rfl rfl ?_
      refine rm_icmp_ge (tgt := 51) hc dX6_lockedDoors_16 (by decide) (fun h => absurd h (by decide)) (fun _ => ?_)
      refine rm_aload_n hc dX6_lockedDoors_19 rfl rfl ?_
      refine rm_iload hc dX6_lockedDoors_20 rfl ?_
      refine rm_aald (t0 := 2) (i := 2) (v := .ref (ad k 4 2)) hc dX6_lockedDoors_22 (dm_3 (by omega)) rfl rfl (by omega) (by decide) rfl rfl ?_
      refine rm_astore (ls' := [(0, .ref (ad k 0 0)), (1, .int 1), (2, .ref (ad k 3 0)), (3, .int 3), (4, .int 2), (5, .ref (ad k 4 2))]) hc dX6_lockedDoors_23 (by decide) rfl ?_
      refine rm_iload_n hc dX6_lockedDoors_25 rfl rfl ?_
      refine rm_aload hc dX6_lockedDoors_26 rfl ?_
      refine rm_aload_n hc dX6_lockedDoors_28 rfl rfl ?_
      refine rm_get hc dX6_lockedDoors_29 fl_X6_37 (dm_0 (by omega)) rfl rfl ?_
      refine rm_calliV (As := [.ref (ad k 8 0)]) (rest := [.int 1]) hc dX6_lockedDoors_32 (c_X1_isLocked hI x (k := k) (d := 2) (k2 := k) (by omega) (by omega) (by omega) (by omega)) mv_X6_111 (dm_4 (by omega) (by omega) (by omega)) rfl rfl (hn := rfl) (hst := rfl) (hw := Nat.le_of_ble_eq_true rfl) (hR := ⟨⟨rfl, rfl⟩, Nat.le_of_ble_eq_true rfl, Nat.le_of_ble_eq_true rfl⟩) (hnc := ⟨Nat.zero_le _, Nat.zero_le _⟩) (fun r_30 y_30 h_30 => ?_)
      obtain ⟨e_30, ey_30⟩ := h_30
      obtain rfl := ey_30.symm
      refine rm_if_eq (tgt := 42) hc dX6_lockedDoors_35 (by decide) (fun c_31 => ?_) (fun c_31 => ?_)
      · --
        refine rm_iconst (v := 0) hc dX6_lockedDoors_42 (by decide) ?_
        refine rm_iadd hc dX6_lockedDoors_43 (fun v_32 e_32 => ?_)
        obtain rfl : v_32 = 1 := e_32.trans (by decide)
        clear e_32
        refine rm_istore_n (ls' := [(0, .ref (ad k 0 0)), (1, .int 1), (2, .ref (ad k 3 0)), (3, .int 3), (4, .int 2), (5, .ref (ad k 4 2))]) hc dX6_lockedDoors_44 rfl (by decide) rfl ?_
        refine rm_iinc (v := 3) (ls' := [(0, .ref (ad k 0 0)), (1, .int 1), (2, .ref (ad k 3 0)), (3, .int 3), (4, .int 3), (5, .ref (ad k 4 2))]) hc dX6_lockedDoors_45 rfl (by decide) (by decide) rfl ?_
        refine rm_goto (tgt := 13) hc dX6_lockedDoors_48 (by decide) ?_
        refine rm_iload hc dX6_lockedDoors_13 rfl ?_
        refine rm_iload_n hc dX6_lockedDoors_15 rfl rfl ?_
        refine rm_icmp_ge (tgt := 51) hc dX6_lockedDoors_16 (by decide) (fun _ => ?_) (fun h => absurd (by decide) h)
        refine rm_iload_n hc dX6_lockedDoors_51 rfl rfl ?_
        exact rm_iret hc dX6_lockedDoors_52 ⟨sum3_of (b2_1 (fun h => c_3 (e_2.trans h))) (b2_0 (e_26.symm.trans c_27)) (b2_0 (e_30.symm.trans c_31)) (by decide), rfl⟩
      · --
        refine rm_iconst (v := 1) hc dX6_lockedDoors_38 (by decide) ?_
        refine rm_goto (tgt := 43) hc dX6_lockedDoors_39 (by decide) ?_
        refine rm_iadd hc dX6_lockedDoors_43 (fun v_34 e_34 => ?_)
        obtain rfl : v_34 = 2 := e_34.trans (by decide)
        clear e_34
        refine rm_istore_n (ls' := [(0, .ref (ad k 0 0)), (1, .int 2), (2, .ref (ad k 3 0)), (3, .int 3), (4, .int 2), (5, .ref (ad k 4 2))]) hc dX6_lockedDoors_44 rfl (by decide) rfl ?_
        refine rm_iinc (v := 3) (ls' := [(0, .ref (ad k 0 0)), (1, .int 2), (2, .ref (ad k 3 0)), (3, .int 3), (4, .int 3), (5, .ref (ad k 4 2))]) hc dX6_lockedDoors_45 rfl (by decide) (by decide) rfl ?_
        refine rm_goto (tgt := 13) hc dX6_lockedDoors_48 (by decide) ?_
        refine rm_iload hc dX6_lockedDoors_13 rfl ?_
        refine rm_iload_n hc dX6_lockedDoors_15 rfl rfl ?_
        refine rm_icmp_ge (tgt := 51) hc dX6_lockedDoors_16 (by decide) (fun _ => ?_) (fun h => absurd (by decide) h)
        refine rm_iload_n hc dX6_lockedDoors_51 rfl rfl ?_
        exact rm_iret hc dX6_lockedDoors_52 ⟨sum3_of (b2_1 (fun h => c_3 (e_2.trans h))) (b2_0 (e_26.symm.trans c_27)) (b2_1 (fun h => c_31 (e_30.trans h))) (by decide), rfl⟩
    · --
      refine rm_iconst (v := 1) hc dX6_lockedDoors_38 (by decide) ?_
      refine rm_goto (tgt := 43) hc dX6_lockedDoors_39 (by decide) ?_
      refine rm_iadd hc dX6_lockedDoors_43 (fun v_36 e_36 => ?_)
      obtain rfl : v_36 = 2 := e_36.trans (by decide)
      clear e_36
      refine rm_istore_n (ls' := [(0, .ref (ad k 0 0)), (1, .int 2), (2, .ref (ad k 3 0)), (3, .int 3), (4, .int 1), (5, .ref (ad k 4 1))]) hc dX6_lockedDoors_44 rfl (by decide) rfl ?_
      refine rm_iinc (v := 2) (ls' := [(0, .ref (ad k 0 0)), (1, .int 2), (2, .ref (ad k 3 0)), (3, .int 3), (4, .int 2), (5, .ref (ad k 4 1))]) hc dX6_lockedDoors_45 rfl (by decide) (by decide) rfl ?_
      refine rm_goto (tgt := 13) hc dX6_lockedDoors_48 (by decide) ?_
      refine rm_iload hc dX6_lockedDoors_13 rfl ?_
      refine rm_iload_n hc dX6_lockedDoors_15 rfl rfl ?_
      refine rm_icmp_ge (tgt := 51) hc dX6_lockedDoors_16 (by decide) (fun h => absurd h (by decide)) (fun _ => ?_)
      refine rm_aload_n hc dX6_lockedDoors_19 rfl rfl ?_
      refine rm_iload hc dX6_lockedDoors_20 rfl ?_
      refine rm_aald (t0 := 2) (i := 2) (v := .ref (ad k 4 2)) hc dX6_lockedDoors_22 (dm_3 (by omega)) rfl rfl (by omega) (by decide) rfl rfl ?_
      refine rm_astore (ls' := [(0, .ref (ad k 0 0)), (1, .int 2), (2, .ref (ad k 3 0)), (3, .int 3), (4, .int 2), (5, .ref (ad k 4 2))]) hc dX6_lockedDoors_23 (by decide) rfl ?_
      refine rm_iload_n hc dX6_lockedDoors_25 rfl rfl ?_
      refine rm_aload hc dX6_lockedDoors_26 rfl ?_
      refine rm_aload_n hc dX6_lockedDoors_28 rfl rfl ?_
      refine rm_get hc dX6_lockedDoors_29 fl_X6_37 (dm_0 (by omega)) rfl rfl ?_
      refine rm_calliV (As := [.ref (ad k 8 0)]) (rest := [.int 2]) hc dX6_lockedDoors_32 (c_X1_isLocked hI x (k := k) (d := 2) (k2 := k) (by omega) (by omega) (by omega) (by omega)) mv_X6_111 (dm_4 (by omega) (by omega) (by omega)) rfl rfl (hn := rfl) (hst := rfl) (hw := Nat.le_of_ble_eq_true rfl) (hR := ⟨⟨rfl, rfl⟩, Nat.le_of_ble_eq_true rfl, Nat.le_of_ble_eq_true rfl⟩) (hnc := ⟨Nat.zero_le _, Nat.zero_le _⟩) (fun r_38 y_38 h_38 => ?_)
      obtain ⟨e_38, ey_38⟩ := h_38
      obtain rfl := ey_38.symm
      refine rm_if_eq (tgt := 42) hc dX6_lockedDoors_35 (by decide) (fun c_39 => ?_) (fun c_39 => ?_)
      · --
        refine rm_iconst (v := 0) hc dX6_lockedDoors_42 (by decide) ?_
        refine rm_iadd hc dX6_lockedDoors_43 (fun v_40 e_40 => ?_)
        obtain rfl : v_40 = 2 := e_40.trans (by decide)
        clear e_40
        refine rm_istore_n (ls' := [(0, .ref (ad k 0 0)), (1, .int 2), (2, .ref (ad k 3 0)), (3, .int 3), (4, .int 2), (5, .ref (ad k 4 2))]) hc dX6_lockedDoors_44 rfl (by decide) rfl ?_
        refine rm_iinc (v := 3) (ls' := [(0, .ref (ad k 0 0)), (1, .int 2), (2, .ref (ad k 3 0)), (3, .int 3), (4, .int 3), (5, .ref (ad k 4 2))]) hc dX6_lockedDoors_45 rfl (by decide) (by decide) rfl ?_
        refine rm_goto (tgt := 13) hc dX6_lockedDoors_48 (by decide) ?_
        refine rm_iload hc dX6_lockedDoors_13 rfl ?_
        refine rm_iload_n hc dX6_lockedDoors_15 rfl rfl ?_
        refine rm_icmp_ge (tgt := 51) hc dX6_lockedDoors_16 (by decide) (fun _ => ?_) (fun h => absurd (by decide) h)
        refine rm_iload_n hc dX6_lockedDoors_51 rfl rfl ?_
        exact rm_iret hc dX6_lockedDoors_52 ⟨sum3_of (b2_1 (fun h => c_3 (e_2.trans h))) (b2_1 (fun h => c_27 (e_26.trans h))) (b2_0 (e_38.symm.trans c_39)) (by decide), rfl⟩
      · --
        refine rm_iconst (v := 1) hc dX6_lockedDoors_38 (by decide) ?_
        refine rm_goto (tgt := 43) hc dX6_lockedDoors_39 (by decide) ?_
        refine rm_iadd hc dX6_lockedDoors_43 (fun v_42 e_42 => ?_)
        obtain rfl : v_42 = 3 := e_42.trans (by decide)
        clear e_42
        refine rm_istore_n (ls' := [(0, .ref (ad k 0 0)), (1, .int 3), (2, .ref (ad k 3 0)), (3, .int 3), (4, .int 2), (5, .ref (ad k 4 2))]) hc dX6_lockedDoors_44 rfl (by decide) rfl ?_
        refine rm_iinc (v := 3) (ls' := [(0, .ref (ad k 0 0)), (1, .int 3), (2, .ref (ad k 3 0)), (3, .int 3), (4, .int 3), (5, .ref (ad k 4 2))]) hc dX6_lockedDoors_45 rfl (by decide) (by decide) rfl ?_
        refine rm_goto (tgt := 13) hc dX6_lockedDoors_48 (by decide) ?_
        refine rm_iload hc dX6_lockedDoors_13 rfl ?_
        refine rm_iload_n hc dX6_lockedDoors_15 rfl rfl ?_
        refine rm_icmp_ge (tgt := 51) hc dX6_lockedDoors_16 (by decide) (fun _ => ?_) (fun h => absurd (by decide) h)
        refine rm_iload_n hc dX6_lockedDoors_51 rfl rfl ?_
        exact rm_iret hc dX6_lockedDoors_52 ⟨sum3_of (b2_1 (fun h => c_3 (e_2.trans h))) (b2_1 (fun h => c_27 (e_26.trans h))) (b2_1 (fun h => c_39 (e_38.trans h))) (by decide), rfl⟩

theorem yk_J9_floorMod_7cf53 : Cond.initialized yJ9_floorMod_7cf53.cls ∈ TB ∧ Cond.code yJ9_floorMod_7cf53 cJ9_floorMod_7cf53 3 (some .int) ∈ TB ∧ (yJ9_floorMod_7cf53.cls ≠ "java/lang/invoke/MethodHandle" ∧ yJ9_floorMod_7cf53.cls ≠ "java/lang/invoke/VarHandle" ∧ (parseMethodDescriptor yJ9_floorMod_7cf53.desc).map (fun d => d.parameters.length) = some 2) := ⟨tbm (i := 22) (by decide +kernel) (by decide +kernel), tbm (i := 491) (by decide +kernel) (by decide +kernel), by decide +kernel⟩
theorem ms_X3_22 : MS RX3 22 yJ9_floorMod_7cf53 cJ9_floorMod_7cf53 3 (some .int) 2 := ⟨⟨tbm (i := 489) (by decide +kernel) (by decide +kernel), yk_J9_floorMod_7cf53⟩, tbm (i := 490) (by decide +kernel) (by decide +kernel)⟩
theorem dJ9_floorMod_7cf53_0 : decode cJ9_floorMod_7cf53 0 = .ok (.iload_n 0, 1) := by decide +kernel
theorem dJ9_floorMod_7cf53_1 : decode cJ9_floorMod_7cf53 1 = .ok (.iload_n 1, 1) := by decide +kernel
theorem dJ9_floorMod_7cf53_2 : decode cJ9_floorMod_7cf53 2 = .ok (.irem, 1) := by decide +kernel
theorem dJ9_floorMod_7cf53_3 : decode cJ9_floorMod_7cf53 3 = .ok (.istore_n 2, 1) := by decide +kernel
theorem dJ9_floorMod_7cf53_4 : decode cJ9_floorMod_7cf53 4 = .ok (.iload_n 0, 1) := by decide +kernel
theorem dJ9_floorMod_7cf53_5 : decode cJ9_floorMod_7cf53 5 = .ok (.iload_n 1, 1) := by decide +kernel
theorem dJ9_floorMod_7cf53_6 : decode cJ9_floorMod_7cf53 6 = .ok (.ixor, 1) := by decide +kernel
theorem dJ9_floorMod_7cf53_7 : decode cJ9_floorMod_7cf53 7 = .ok (.ifCond .ge 11, 3) := by decide +kernel
theorem dJ9_floorMod_7cf53_10 : decode cJ9_floorMod_7cf53 10 = .ok (.iload_n 2, 1) := by decide +kernel
theorem dJ9_floorMod_7cf53_11 : decode cJ9_floorMod_7cf53 11 = .ok (.ifCond .eq 7, 3) := by decide +kernel
theorem dJ9_floorMod_7cf53_14 : decode cJ9_floorMod_7cf53 14 = .ok (.iload_n 2, 1) := by decide +kernel
theorem dJ9_floorMod_7cf53_15 : decode cJ9_floorMod_7cf53 15 = .ok (.iload_n 1, 1) := by decide +kernel
theorem dJ9_floorMod_7cf53_16 : decode cJ9_floorMod_7cf53 16 = .ok (.iadd, 1) := by decide +kernel
theorem dJ9_floorMod_7cf53_17 : decode cJ9_floorMod_7cf53 17 = .ok (.ireturn, 1) := by decide +kernel
theorem dJ9_floorMod_7cf53_18 : decode cJ9_floorMod_7cf53 18 = .ok (.iload_n 2, 1) := by decide +kernel
theorem dJ9_floorMod_7cf53_19 : decode cJ9_floorMod_7cf53 19 = .ok (.ireturn, 1) := by decide +kernel

abbrev rm_J9_floorMod_7cf53 : Room := { frames := 0, cells := 0, slots := 0, locals := 0 }

set_option maxHeartbeats 4000000 in
set_option maxRecDepth 100000 in
theorem c_fmod {l : Launch} {D : va_G} {cy : Nat → ClassId} {ad : Ads} (hI : IJ ad) (x : Mem) {n : Nat} (hn : n < 2 ^ 20) : Cti l yJ9_floorMod_7cf53 cJ9_floorMod_7cf53 3 (some .int) rm_J9_floorMod_7cf53 D cy ad [.int (nI (n)), .int 6] x (fun r y => r = nI (n % 6) ∧ y = x) := by
  refine rm_entryF (Qc := Qi D cy ad (fun r y => r = nI (n % 6) ∧ y = x)) hI (by decide +kernel) (Nat.le_of_ble_eq_true rfl) ?_
  intro p e s m args below meth c hc
  show RM _ _ _ _ _ _ _ _ _ _ _ _ _ _ _ _ _ [(0, .int (nI (n))), (1, .int 6)] []
  refine rm_iload_n hc dJ9_floorMod_7cf53_0 rfl rfl ?_
  refine rm_iload_n hc dJ9_floorMod_7cf53_1 rfl rfl ?_
  refine rm_irem hc dJ9_floorMod_7cf53_2 (by decide) (fun v_1 e_1 => ?_)
  obtain rfl : v_1 = nI (n % 6) := e_1.trans (irem6 hn)
  refine rm_istore_n (ls' := [(0, .int (nI (n))), (1, .int 6), (2, .int (nI (n % 6)))]) hc dJ9_floorMod_7cf53_3 rfl (by decide) rfl ?_
  refine rm_iload_n hc dJ9_floorMod_7cf53_4 rfl rfl ?_
  refine rm_iload_n hc dJ9_floorMod_7cf53_5 rfl rfl ?_
  refine rm_ixor hc dJ9_floorMod_7cf53_6 (fun v_2 e_2 => ?_)
  refine rm_if_ge (tgt := 18) hc dJ9_floorMod_7cf53_7 (by decide) (fun _ => ?_) (fun h => absurd (by rw [e_2]; exact xor6 hn) h)
  refine rm_iload_n hc dJ9_floorMod_7cf53_18 rfl rfl ?_
  exact rm_iret hc dJ9_floorMod_7cf53_19 ⟨rfl, rfl⟩

abbrev rm_X3_keep : Room := { frames := 3, cells := 0, slots := 0, locals := 83 }
set_option maxHeartbeats 4000000 in
set_option maxRecDepth 100000 in
theorem c_X3_keep {l : Launch} {D : va_G} {cy : Nat → ClassId} {ad : Ads} (hI : IJ ad) (x : Mem) {nq : Nat} (hn6 : nq < 6) (hnq : NXT x nq 0) (hF : FLG x 0) : Ctv l yX3_keep cX3_keep 2 none rm_X3_keep D cy ad [.ref (ad 8 10 0), .ref (ad 0 0 0)] x (fun y => y = kpM x nq) := by
  obtain ⟨w, hw20, -, hwq, hw8⟩ := hnq
  have hwq := congrArg nI hwq
  refine rm_entry (Qc := Qv D cy ad (fun y => y = kpM x nq)) hI (by decide) (Nat.le_of_ble_eq_true rfl) ?_
  intro p e s m args below meth c hc
  show RM _ _ _ _ _ _ _ _ _ _ _ _ _ _ _ _ _ [(0, .ref (ad 8 10 0)), (1, .ref (ad 0 0 0))] []
  refine rm_aload_n hc dX3_keep_0 rfl rfl ?_
  refine rm_get hc dX3_keep_1 fl_X3_11 dm_10 rfl rfl ?_
  refine rm_aload_n hc dX3_keep_4 rfl rfl ?_
  refine rm_geti hc dX3_keep_5 fl_X3_18 dm_10 rfl rfl (fun v_1 e_1 => ?_)
  obtain rfl : v_1 = nI w := e_1.trans hw8
  refine rm_bipush (v := 6) hc dX3_keep_8 (by decide) ?_
  refine rm_calliS (As := [.int (nI w), .int 6]) (rest := [.ref (ad 8 11 0)]) hc dX3_keep_10 (c_fmod hI x (n := w) hw20) ms_X3_22 (hn := rfl) (hst := rfl) (hw := Nat.le_of_ble_eq_true rfl) (hR := ⟨⟨rfl, rfl⟩, Nat.le_of_ble_eq_true rfl, Nat.le_of_ble_eq_true rfl⟩) (hnc := ⟨Nat.zero_le _, Nat.zero_le _⟩) (fun r_2 y_2 h_2 => ?_)
  obtain ⟨e_2, ey_2⟩ := h_2
  obtain rfl := ey_2.symm
  obtain rfl : r_2 = nI nq := e_2.trans hwq
  refine rm_aald (t0 := 4) (i := nq) (v := .ref (ad (nq + 1) 0 0)) hc dX3_keep_13 dm_11 rfl rfl (by omega) (by decide) rfl rfl ?_
  refine rm_aload_n hc dX3_keep_14 rfl rfl ?_
  refine rm_callvV (As := [.ref (ad 0 0 0)]) (rest := []) hc dX3_keep_15 (c_X6_copyFrom hI x (k := nq + 1) (k2 := 0) (by omega) (by omega) (by omega) hF) mv_X3_28 (dm_0 (by omega)) rfl rfl (hn := rfl) (hst := rfl) (hw := Nat.le_of_ble_eq_true rfl) (hR := ⟨⟨rfl, rfl⟩, Nat.le_of_ble_eq_true rfl, Nat.le_of_ble_eq_true rfl⟩) (hnc := ⟨Nat.zero_le _, Nat.zero_le _⟩) (fun y_3 h_3 => ?_)
  refine rm_aload_n hc dX3_keep_18 rfl rfl ?_
  refine rm_dup hc dX3_keep_19 rfl ?_
  refine rm_geti hc dX3_keep_20 fl_X3_18 dm_10 rfl rfl (fun v_4 e_4 => ?_)
  replace e_4 : v_4 = x 8 0 := by rw [e_4]; subst_vars; rw [cpS_b (by omega)]
  refine rm_iconst (v := 1) hc dX3_keep_23 (by decide) ?_
  refine rm_iadd hc dX3_keep_24 (fun v_5 e_5 => ?_)
  refine rm_put hc dX3_keep_25 fl_X3_18 dm_10 rfl (Nat.le_of_ble_eq_true rfl) ft_3_1 rfl rfl so_10_1 (rm_nm (fun x_6 ex_6 => ?_))
  refine rm_aload_n hc dX3_keep_28 rfl rfl ?_
  refine rm_aload_n hc dX3_keep_29 rfl rfl ?_
  refine rm_geti hc dX3_keep_30 fl_X3_32 dm_10 rfl rfl (fun v_7 e_7 => ?_)
  replace e_7 : v_7 = x 8 1 := by rw [e_7]; subst_vars; rw [up_n _ _ (by omega), cpS_b (by omega)]
  refine rm_iconst (v := 1) hc dX3_keep_33 (by decide) ?_
  refine rm_iadd hc dX3_keep_34 (fun v_8 e_8 => ?_)
  refine rm_bipush (v := 6) hc dX3_keep_35 (by decide) ?_
  refine rm_min hc dX3_keep_37 kl_min_X3 (Nat.le_of_ble_eq_true rfl) (Nat.le_of_ble_eq_true rfl) ⟨Nat.zero_le _, Nat.zero_le _⟩ (fun v_9 e_9 => ?_)
  refine rm_put hc dX3_keep_40 fl_X3_32 dm_10 rfl (Nat.le_of_ble_eq_true rfl) ft_3_2 rfl rfl so_10_2 (rm_nm (fun x_10 ex_10 => ?_))
  exact rm_vret hc dX3_keep_43 (by subst_vars; rfl)

abbrev rm_X3_restore : Room := { frames := 3, cells := 0, slots := 0, locals := 83 }
set_option maxHeartbeats 4000000 in
set_option maxRecDepth 100000 in
theorem c_X3_restore {l : Launch} {D : va_G} {cy : Nat → ClassId} {ad : Ads} (hI : IJ ad) (x : Mem) {nq hl : Nat} (hn6 : nq < 6) (hnq : NXT x nq 1) (hhl : x 8 1 = nI hl) (hl0 : 0 < hl) (hl6 : hl ≤ 6) (hF : ∀ b, b < 7 → FLG x b) : Ctv l yX3_restore cX3_restore 2 none rm_X3_restore D cy ad [.ref (ad 8 10 0), .ref (ad 0 0 0)] x (fun y => y = rsM x nq) := by
  obtain ⟨w1, hw20, hw1, hwq, hw8⟩ := hnq
  obtain ⟨w, rfl⟩ : ∃ w, w1 = w + 1 := ⟨w1 - 1, by omega⟩
  replace hw20 : w < 2 ^ 20 := by omega
  refine rm_entry (Qc := Qv D cy ad (fun y => y = rsM x nq)) hI (by decide) (Nat.le_of_ble_eq_true rfl) ?_
  intro p e s m args below meth c hc
  show RM _ _ _ _ _ _ _ _ _ _ _ _ _ _ _ _ _ [(0, .ref (ad 8 10 0)), (1, .ref (ad 0 0 0))] []
  refine rm_aload_n hc dX3_restore_0 rfl rfl ?_
  refine rm_geti hc dX3_restore_1 fl_X3_32 dm_10 rfl rfl (fun v_1 e_1 => ?_)
  obtain rfl : v_1 = nI hl := e_1.trans hhl
  refine rm_if_gt (tgt := 8) hc dX3_restore_4 (by decide) (fun _ => ?_) (fun h => absurd ((nI_ltI (a := 0) (b := hl) (by omega) (by omega)).mpr (by omega)) h)
  refine rm_aload_n hc dX3_restore_8 rfl rfl ?_
  refine rm_dup hc dX3_restore_9 rfl ?_
  refine rm_geti hc dX3_restore_10 fl_X3_18 dm_10 rfl rfl (fun v_3 e_3 => ?_)
  refine rm_iconst (v := 1) hc dX3_restore_13 (by decide) ?_
  refine rm_isub hc dX3_restore_14 (fun v_4 e_4 => ?_)
  refine rm_put hc dX3_restore_15 fl_X3_18 dm_10 rfl (Nat.le_of_ble_eq_true rfl) ft_3_1 rfl rfl so_10_1 (rm_nm (fun x_5 ex_5 => ?_))
  refine rm_aload_n hc dX3_restore_18 rfl rfl ?_
  refine rm_dup hc dX3_restore_19 rfl ?_
  refine rm_geti hc dX3_restore_20 fl_X3_32 dm_10 rfl rfl (fun v_6 e_6 => ?_)
  replace e_6 : v_6 = x 8 1 := by rw [e_6]; subst_vars; exact up_n _ _ (by omega)
  refine rm_iconst (v := 1) hc dX3_restore_23 (by decide) ?_
  refine rm_isub hc dX3_restore_24 (fun v_7 e_7 => ?_)
  refine rm_put hc dX3_restore_25 fl_X3_32 dm_10 rfl (Nat.le_of_ble_eq_true rfl) ft_3_2 rfl rfl so_10_2 (rm_nm (fun x_8 ex_8 => ?_))
  refine rm_aload_n hc dX3_restore_28 rfl rfl ?_
  refine rm_aload_n hc dX3_restore_29 rfl rfl ?_
  refine rm_get hc dX3_restore_30 fl_X3_11 dm_10 rfl rfl ?_
  refine rm_aload_n hc dX3_restore_33 rfl rfl ?_
  refine rm_geti hc dX3_restore_34 fl_X3_18 dm_10 rfl rfl (fun v_9 e_9 => ?_)
  obtain rfl : v_9 = nI w := by rw [e_9]; subst_vars; rw [up_n _ _ (by omega), up_s, hw8]; exact pk_sub (a := w + 1) (b := 1) (by omega)
  refine rm_bipush (v := 6) hc dX3_restore_37 (by decide) ?_
  refine rm_calliS (As := [.int (nI w), .int 6]) (rest := [.ref (ad 8 11 0), .ref (ad 0 0 0)]) hc dX3_restore_39 (c_fmod hI x_8 (n := w) hw20) ms_X3_22 (hn := rfl) (hst := rfl) (hw := Nat.le_of_ble_eq_true rfl) (hR := ⟨⟨rfl, rfl⟩, Nat.le_of_ble_eq_true rfl, Nat.le_of_ble_eq_true rfl⟩) (hnc := ⟨Nat.zero_le _, Nat.zero_le _⟩) (fun r_10 y_10 h_10 => ?_)
  obtain ⟨e_10, ey_10⟩ := h_10
  obtain rfl := ey_10.symm
  obtain ⟨qq, hqq⟩ : ∃ qq : Nat, qq = (nq + 5) % 6 := ⟨_, rfl⟩
  obtain rfl : r_10 = nI qq := e_10.trans (congrArg nI (by omega))
  refine rm_aald (t0 := 4) (i := qq) (v := .ref (ad (qq + 1) 0 0)) hc dX3_restore_42 dm_11 rfl rfl (by omega) (by decide) rfl rfl ?_
  refine rm_callvV (As := [.ref (ad (qq + 1) 0 0)]) (rest := []) hc dX3_restore_43 (c_X6_copyFrom hI x_8 (k := 0) (k2 := qq + 1) (by omega) (by omega) (by omega) (by subst_vars; exact FLG_up (by omega) (FLG_up (by omega) (hF _ (by omega))))) mv_X3_28 (dm_0 (by omega)) rfl rfl (hn := rfl) (hst := rfl) (hw := Nat.le_of_ble_eq_true rfl) (hR := ⟨⟨rfl, rfl⟩, Nat.le_of_ble_eq_true rfl, Nat.le_of_ble_eq_true rfl⟩) (hnc := ⟨Nat.zero_le _, Nat.zero_le _⟩) (fun y_11 h_11 => ?_)
  exact rm_vret hc dX3_restore_46 (by subst_vars; rfl)











abbrev rm_X6_send : Room := { frames := 3, cells := 0, slots := 0, locals := 72 }
set_option maxHeartbeats 4000000 in
set_option maxRecDepth 100000 in
theorem c_X6_send {l : Launch} {D : va_G} {cy : Nat → ClassId} {ad : Ads} (hI : IJ ad) (x : Mem) {k : Nat} (hk : k < 7) (num msk : Int32) (mm : Nat) (hmm : mm < 2 ^ 30) (hw : x k 1 = nI mm) : Cti l yX6_send cX6_send 6 (some .int) rm_X6_send D cy ad [.ref (ad k 0 0), .int num, .int msk] x (fun r y => r = (sendS x k msk num mm 3).1 ∧ y = (sendS x k msk num mm 3).2) := by
  refine rm_entry (Qc := Qi D cy ad (fun r y => r = (sendS x k msk num mm 3).1 ∧ y = (sendS x k msk num mm 3).2)) hI (by decide) (Nat.le_of_ble_eq_true rfl) ?_
  intro p e s m args below meth c hc
  show RM _ _ _ _ _ _ _ _ _ _ _ _ _ _ _ _ _ [(0, .ref (ad k 0 0)), (1, .int num), (2, .int msk)] []
  refine rm_iconst (v := 0) hc dX6_send_0 (by decide) ?_
  refine rm_istore_n (ls' := [(0, .ref (ad k 0 0)), (1, .int num), (2, .int msk), (3, .int 0)]) hc dX6_send_1 rfl (by decide) rfl ?_
  refine rm_iconst (v := 0) hc dX6_send_2 (by decide) ?_
  refine rm_istore (ls' := [(0, .ref (ad k 0 0)), (1, .int num), (2, .int msk), (3, .int 0), (4, .int 0)]) hc dX6_send_3 (by decide) rfl ?_
  skip
  have hs0 : sendS x k msk num mm 0 = (0, x) := rfl
  refine rm_iload hc dX6_send_5 rfl ?_
  refine rm_iconst (v := 3) hc dX6_send_7 (by decide) ?_
  refine rm_icmp_ge (tgt := 64) hc dX6_send_8 (by decide) (fun h => absurd h (by decide)) (fun _ => ?_)
  refine rm_iload_n hc dX6_send_11 rfl rfl ?_
  refine rm_iload hc dX6_send_12 rfl ?_
  refine rm_ishr hc dX6_send_14 (fun v_2 e_2 => ?_)
  refine rm_iconst (v := 1) hc dX6_send_15 (by decide) ?_
  refine rm_iand hc dX6_send_16 (fun v_3 e_3 => ?_)
  refine rm_iconst (v := 1) hc dX6_send_17 (by decide) ?_
  by_cases hb_4 : (msk >>> (nI 0 &&& 31)) &&& 1 = 1
  · --bit 1
    refine rm_icmp_ne (tgt := 25) hc dX6_send_18 (by decide) (fun h => absurd (by rw [e_3, e_2]; exact hb_4) h) (fun _ => ?_)
    refine rm_iconst (v := 1) hc dX6_send_21 (by decide) ?_
    refine rm_goto (tgt := 26) hc dX6_send_22 (by decide) ?_
    refine rm_istore (ls' := [(0, .ref (ad k 0 0)), (1, .int num), (2, .int msk), (3, .int 0), (4, .int 0), (5, .int 1)]) hc dX6_send_26 (by decide) rfl ?_
    refine rm_iload hc dX6_send_28 rfl ?_
    refine rm_if_eq (tgt := 58) hc dX6_send_30 (by decide) (fun h => absurd h (by decide)) (fun _ => ?_)
    refine rm_aload_n hc dX6_send_33 rfl rfl ?_
    refine rm_get hc dX6_send_34 fl_X6_22 (dm_0 (by omega)) rfl rfl ?_
    refine rm_iload hc dX6_send_37 rfl ?_
    refine rm_aald (t0 := 2) (i := 0) (v := .ref (ad k 4 0)) hc dX6_send_39 (dm_3 (by omega)) rfl rfl (by omega) (by decide) rfl rfl ?_
    refine rm_iload_n hc dX6_send_40 rfl rfl ?_
    refine rm_aload_n hc dX6_send_41 rfl rfl ?_
    refine rm_get hc dX6_send_42 fl_X6_37 (dm_0 (by omega)) rfl rfl ?_
    refine rm_calliV (As := [.int num, .ref (ad k 8 0)]) (rest := []) hc dX6_send_45 (c_X1_hear hI x (k := k) (d := 0) (k2 := k) (by omega) (by omega) (by omega) (by omega) num _ mm (by omega) (by have h5 := sendS_lo (x := x) (k := k) (msk := msk) (num := num) (mm := mm) (n := 1) (by omega) 0; rw [hs0] at h5; exact h5.trans hw) rfl) mv_X6_94 (dm_4 (by omega) (by omega) (by omega)) rfl rfl (hn := rfl) (hst := rfl) (hw := Nat.le_of_ble_eq_true rfl) (hR := ⟨⟨rfl, rfl⟩, Nat.le_of_ble_eq_true rfl, Nat.le_of_ble_eq_true rfl⟩) (hnc := ⟨Nat.zero_le _, Nat.zero_le _⟩) (fun r_6 y_6 h_6 => ?_)
    obtain ⟨e_6, ey_6⟩ := h_6
    refine rm_if_ne (tgt := 58) hc dX6_send_48 (by decide) (fun c_7 => ?_) (fun c_7 => ?_)
    · --
      refine rm_iinc (v := 1) (ls' := [(0, .ref (ad k 0 0)), (1, .int num), (2, .int msk), (3, .int 0), (4, .int 1), (5, .int 1)]) hc dX6_send_58 rfl (by decide) (by decide) rfl ?_
      refine rm_goto (tgt := 5) hc dX6_send_61 (by decide) ?_
      have hs1 : sendS x k msk num mm 1 = (0, y_6) := by rw [sendS_y hb_4, hs0]; rw [if_neg (fun h => c_7 (e_6.trans h)), ← ey_6]
      refine rm_sub [0, 1, 2, 3, 4] rfl ?_
      refine rm_iload hc dX6_send_5 rfl ?_
      refine rm_iconst (v := 3) hc dX6_send_7 (by decide) ?_
      refine rm_icmp_ge (tgt := 64) hc dX6_send_8 (by decide) (fun h => absurd h (by decide)) (fun _ => ?_)
      refine rm_iload_n hc dX6_send_11 rfl rfl ?_
      refine rm_iload hc dX6_send_12 rfl ?_
      refine rm_ishr hc dX6_send_14 (fun v_10 e_10 => ?_)
      refine rm_iconst (v := 1) hc dX6_send_15 (by decide) ?_
      refine rm_iand hc dX6_send_16 (fun v_11 e_11 => ?_)
      refine rm_iconst (v := 1) hc dX6_send_17 (by decide) ?_
      by_cases hb_12 : (msk >>> (nI 1 &&& 31)) &&& 1 = 1
      · --bit 1
        refine rm_icmp_ne (tgt := 25) hc dX6_send_18 (by decide) (fun h => absurd (by rw [e_11, e_10]; exact hb_12) h) (fun _ => ?_)
        refine rm_iconst (v := 1) hc dX6_send_21 (by decide) ?_
        refine rm_goto (tgt := 26) hc dX6_send_22 (by decide) ?_
        refine rm_istore (ls' := [(0, .ref (ad k 0 0)), (1, .int num), (2, .int msk), (3, .int 0), (4, .int 1), (5, .int 1)]) hc dX6_send_26 (by decide) rfl ?_
        refine rm_iload hc dX6_send_28 rfl ?_
        refine rm_if_eq (tgt := 58) hc dX6_send_30 (by decide) (fun h => absurd h (by decide)) (fun _ => ?_)
        refine rm_aload_n hc dX6_send_33 rfl rfl ?_
        refine rm_get hc dX6_send_34 fl_X6_22 (dm_0 (by omega)) rfl rfl ?_
        refine rm_iload hc dX6_send_37 rfl ?_
        refine rm_aald (t0 := 2) (i := 1) (v := .ref (ad k 4 1)) hc dX6_send_39 (dm_3 (by omega)) rfl rfl (by omega) (by decide) rfl rfl ?_
        refine rm_iload_n hc dX6_send_40 rfl rfl ?_
        refine rm_aload_n hc dX6_send_41 rfl rfl ?_
        refine rm_get hc dX6_send_42 fl_X6_37 (dm_0 (by omega)) rfl rfl ?_
        refine rm_calliV (As := [.int num, .ref (ad k 8 0)]) (rest := []) hc dX6_send_45 (c_X1_hear hI y_6 (k := k) (d := 1) (k2 := k) (by omega) (by omega) (by omega) (by omega) num _ mm (by omega) (by have h5 := sendS_lo (x := x) (k := k) (msk := msk) (num := num) (mm := mm) (n := 1) (by omega) 1; rw [hs1] at h5; exact h5.trans hw) rfl) mv_X6_94 (dm_4 (by omega) (by omega) (by omega)) rfl rfl (hn := rfl) (hst := rfl) (hw := Nat.le_of_ble_eq_true rfl) (hR := ⟨⟨rfl, rfl⟩, Nat.le_of_ble_eq_true rfl, Nat.le_of_ble_eq_true rfl⟩) (hnc := ⟨Nat.zero_le _, Nat.zero_le _⟩) (fun r_14 y_14 h_14 => ?_)
        obtain ⟨e_14, ey_14⟩ := h_14
        refine rm_if_ne (tgt := 58) hc dX6_send_48 (by decide) (fun c_15 => ?_) (fun c_15 => ?_)
        · --
          refine rm_iinc (v := 2) (ls' := [(0, .ref (ad k 0 0)), (1, .int num), (2, .int msk), (3, .int 0), (4, .int 2), (5, .int 1)]) hc dX6_send_58 rfl (by decide) (by decide) rfl ?_
          refine rm_goto (tgt := 5) hc dX6_send_61 (by decide) ?_
          have hs2 : sendS x k msk num mm 2 = (0, y_14) := by rw [sendS_y hb_12, hs1]; rw [if_neg (fun h => c_15 (e_14.trans h)), ← ey_14]
          refine rm_sub [0, 1, 2, 3, 4] rfl ?_
          refine rm_iload hc dX6_send_5 rfl ?_
          refine rm_iconst (v := 3) hc dX6_send_7 (by decide) ?_
          refine rm_icmp_ge (tgt := 64) hc dX6_send_8 (by decide) (fun h => absurd h (by decide)) (fun _ => ?_)
          refine rm_iload_n hc dX6_send_11 rfl rfl ?_
          refine rm_iload hc dX6_send_12 rfl ?_
          refine rm_ishr hc dX6_send_14 (fun v_18 e_18 => ?_)
          refine rm_iconst (v := 1) hc dX6_send_15 (by decide) ?_
          refine rm_iand hc dX6_send_16 (fun v_19 e_19 => ?_)
          refine rm_iconst (v := 1) hc dX6_send_17 (by decide) ?_
          by_cases hb_20 : (msk >>> (nI 2 &&& 31)) &&& 1 = 1
          · --bit 1
            refine rm_icmp_ne (tgt := 25) hc dX6_send_18 (by decide) (fun h => absurd (by rw [e_19, e_18]; exact hb_20) h) (fun _ => ?_)
            refine rm_iconst (v := 1) hc dX6_send_21 (by decide) ?_
            refine rm_goto (tgt := 26) hc dX6_send_22 (by decide) ?_
            refine rm_istore (ls' := [(0, .ref (ad k 0 0)), (1, .int num), (2, .int msk), (3, .int 0), (4, .int 2), (5, .int 1)]) hc dX6_send_26 (by decide) rfl ?_
            refine rm_iload hc dX6_send_28 rfl ?_
            refine rm_if_eq (tgt := 58) hc dX6_send_30 (by decide) (fun h => absurd h (by decide)) (fun _ => ?_)
            refine rm_aload_n hc dX6_send_33 rfl rfl ?_
            refine rm_get hc dX6_send_34 fl_X6_22 (dm_0 (by omega)) rfl rfl ?_
            refine rm_iload hc dX6_send_37 rfl ?_
            refine rm_aald (t0 := 2) (i := 2) (v := .ref (ad k 4 2)) hc dX6_send_39 (dm_3 (by omega)) rfl rfl (by omega) (by decide) rfl rfl ?_
            refine rm_iload_n hc dX6_send_40 rfl rfl ?_
            refine rm_aload_n hc dX6_send_41 rfl rfl ?_
            refine rm_get hc dX6_send_42 fl_X6_37 (dm_0 (by omega)) rfl rfl ?_
            refine rm_calliV (As := [.int num, .ref (ad k 8 0)]) (rest := []) hc dX6_send_45 (c_X1_hear hI y_14 (k := k) (d := 2) (k2 := k) (by omega) (by omega) (by omega) (by omega) num _ mm (by omega) (by have h5 := sendS_lo (x := x) (k := k) (msk := msk) (num := num) (mm := mm) (n := 1) (by omega) 2; rw [hs2] at h5; exact h5.trans hw) rfl) mv_X6_94 (dm_4 (by omega) (by omega) (by omega)) rfl rfl (hn := rfl) (hst := rfl) (hw := Nat.le_of_ble_eq_true rfl) (hR := ⟨⟨rfl, rfl⟩, Nat.le_of_ble_eq_true rfl, Nat.le_of_ble_eq_true rfl⟩) (hnc := ⟨Nat.zero_le _, Nat.zero_le _⟩) (fun r_22 y_22 h_22 => ?_)
            obtain ⟨e_22, ey_22⟩ := h_22
            refine rm_if_ne (tgt := 58) hc dX6_send_48 (by decide) (fun c_23 => ?_) (fun c_23 => ?_)
            · --
              refine rm_iinc (v := 3) (ls' := [(0, .ref (ad k 0 0)), (1, .int num), (2, .int msk), (3, .int 0), (4, .int 3), (5, .int 1)]) hc dX6_send_58 rfl (by decide) (by decide) rfl ?_
              refine rm_goto (tgt := 5) hc dX6_send_61 (by decide) ?_
              have hs3 : sendS x k msk num mm 3 = (0, y_22) := by rw [sendS_y hb_20, hs2]; rw [if_neg (fun h => c_23 (e_22.trans h)), ← ey_22]
              refine rm_sub [0, 1, 2, 3, 4] rfl ?_
              refine rm_iload hc dX6_send_5 rfl ?_
              refine rm_iconst (v := 3) hc dX6_send_7 (by decide) ?_
              refine rm_icmp_ge (tgt := 64) hc dX6_send_8 (by decide) (fun _ => ?_) (fun h => absurd (by decide) h)
              refine rm_iload_n hc dX6_send_64 rfl rfl ?_
              exact rm_iret hc dX6_send_65 ⟨by rw [hs3], by rw [hs3]⟩
            · --
              refine rm_iload_n hc dX6_send_51 rfl rfl ?_
              refine rm_iconst (v := 1) hc dX6_send_52 (by decide) ?_
              refine rm_iload hc dX6_send_53 rfl ?_
              refine rm_ishl hc dX6_send_55 (fun v_26 e_26 => ?_)
              obtain rfl : v_26 = 4 := e_26.trans (by decide)
              clear e_26
              refine rm_ior hc dX6_send_56 (fun v_27 e_27 => ?_)
              obtain rfl : v_27 = 4 := e_27.trans (by decide)
              clear e_27
              refine rm_istore_n (ls' := [(0, .ref (ad k 0 0)), (1, .int num), (2, .int msk), (3, .int 4), (4, .int 2), (5, .int 1)]) hc dX6_send_57 rfl (by decide) rfl ?_
              refine rm_iinc (v := 3) (ls' := [(0, .ref (ad k 0 0)), (1, .int num), (2, .int msk), (3, .int 4), (4, .int 3), (5, .int 1)]) hc dX6_send_58 rfl (by decide) (by decide) rfl ?_
              refine rm_goto (tgt := 5) hc dX6_send_61 (by decide) ?_
              have hs3 : sendS x k msk num mm 3 = (4, y_22) := by rw [sendS_y hb_20, hs2]; rw [if_pos (e_22.symm.trans c_23), ← ey_22]; exact Prod.ext (show (0 : Int32) ||| (1 <<< (nI 2 &&& 31)) = 4 by decide) rfl
              refine rm_sub [0, 1, 2, 3, 4] rfl ?_
              refine rm_iload hc dX6_send_5 rfl ?_
              refine rm_iconst (v := 3) hc dX6_send_7 (by decide) ?_
              refine rm_icmp_ge (tgt := 64) hc dX6_send_8 (by decide) (fun _ => ?_) (fun h => absurd (by decide) h)
              refine rm_iload_n hc dX6_send_64 rfl rfl ?_
              exact rm_iret hc dX6_send_65 ⟨by rw [hs3], by rw [hs3]⟩
          · --bit 0
            refine rm_icmp_ne (tgt := 25) hc dX6_send_18 (by decide) (fun _ => ?_) (fun h => absurd h (by rw [e_19, e_18]; exact hb_20))
            refine rm_iconst (v := 0) hc dX6_send_25 (by decide) ?_
            refine rm_istore (ls' := [(0, .ref (ad k 0 0)), (1, .int num), (2, .int msk), (3, .int 0), (4, .int 2), (5, .int 0)]) hc dX6_send_26 (by decide) rfl ?_
            refine rm_iload hc dX6_send_28 rfl ?_
            refine rm_if_eq (tgt := 58) hc dX6_send_30 (by decide) (fun _ => ?_) (fun h => absurd (by decide) h)
            refine rm_iinc (v := 3) (ls' := [(0, .ref (ad k 0 0)), (1, .int num), (2, .int msk), (3, .int 0), (4, .int 3), (5, .int 0)]) hc dX6_send_58 rfl (by decide) (by decide) rfl ?_
            refine rm_goto (tgt := 5) hc dX6_send_61 (by decide) ?_
            have hs3 : sendS x k msk num mm 3 = (0, y_14) := (sendS_n hb_20).trans hs2
            refine rm_sub [0, 1, 2, 3, 4] rfl ?_
            refine rm_iload hc dX6_send_5 rfl ?_
            refine rm_iconst (v := 3) hc dX6_send_7 (by decide) ?_
            refine rm_icmp_ge (tgt := 64) hc dX6_send_8 (by decide) (fun _ => ?_) (fun h => absurd (by decide) h)
            refine rm_iload_n hc dX6_send_64 rfl rfl ?_
            exact rm_iret hc dX6_send_65 ⟨by rw [hs3], by rw [hs3]⟩
        · --
          refine rm_iload_n hc dX6_send_51 rfl rfl ?_
          refine rm_iconst (v := 1) hc dX6_send_52 (by decide) ?_
          refine rm_iload hc dX6_send_53 rfl ?_
          refine rm_ishl hc dX6_send_55 (fun v_33 e_33 => ?_)
          obtain rfl : v_33 = 2 := e_33.trans (by decide)
          clear e_33
          refine rm_ior hc dX6_send_56 (fun v_34 e_34 => ?_)
          obtain rfl : v_34 = 2 := e_34.trans (by decide)
          clear e_34
          refine rm_istore_n (ls' := [(0, .ref (ad k 0 0)), (1, .int num), (2, .int msk), (3, .int 2), (4, .int 1), (5, .int 1)]) hc dX6_send_57 rfl (by decide) rfl ?_
          refine rm_iinc (v := 2) (ls' := [(0, .ref (ad k 0 0)), (1, .int num), (2, .int msk), (3, .int 2), (4, .int 2), (5, .int 1)]) hc dX6_send_58 rfl (by decide) (by decide) rfl ?_
          refine rm_goto (tgt := 5) hc dX6_send_61 (by decide) ?_
          have hs2 : sendS x k msk num mm 2 = (2, y_14) := by rw [sendS_y hb_12, hs1]; rw [if_pos (e_14.symm.trans c_15), ← ey_14]; exact Prod.ext (show (0 : Int32) ||| (1 <<< (nI 1 &&& 31)) = 2 by decide) rfl
          refine rm_sub [0, 1, 2, 3, 4] rfl ?_
          refine rm_iload hc dX6_send_5 rfl ?_
          refine rm_iconst (v := 3) hc dX6_send_7 (by decide) ?_
          refine rm_icmp_ge (tgt := 64) hc dX6_send_8 (by decide) (fun h => absurd h (by decide)) (fun _ => ?_)
          refine rm_iload_n hc dX6_send_11 rfl rfl ?_
          refine rm_iload hc dX6_send_12 rfl ?_
          refine rm_ishr hc dX6_send_14 (fun v_37 e_37 => ?_)
          refine rm_iconst (v := 1) hc dX6_send_15 (by decide) ?_
          refine rm_iand hc dX6_send_16 (fun v_38 e_38 => ?_)
          refine rm_iconst (v := 1) hc dX6_send_17 (by decide) ?_
          by_cases hb_39 : (msk >>> (nI 2 &&& 31)) &&& 1 = 1
          · --bit 1
            refine rm_icmp_ne (tgt := 25) hc dX6_send_18 (by decide) (fun h => absurd (by rw [e_38, e_37]; exact hb_39) h) (fun _ => ?_)
            refine rm_iconst (v := 1) hc dX6_send_21 (by decide) ?_
            refine rm_goto (tgt := 26) hc dX6_send_22 (by decide) ?_
            refine rm_istore (ls' := [(0, .ref (ad k 0 0)), (1, .int num), (2, .int msk), (3, .int 2), (4, .int 2), (5, .int 1)]) hc dX6_send_26 (by decide) rfl ?_
            refine rm_iload hc dX6_send_28 rfl ?_
            refine rm_if_eq (tgt := 58) hc dX6_send_30 (by decide) (fun h => absurd h (by decide)) (fun _ => ?_)
            refine rm_aload_n hc dX6_send_33 rfl rfl ?_
            refine rm_get hc dX6_send_34 fl_X6_22 (dm_0 (by omega)) rfl rfl ?_
            refine rm_iload hc dX6_send_37 rfl ?_
            refine rm_aald (t0 := 2) (i := 2) (v := .ref (ad k 4 2)) hc dX6_send_39 (dm_3 (by omega)) rfl rfl (by omega) (by decide) rfl rfl ?_
            refine rm_iload_n hc dX6_send_40 rfl rfl ?_
            refine rm_aload_n hc dX6_send_41 rfl rfl ?_
            refine rm_get hc dX6_send_42 fl_X6_37 (dm_0 (by omega)) rfl rfl ?_
            refine rm_calliV (As := [.int num, .ref (ad k 8 0)]) (rest := []) hc dX6_send_45 (c_X1_hear hI y_14 (k := k) (d := 2) (k2 := k) (by omega) (by omega) (by omega) (by omega) num _ mm (by omega) (by have h5 := sendS_lo (x := x) (k := k) (msk := msk) (num := num) (mm := mm) (n := 1) (by omega) 2; rw [hs2] at h5; exact h5.trans hw) rfl) mv_X6_94 (dm_4 (by omega) (by omega) (by omega)) rfl rfl (hn := rfl) (hst := rfl) (hw := Nat.le_of_ble_eq_true rfl) (hR := ⟨⟨rfl, rfl⟩, Nat.le_of_ble_eq_true rfl, Nat.le_of_ble_eq_true rfl⟩) (hnc := ⟨Nat.zero_le _, Nat.zero_le _⟩) (fun r_41 y_41 h_41 => ?_)
            obtain ⟨e_41, ey_41⟩ := h_41
            refine rm_if_ne (tgt := 58) hc dX6_send_48 (by decide) (fun c_42 => ?_) (fun c_42 => ?_)
            · --
              refine rm_iinc (v := 3) (ls' := [(0, .ref (ad k 0 0)), (1, .int num), (2, .int msk), (3, .int 2), (4, .int 3), (5, .int 1)]) hc dX6_send_58 rfl (by decide) (by decide) rfl ?_
              refine rm_goto (tgt := 5) hc dX6_send_61 (by decide) ?_
              have hs3 : sendS x k msk num mm 3 = (2, y_41) := by rw [sendS_y hb_39, hs2]; rw [if_neg (fun h => c_42 (e_41.trans h)), ← ey_41]
              refine rm_sub [0, 1, 2, 3, 4] rfl ?_
              refine rm_iload hc dX6_send_5 rfl ?_
              refine rm_iconst (v := 3) hc dX6_send_7 (by decide) ?_
              refine rm_icmp_ge (tgt := 64) hc dX6_send_8 (by decide) (fun _ => ?_) (fun h => absurd (by decide) h)
              refine rm_iload_n hc dX6_send_64 rfl rfl ?_
              exact rm_iret hc dX6_send_65 ⟨by rw [hs3], by rw [hs3]⟩
            · --
              refine rm_iload_n hc dX6_send_51 rfl rfl ?_
              refine rm_iconst (v := 1) hc dX6_send_52 (by decide) ?_
              refine rm_iload hc dX6_send_53 rfl ?_
              refine rm_ishl hc dX6_send_55 (fun v_45 e_45 => ?_)
              obtain rfl : v_45 = 4 := e_45.trans (by decide)
              clear e_45
              refine rm_ior hc dX6_send_56 (fun v_46 e_46 => ?_)
              obtain rfl : v_46 = 6 := e_46.trans (by decide)
              clear e_46
              refine rm_istore_n (ls' := [(0, .ref (ad k 0 0)), (1, .int num), (2, .int msk), (3, .int 6), (4, .int 2), (5, .int 1)]) hc dX6_send_57 rfl (by decide) rfl ?_
              refine rm_iinc (v := 3) (ls' := [(0, .ref (ad k 0 0)), (1, .int num), (2, .int msk), (3, .int 6), (4, .int 3), (5, .int 1)]) hc dX6_send_58 rfl (by decide) (by decide) rfl ?_
              refine rm_goto (tgt := 5) hc dX6_send_61 (by decide) ?_
              have hs3 : sendS x k msk num mm 3 = (6, y_41) := by rw [sendS_y hb_39, hs2]; rw [if_pos (e_41.symm.trans c_42), ← ey_41]; exact Prod.ext (show (2 : Int32) ||| (1 <<< (nI 2 &&& 31)) = 6 by decide) rfl
              refine rm_sub [0, 1, 2, 3, 4] rfl ?_
              refine rm_iload hc dX6_send_5 rfl ?_
              refine rm_iconst (v := 3) hc dX6_send_7 (by decide) ?_
              refine rm_icmp_ge (tgt := 64) hc dX6_send_8 (by decide) (fun _ => ?_) (fun h => absurd (by decide) h)
              refine rm_iload_n hc dX6_send_64 rfl rfl ?_
              exact rm_iret hc dX6_send_65 ⟨by rw [hs3], by rw [hs3]⟩
          · --bit 0
            refine rm_icmp_ne (tgt := 25) hc dX6_send_18 (by decide) (fun _ => ?_) (fun h => absurd h (by rw [e_38, e_37]; exact hb_39))
            refine rm_iconst (v := 0) hc dX6_send_25 (by decide) ?_
            refine rm_istore (ls' := [(0, .ref (ad k 0 0)), (1, .int num), (2, .int msk), (3, .int 2), (4, .int 2), (5, .int 0)]) hc dX6_send_26 (by decide) rfl ?_
            refine rm_iload hc dX6_send_28 rfl ?_
            refine rm_if_eq (tgt := 58) hc dX6_send_30 (by decide) (fun _ => ?_) (fun h => absurd (by decide) h)
            refine rm_iinc (v := 3) (ls' := [(0, .ref (ad k 0 0)), (1, .int num), (2, .int msk), (3, .int 2), (4, .int 3), (5, .int 0)]) hc dX6_send_58 rfl (by decide) (by decide) rfl ?_
            refine rm_goto (tgt := 5) hc dX6_send_61 (by decide) ?_
            have hs3 : sendS x k msk num mm 3 = (2, y_14) := (sendS_n hb_39).trans hs2
            refine rm_sub [0, 1, 2, 3, 4] rfl ?_
            refine rm_iload hc dX6_send_5 rfl ?_
            refine rm_iconst (v := 3) hc dX6_send_7 (by decide) ?_
            refine rm_icmp_ge (tgt := 64) hc dX6_send_8 (by decide) (fun _ => ?_) (fun h => absurd (by decide) h)
            refine rm_iload_n hc dX6_send_64 rfl rfl ?_
            exact rm_iret hc dX6_send_65 ⟨by rw [hs3], by rw [hs3]⟩
      · --bit 0
        refine rm_icmp_ne (tgt := 25) hc dX6_send_18 (by decide) (fun _ => ?_) (fun h => absurd h (by rw [e_11, e_10]; exact hb_12))
        refine rm_iconst (v := 0) hc dX6_send_25 (by decide) ?_
        refine rm_istore (ls' := [(0, .ref (ad k 0 0)), (1, .int num), (2, .int msk), (3, .int 0), (4, .int 1), (5, .int 0)]) hc dX6_send_26 (by decide) rfl ?_
        refine rm_iload hc dX6_send_28 rfl ?_
        refine rm_if_eq (tgt := 58) hc dX6_send_30 (by decide) (fun _ => ?_) (fun h => absurd (by decide) h)
        refine rm_iinc (v := 2) (ls' := [(0, .ref (ad k 0 0)), (1, .int num), (2, .int msk), (3, .int 0), (4, .int 2), (5, .int 0)]) hc dX6_send_58 rfl (by decide) (by decide) rfl ?_
        refine rm_goto (tgt := 5) hc dX6_send_61 (by decide) ?_
        have hs2 : sendS x k msk num mm 2 = (0, y_6) := (sendS_n hb_12).trans hs1
        refine rm_sub [0, 1, 2, 3, 4] rfl ?_
        refine rm_iload hc dX6_send_5 rfl ?_
        refine rm_iconst (v := 3) hc dX6_send_7 (by decide) ?_
        refine rm_icmp_ge (tgt := 64) hc dX6_send_8 (by decide) (fun h => absurd h (by decide)) (fun _ => ?_)
        refine rm_iload_n hc dX6_send_11 rfl rfl ?_
        refine rm_iload hc dX6_send_12 rfl ?_
        refine rm_ishr hc dX6_send_14 (fun v_55 e_55 => ?_)
        refine rm_iconst (v := 1) hc dX6_send_15 (by decide) ?_
        refine rm_iand hc dX6_send_16 (fun v_56 e_56 => ?_)
        refine rm_iconst (v := 1) hc dX6_send_17 (by decide) ?_
        by_cases hb_57 : (msk >>> (nI 2 &&& 31)) &&& 1 = 1
        · --bit 1
          refine rm_icmp_ne (tgt := 25) hc dX6_send_18 (by decide) (fun h => absurd (by rw [e_56, e_55]; exact hb_57) h) (fun _ => ?_)
          refine rm_iconst (v := 1) hc dX6_send_21 (by decide) ?_
          refine rm_goto (tgt := 26) hc dX6_send_22 (by decide) ?_
          refine rm_istore (ls' := [(0, .ref (ad k 0 0)), (1, .int num), (2, .int msk), (3, .int 0), (4, .int 2), (5, .int 1)]) hc dX6_send_26 (by decide) rfl ?_
          refine rm_iload hc dX6_send_28 rfl ?_
          refine rm_if_eq (tgt := 58) hc dX6_send_30 (by decide) (fun h => absurd h (by decide)) (fun _ => ?_)
          refine rm_aload_n hc dX6_send_33 rfl rfl ?_
          refine rm_get hc dX6_send_34 fl_X6_22 (dm_0 (by omega)) rfl rfl ?_
          refine rm_iload hc dX6_send_37 rfl ?_
          refine rm_aald (t0 := 2) (i := 2) (v := .ref (ad k 4 2)) hc dX6_send_39 (dm_3 (by omega)) rfl rfl (by omega) (by decide) rfl rfl ?_
          refine rm_iload_n hc dX6_send_40 rfl rfl ?_
          refine rm_aload_n hc dX6_send_41 rfl rfl ?_
          refine rm_get hc dX6_send_42 fl_X6_37 (dm_0 (by omega)) rfl rfl ?_
          refine rm_calliV (As := [.int num, .ref (ad k 8 0)]) (rest := []) hc dX6_send_45 (c_X1_hear hI y_6 (k := k) (d := 2) (k2 := k) (by omega) (by omega) (by omega) (by omega) num _ mm (by omega) (by have h5 := sendS_lo (x := x) (k := k) (msk := msk) (num := num) (mm := mm) (n := 1) (by omega) 2; rw [hs2] at h5; exact h5.trans hw) rfl) mv_X6_94 (dm_4 (by omega) (by omega) (by omega)) rfl rfl (hn := rfl) (hst := rfl) (hw := Nat.le_of_ble_eq_true rfl) (hR := ⟨⟨rfl, rfl⟩, Nat.le_of_ble_eq_true rfl, Nat.le_of_ble_eq_true rfl⟩) (hnc := ⟨Nat.zero_le _, Nat.zero_le _⟩) (fun r_59 y_59 h_59 => ?_)
          obtain ⟨e_59, ey_59⟩ := h_59
          refine rm_if_ne (tgt := 58) hc dX6_send_48 (by decide) (fun c_60 => ?_) (fun c_60 => ?_)
          · --
            refine rm_iinc (v := 3) (ls' := [(0, .ref (ad k 0 0)), (1, .int num), (2, .int msk), (3, .int 0), (4, .int 3), (5, .int 1)]) hc dX6_send_58 rfl (by decide) (by decide) rfl ?_
            refine rm_goto (tgt := 5) hc dX6_send_61 (by decide) ?_
            have hs3 : sendS x k msk num mm 3 = (0, y_59) := by rw [sendS_y hb_57, hs2]; rw [if_neg (fun h => c_60 (e_59.trans h)), ← ey_59]
            refine rm_sub [0, 1, 2, 3, 4] rfl ?_
            refine rm_iload hc dX6_send_5 rfl ?_
            refine rm_iconst (v := 3) hc dX6_send_7 (by decide) ?_
            refine rm_icmp_ge (tgt := 64) hc dX6_send_8 (by decide) (fun _ => ?_) (fun h => absurd (by decide) h)
            refine rm_iload_n hc dX6_send_64 rfl rfl ?_
            exact rm_iret hc dX6_send_65 ⟨by rw [hs3], by rw [hs3]⟩
          · --
            refine rm_iload_n hc dX6_send_51 rfl rfl ?_
            refine rm_iconst (v := 1) hc dX6_send_52 (by decide) ?_
            refine rm_iload hc dX6_send_53 rfl ?_
            refine rm_ishl hc dX6_send_55 (fun v_63 e_63 => ?_)
            obtain rfl : v_63 = 4 := e_63.trans (by decide)
            clear e_63
            refine rm_ior hc dX6_send_56 (fun v_64 e_64 => ?_)
            obtain rfl : v_64 = 4 := e_64.trans (by decide)
            clear e_64
            refine rm_istore_n (ls' := [(0, .ref (ad k 0 0)), (1, .int num), (2, .int msk), (3, .int 4), (4, .int 2), (5, .int 1)]) hc dX6_send_57 rfl (by decide) rfl ?_
            refine rm_iinc (v := 3) (ls' := [(0, .ref (ad k 0 0)), (1, .int num), (2, .int msk), (3, .int 4), (4, .int 3), (5, .int 1)]) hc dX6_send_58 rfl (by decide) (by decide) rfl ?_
            refine rm_goto (tgt := 5) hc dX6_send_61 (by decide) ?_
            have hs3 : sendS x k msk num mm 3 = (4, y_59) := by rw [sendS_y hb_57, hs2]; rw [if_pos (e_59.symm.trans c_60), ← ey_59]; exact Prod.ext (show (0 : Int32) ||| (1 <<< (nI 2 &&& 31)) = 4 by decide) rfl
            refine rm_sub [0, 1, 2, 3, 4] rfl ?_
            refine rm_iload hc dX6_send_5 rfl ?_
            refine rm_iconst (v := 3) hc dX6_send_7 (by decide) ?_
            refine rm_icmp_ge (tgt := 64) hc dX6_send_8 (by decide) (fun _ => ?_) (fun h => absurd (by decide) h)
            refine rm_iload_n hc dX6_send_64 rfl rfl ?_
            exact rm_iret hc dX6_send_65 ⟨by rw [hs3], by rw [hs3]⟩
        · --bit 0
          refine rm_icmp_ne (tgt := 25) hc dX6_send_18 (by decide) (fun _ => ?_) (fun h => absurd h (by rw [e_56, e_55]; exact hb_57))
          refine rm_iconst (v := 0) hc dX6_send_25 (by decide) ?_
          refine rm_istore (ls' := [(0, .ref (ad k 0 0)), (1, .int num), (2, .int msk), (3, .int 0), (4, .int 2), (5, .int 0)]) hc dX6_send_26 (by decide) rfl ?_
          refine rm_iload hc dX6_send_28 rfl ?_
          refine rm_if_eq (tgt := 58) hc dX6_send_30 (by decide) (fun _ => ?_) (fun h => absurd (by decide) h)
          refine rm_iinc (v := 3) (ls' := [(0, .ref (ad k 0 0)), (1, .int num), (2, .int msk), (3, .int 0), (4, .int 3), (5, .int 0)]) hc dX6_send_58 rfl (by decide) (by decide) rfl ?_
          refine rm_goto (tgt := 5) hc dX6_send_61 (by decide) ?_
          have hs3 : sendS x k msk num mm 3 = (0, y_6) := (sendS_n hb_57).trans hs2
          refine rm_sub [0, 1, 2, 3, 4] rfl ?_
          refine rm_iload hc dX6_send_5 rfl ?_
          refine rm_iconst (v := 3) hc dX6_send_7 (by decide) ?_
          refine rm_icmp_ge (tgt := 64) hc dX6_send_8 (by decide) (fun _ => ?_) (fun h => absurd (by decide) h)
          refine rm_iload_n hc dX6_send_64 rfl rfl ?_
          exact rm_iret hc dX6_send_65 ⟨by rw [hs3], by rw [hs3]⟩
    · --
      refine rm_iload_n hc dX6_send_51 rfl rfl ?_
      refine rm_iconst (v := 1) hc dX6_send_52 (by decide) ?_
      refine rm_iload hc dX6_send_53 rfl ?_
      refine rm_ishl hc dX6_send_55 (fun v_70 e_70 => ?_)
      obtain rfl : v_70 = 1 := e_70.trans (by decide)
      clear e_70
      refine rm_ior hc dX6_send_56 (fun v_71 e_71 => ?_)
      obtain rfl : v_71 = 1 := e_71.trans (by decide)
      clear e_71
      refine rm_istore_n (ls' := [(0, .ref (ad k 0 0)), (1, .int num), (2, .int msk), (3, .int 1), (4, .int 0), (5, .int 1)]) hc dX6_send_57 rfl (by decide) rfl ?_
      refine rm_iinc (v := 1) (ls' := [(0, .ref (ad k 0 0)), (1, .int num), (2, .int msk), (3, .int 1), (4, .int 1), (5, .int 1)]) hc dX6_send_58 rfl (by decide) (by decide) rfl ?_
      refine rm_goto (tgt := 5) hc dX6_send_61 (by decide) ?_
      have hs1 : sendS x k msk num mm 1 = (1, y_6) := by rw [sendS_y hb_4, hs0]; rw [if_pos (e_6.symm.trans c_7), ← ey_6]; exact Prod.ext (show (0 : Int32) ||| (1 <<< (nI 0 &&& 31)) = 1 by decide) rfl
      refine rm_sub [0, 1, 2, 3, 4] rfl ?_
      refine rm_iload hc dX6_send_5 rfl ?_
      refine rm_iconst (v := 3) hc dX6_send_7 (by decide) ?_
      refine rm_icmp_ge (tgt := 64) hc dX6_send_8 (by decide) (fun h => absurd h (by decide)) (fun _ => ?_)
      refine rm_iload_n hc dX6_send_11 rfl rfl ?_
      refine rm_iload hc dX6_send_12 rfl ?_
      refine rm_ishr hc dX6_send_14 (fun v_74 e_74 => ?_)
      refine rm_iconst (v := 1) hc dX6_send_15 (by decide) ?_
      refine rm_iand hc dX6_send_16 (fun v_75 e_75 => ?_)
      refine rm_iconst (v := 1) hc dX6_send_17 (by decide) ?_
      by_cases hb_76 : (msk >>> (nI 1 &&& 31)) &&& 1 = 1
      · --bit 1
        refine rm_icmp_ne (tgt := 25) hc dX6_send_18 (by decide) (fun h => absurd (by rw [e_75, e_74]; exact hb_76) h) (fun _ => ?_)
        refine rm_iconst (v := 1) hc dX6_send_21 (by decide) ?_
        refine rm_goto (tgt := 26) hc dX6_send_22 (by decide) ?_
        refine rm_istore (ls' := [(0, .ref (ad k 0 0)), (1, .int num), (2, .int msk), (3, .int 1), (4, .int 1), (5, .int 1)]) hc dX6_send_26 (by decide) rfl ?_
        refine rm_iload hc dX6_send_28 rfl ?_
        refine rm_if_eq (tgt := 58) hc dX6_send_30 (by decide) (fun h => absurd h (by decide)) (fun _ => ?_)
        refine rm_aload_n hc dX6_send_33 rfl rfl ?_
        refine rm_get hc dX6_send_34 fl_X6_22 (dm_0 (by omega)) rfl rfl ?_
        refine rm_iload hc dX6_send_37 rfl ?_
        refine rm_aald (t0 := 2) (i := 1) (v := .ref (ad k 4 1)) hc dX6_send_39 (dm_3 (by omega)) rfl rfl (by omega) (by decide) rfl rfl ?_
        refine rm_iload_n hc dX6_send_40 rfl rfl ?_
        refine rm_aload_n hc dX6_send_41 rfl rfl ?_
        refine rm_get hc dX6_send_42 fl_X6_37 (dm_0 (by omega)) rfl rfl ?_
        refine rm_calliV (As := [.int num, .ref (ad k 8 0)]) (rest := []) hc dX6_send_45 (c_X1_hear hI y_6 (k := k) (d := 1) (k2 := k) (by omega) (by omega) (by omega) (by omega) num _ mm (by omega) (by have h5 := sendS_lo (x := x) (k := k) (msk := msk) (num := num) (mm := mm) (n := 1) (by omega) 1; rw [hs1] at h5; exact h5.trans hw) rfl) mv_X6_94 (dm_4 (by omega) (by omega) (by omega)) rfl rfl (hn := rfl) (hst := rfl) (hw := Nat.le_of_ble_eq_true rfl) (hR := ⟨⟨rfl, rfl⟩, Nat.le_of_ble_eq_true rfl, Nat.le_of_ble_eq_true rfl⟩) (hnc := ⟨Nat.zero_le _, Nat.zero_le _⟩) (fun r_78 y_78 h_78 => ?_)
        obtain ⟨e_78, ey_78⟩ := h_78
        refine rm_if_ne (tgt := 58) hc dX6_send_48 (by decide) (fun c_79 => ?_) (fun c_79 => ?_)
        · --
          refine rm_iinc (v := 2) (ls' := [(0, .ref (ad k 0 0)), (1, .int num), (2, .int msk), (3, .int 1), (4, .int 2), (5, .int 1)]) hc dX6_send_58 rfl (by decide) (by decide) rfl ?_
          refine rm_goto (tgt := 5) hc dX6_send_61 (by decide) ?_
          have hs2 : sendS x k msk num mm 2 = (1, y_78) := by rw [sendS_y hb_76, hs1]; rw [if_neg (fun h => c_79 (e_78.trans h)), ← ey_78]
          refine rm_sub [0, 1, 2, 3, 4] rfl ?_
          refine rm_iload hc dX6_send_5 rfl ?_
          refine rm_iconst (v := 3) hc dX6_send_7 (by decide) ?_
          refine rm_icmp_ge (tgt := 64) hc dX6_send_8 (by decide) (fun h => absurd h (by decide)) (fun _ => ?_)
          refine rm_iload_n hc dX6_send_11 rfl rfl ?_
          refine rm_iload hc dX6_send_12 rfl ?_
          refine rm_ishr hc dX6_send_14 (fun v_82 e_82 => ?_)
          refine rm_iconst (v := 1) hc dX6_send_15 (by decide) ?_
          refine rm_iand hc dX6_send_16 (fun v_83 e_83 => ?_)
          refine rm_iconst (v := 1) hc dX6_send_17 (by decide) ?_
          by_cases hb_84 : (msk >>> (nI 2 &&& 31)) &&& 1 = 1
          · --bit 1
            refine rm_icmp_ne (tgt := 25) hc dX6_send_18 (by decide) (fun h => absurd (by rw [e_83, e_82]; exact hb_84) h) (fun _ => ?_)
            refine rm_iconst (v := 1) hc dX6_send_21 (by decide) ?_
            refine rm_goto (tgt := 26) hc dX6_send_22 (by decide) ?_
            refine rm_istore (ls' := [(0, .ref (ad k 0 0)), (1, .int num), (2, .int msk), (3, .int 1), (4, .int 2), (5, .int 1)]) hc dX6_send_26 (by decide) rfl ?_
            refine rm_iload hc dX6_send_28 rfl ?_
            refine rm_if_eq (tgt := 58) hc dX6_send_30 (by decide) (fun h => absurd h (by decide)) (fun _ => ?_)
            refine rm_aload_n hc dX6_send_33 rfl rfl ?_
            refine rm_get hc dX6_send_34 fl_X6_22 (dm_0 (by omega)) rfl rfl ?_
            refine rm_iload hc dX6_send_37 rfl ?_
            refine rm_aald (t0 := 2) (i := 2) (v := .ref (ad k 4 2)) hc dX6_send_39 (dm_3 (by omega)) rfl rfl (by omega) (by decide) rfl rfl ?_
            refine rm_iload_n hc dX6_send_40 rfl rfl ?_
            refine rm_aload_n hc dX6_send_41 rfl rfl ?_
            refine rm_get hc dX6_send_42 fl_X6_37 (dm_0 (by omega)) rfl rfl ?_
            refine rm_calliV (As := [.int num, .ref (ad k 8 0)]) (rest := []) hc dX6_send_45 (c_X1_hear hI y_78 (k := k) (d := 2) (k2 := k) (by omega) (by omega) (by omega) (by omega) num _ mm (by omega) (by have h5 := sendS_lo (x := x) (k := k) (msk := msk) (num := num) (mm := mm) (n := 1) (by omega) 2; rw [hs2] at h5; exact h5.trans hw) rfl) mv_X6_94 (dm_4 (by omega) (by omega) (by omega)) rfl rfl (hn := rfl) (hst := rfl) (hw := Nat.le_of_ble_eq_true rfl) (hR := ⟨⟨rfl, rfl⟩, Nat.le_of_ble_eq_true rfl, Nat.le_of_ble_eq_true rfl⟩) (hnc := ⟨Nat.zero_le _, Nat.zero_le _⟩) (fun r_86 y_86 h_86 => ?_)
            obtain ⟨e_86, ey_86⟩ := h_86
            refine rm_if_ne (tgt := 58) hc dX6_send_48 (by decide) (fun c_87 => ?_) (fun c_87 => ?_)
            · --
              refine rm_iinc (v := 3) (ls' := [(0, .ref (ad k 0 0)), (1, .int num), (2, .int msk), (3, .int 1), (4, .int 3), (5, .int 1)]) hc dX6_send_58 rfl (by decide) (by decide) rfl ?_
              refine rm_goto (tgt := 5) hc dX6_send_61 (by decide) ?_
              have hs3 : sendS x k msk num mm 3 = (1, y_86) := by rw [sendS_y hb_84, hs2]; rw [if_neg (fun h => c_87 (e_86.trans h)), ← ey_86]
              refine rm_sub [0, 1, 2, 3, 4] rfl ?_
              refine rm_iload hc dX6_send_5 rfl ?_
              refine rm_iconst (v := 3) hc dX6_send_7 (by decide) ?_
              refine rm_icmp_ge (tgt := 64) hc dX6_send_8 (by decide) (fun _ => ?_) (fun h => absurd (by decide) h)
              refine rm_iload_n hc dX6_send_64 rfl rfl ?_
              exact rm_iret hc dX6_send_65 ⟨by rw [hs3], by rw [hs3]⟩
            · --
              refine rm_iload_n hc dX6_send_51 rfl rfl ?_
              refine rm_iconst (v := 1) hc dX6_send_52 (by decide) ?_
              refine rm_iload hc dX6_send_53 rfl ?_
              refine rm_ishl hc dX6_send_55 (fun v_90 e_90 => ?_)
              obtain rfl : v_90 = 4 := e_90.trans (by decide)
              clear e_90
              refine rm_ior hc dX6_send_56 (fun v_91 e_91 => ?_)
              obtain rfl : v_91 = 5 := e_91.trans (by decide)
              clear e_91
              refine rm_istore_n (ls' := [(0, .ref (ad k 0 0)), (1, .int num), (2, .int msk), (3, .int 5), (4, .int 2), (5, .int 1)]) hc dX6_send_57 rfl (by decide) rfl ?_
              refine rm_iinc (v := 3) (ls' := [(0, .ref (ad k 0 0)), (1, .int num), (2, .int msk), (3, .int 5), (4, .int 3), (5, .int 1)]) hc dX6_send_58 rfl (by decide) (by decide) rfl ?_
              refine rm_goto (tgt := 5) hc dX6_send_61 (by decide) ?_
              have hs3 : sendS x k msk num mm 3 = (5, y_86) := by rw [sendS_y hb_84, hs2]; rw [if_pos (e_86.symm.trans c_87), ← ey_86]; exact Prod.ext (show (1 : Int32) ||| (1 <<< (nI 2 &&& 31)) = 5 by decide) rfl
              refine rm_sub [0, 1, 2, 3, 4] rfl ?_
              refine rm_iload hc dX6_send_5 rfl ?_
              refine rm_iconst (v := 3) hc dX6_send_7 (by decide) ?_
              refine rm_icmp_ge (tgt := 64) hc dX6_send_8 (by decide) (fun _ => ?_) (fun h => absurd (by decide) h)
              refine rm_iload_n hc dX6_send_64 rfl rfl ?_
              exact rm_iret hc dX6_send_65 ⟨by rw [hs3], by rw [hs3]⟩
          · --bit 0
            refine rm_icmp_ne (tgt := 25) hc dX6_send_18 (by decide) (fun _ => ?_) (fun h => absurd h (by rw [e_83, e_82]; exact hb_84))
            refine rm_iconst (v := 0) hc dX6_send_25 (by decide) ?_
            refine rm_istore (ls' := [(0, .ref (ad k 0 0)), (1, .int num), (2, .int msk), (3, .int 1), (4, .int 2), (5, .int 0)]) hc dX6_send_26 (by decide) rfl ?_
            refine rm_iload hc dX6_send_28 rfl ?_
            refine rm_if_eq (tgt := 58) hc dX6_send_30 (by decide) (fun _ => ?_) (fun h => absurd (by decide) h)
            refine rm_iinc (v := 3) (ls' := [(0, .ref (ad k 0 0)), (1, .int num), (2, .int msk), (3, .int 1), (4, .int 3), (5, .int 0)]) hc dX6_send_58 rfl (by decide) (by decide) rfl ?_
            refine rm_goto (tgt := 5) hc dX6_send_61 (by decide) ?_
            have hs3 : sendS x k msk num mm 3 = (1, y_78) := (sendS_n hb_84).trans hs2
            refine rm_sub [0, 1, 2, 3, 4] rfl ?_
            refine rm_iload hc dX6_send_5 rfl ?_
            refine rm_iconst (v := 3) hc dX6_send_7 (by decide) ?_
            refine rm_icmp_ge (tgt := 64) hc dX6_send_8 (by decide) (fun _ => ?_) (fun h => absurd (by decide) h)
            refine rm_iload_n hc dX6_send_64 rfl rfl ?_
            exact rm_iret hc dX6_send_65 ⟨by rw [hs3], by rw [hs3]⟩
        · --
          refine rm_iload_n hc dX6_send_51 rfl rfl ?_
          refine rm_iconst (v := 1) hc dX6_send_52 (by decide) ?_
          refine rm_iload hc dX6_send_53 rfl ?_
          refine rm_ishl hc dX6_send_55 (fun v_97 e_97 => ?_)
          obtain rfl : v_97 = 2 := e_97.trans (by decide)
          clear e_97
          refine rm_ior hc dX6_send_56 (fun v_98 e_98 => ?_)
          obtain rfl : v_98 = 3 := e_98.trans (by decide)
          clear e_98
          refine rm_istore_n (ls' := [(0, .ref (ad k 0 0)), (1, .int num), (2, .int msk), (3, .int 3), (4, .int 1), (5, .int 1)]) hc dX6_send_57 rfl (by decide) rfl ?_
          refine rm_iinc (v := 2) (ls' := [(0, .ref (ad k 0 0)), (1, .int num), (2, .int msk), (3, .int 3), (4, .int 2), (5, .int 1)]) hc dX6_send_58 rfl (by decide) (by decide) rfl ?_
          refine rm_goto (tgt := 5) hc dX6_send_61 (by decide) ?_
          have hs2 : sendS x k msk num mm 2 = (3, y_78) := by rw [sendS_y hb_76, hs1]; rw [if_pos (e_78.symm.trans c_79), ← ey_78]; exact Prod.ext (show (1 : Int32) ||| (1 <<< (nI 1 &&& 31)) = 3 by decide) rfl
          refine rm_sub [0, 1, 2, 3, 4] rfl ?_
          refine rm_iload hc dX6_send_5 rfl ?_
          refine rm_iconst (v := 3) hc dX6_send_7 (by decide) ?_
          refine rm_icmp_ge (tgt := 64) hc dX6_send_8 (by decide) (fun h => absurd h (by decide)) (fun _ => ?_)
          refine rm_iload_n hc dX6_send_11 rfl rfl ?_
          refine rm_iload hc dX6_send_12 rfl ?_
          refine rm_ishr hc dX6_send_14 (fun v_101 e_101 => ?_)
          refine rm_iconst (v := 1) hc dX6_send_15 (by decide) ?_
          refine rm_iand hc dX6_send_16 (fun v_102 e_102 => ?_)
          refine rm_iconst (v := 1) hc dX6_send_17 (by decide) ?_
          by_cases hb_103 : (msk >>> (nI 2 &&& 31)) &&& 1 = 1
          · --bit 1
            refine rm_icmp_ne (tgt := 25) hc dX6_send_18 (by decide) (fun h => absurd (by rw [e_102, e_101]; exact hb_103) h) (fun _ => ?_)
            refine rm_iconst (v := 1) hc dX6_send_21 (by decide) ?_
            refine rm_goto (tgt := 26) hc dX6_send_22 (by decide) ?_
            refine rm_istore (ls' := [(0, .ref (ad k 0 0)), (1, .int num), (2, .int msk), (3, .int 3), (4, .int 2), (5, .int 1)]) hc dX6_send_26 (by decide) rfl ?_
            refine rm_iload hc dX6_send_28 rfl ?_
            refine rm_if_eq (tgt := 58) hc dX6_send_30 (by decide) (fun h => absurd h (by decide)) (fun _ => ?_)
            refine rm_aload_n hc dX6_send_33 rfl rfl ?_
            refine rm_get hc dX6_send_34 fl_X6_22 (dm_0 (by omega)) rfl rfl ?_
            refine rm_iload hc dX6_send_37 rfl ?_
            refine rm_aald (t0 := 2) (i := 2) (v := .ref (ad k 4 2)) hc dX6_send_39 (dm_3 (by omega)) rfl rfl (by omega) (by decide) rfl rfl ?_
            refine rm_iload_n hc dX6_send_40 rfl rfl ?_
            refine rm_aload_n hc dX6_send_41 rfl rfl ?_
            refine rm_get hc dX6_send_42 fl_X6_37 (dm_0 (by omega)) rfl rfl ?_
            refine rm_calliV (As := [.int num, .ref (ad k 8 0)]) (rest := []) hc dX6_send_45 (c_X1_hear hI y_78 (k := k) (d := 2) (k2 := k) (by omega) (by omega) (by omega) (by omega) num _ mm (by omega) (by have h5 := sendS_lo (x := x) (k := k) (msk := msk) (num := num) (mm := mm) (n := 1) (by omega) 2; rw [hs2] at h5; exact h5.trans hw) rfl) mv_X6_94 (dm_4 (by omega) (by omega) (by omega)) rfl rfl (hn := rfl) (hst := rfl) (hw := Nat.le_of_ble_eq_true rfl) (hR := ⟨⟨rfl, rfl⟩, Nat.le_of_ble_eq_true rfl, Nat.le_of_ble_eq_true rfl⟩) (hnc := ⟨Nat.zero_le _, Nat.zero_le _⟩) (fun r_105 y_105 h_105 => ?_)
            obtain ⟨e_105, ey_105⟩ := h_105
            refine rm_if_ne (tgt := 58) hc dX6_send_48 (by decide) (fun c_106 => ?_) (fun c_106 => ?_)
            · --
              refine rm_iinc (v := 3) (ls' := [(0, .ref (ad k 0 0)), (1, .int num), (2, .int msk), (3, .int 3), (4, .int 3), (5, .int 1)]) hc dX6_send_58 rfl (by decide) (by decide) rfl ?_
              refine rm_goto (tgt := 5) hc dX6_send_61 (by decide) ?_
              have hs3 : sendS x k msk num mm 3 = (3, y_105) := by rw [sendS_y hb_103, hs2]; rw [if_neg (fun h => c_106 (e_105.trans h)), ← ey_105]
              refine rm_sub [0, 1, 2, 3, 4] rfl ?_
              refine rm_iload hc dX6_send_5 rfl ?_
              refine rm_iconst (v := 3) hc dX6_send_7 (by decide) ?_
              refine rm_icmp_ge (tgt := 64) hc dX6_send_8 (by decide) (fun _ => ?_) (fun h => absurd (by decide) h)
              refine rm_iload_n hc dX6_send_64 rfl rfl ?_
              exact rm_iret hc dX6_send_65 ⟨by rw [hs3], by rw [hs3]⟩
            · --
              refine rm_iload_n hc dX6_send_51 rfl rfl ?_
              refine rm_iconst (v := 1) hc dX6_send_52 (by decide) ?_
              refine rm_iload hc dX6_send_53 rfl ?_
              refine rm_ishl hc dX6_send_55 (fun v_109 e_109 => ?_)
              obtain rfl : v_109 = 4 := e_109.trans (by decide)
              clear e_109
              refine rm_ior hc dX6_send_56 (fun v_110 e_110 => ?_)
              obtain rfl : v_110 = 7 := e_110.trans (by decide)
              clear e_110
              refine rm_istore_n (ls' := [(0, .ref (ad k 0 0)), (1, .int num), (2, .int msk), (3, .int 7), (4, .int 2), (5, .int 1)]) hc dX6_send_57 rfl (by decide) rfl ?_
              refine rm_iinc (v := 3) (ls' := [(0, .ref (ad k 0 0)), (1, .int num), (2, .int msk), (3, .int 7), (4, .int 3), (5, .int 1)]) hc dX6_send_58 rfl (by decide) (by decide) rfl ?_
              refine rm_goto (tgt := 5) hc dX6_send_61 (by decide) ?_
              have hs3 : sendS x k msk num mm 3 = (7, y_105) := by rw [sendS_y hb_103, hs2]; rw [if_pos (e_105.symm.trans c_106), ← ey_105]; exact Prod.ext (show (3 : Int32) ||| (1 <<< (nI 2 &&& 31)) = 7 by decide) rfl
              refine rm_sub [0, 1, 2, 3, 4] rfl ?_
              refine rm_iload hc dX6_send_5 rfl ?_
              refine rm_iconst (v := 3) hc dX6_send_7 (by decide) ?_
              refine rm_icmp_ge (tgt := 64) hc dX6_send_8 (by decide) (fun _ => ?_) (fun h => absurd (by decide) h)
              refine rm_iload_n hc dX6_send_64 rfl rfl ?_
              exact rm_iret hc dX6_send_65 ⟨by rw [hs3], by rw [hs3]⟩
          · --bit 0
            refine rm_icmp_ne (tgt := 25) hc dX6_send_18 (by decide) (fun _ => ?_) (fun h => absurd h (by rw [e_102, e_101]; exact hb_103))
            refine rm_iconst (v := 0) hc dX6_send_25 (by decide) ?_
            refine rm_istore (ls' := [(0, .ref (ad k 0 0)), (1, .int num), (2, .int msk), (3, .int 3), (4, .int 2), (5, .int 0)]) hc dX6_send_26 (by decide) rfl ?_
            refine rm_iload hc dX6_send_28 rfl ?_
            refine rm_if_eq (tgt := 58) hc dX6_send_30 (by decide) (fun _ => ?_) (fun h => absurd (by decide) h)
            refine rm_iinc (v := 3) (ls' := [(0, .ref (ad k 0 0)), (1, .int num), (2, .int msk), (3, .int 3), (4, .int 3), (5, .int 0)]) hc dX6_send_58 rfl (by decide) (by decide) rfl ?_
            refine rm_goto (tgt := 5) hc dX6_send_61 (by decide) ?_
            have hs3 : sendS x k msk num mm 3 = (3, y_78) := (sendS_n hb_103).trans hs2
            refine rm_sub [0, 1, 2, 3, 4] rfl ?_
            refine rm_iload hc dX6_send_5 rfl ?_
            refine rm_iconst (v := 3) hc dX6_send_7 (by decide) ?_
            refine rm_icmp_ge (tgt := 64) hc dX6_send_8 (by decide) (fun _ => ?_) (fun h => absurd (by decide) h)
            refine rm_iload_n hc dX6_send_64 rfl rfl ?_
            exact rm_iret hc dX6_send_65 ⟨by rw [hs3], by rw [hs3]⟩
      · --bit 0
        refine rm_icmp_ne (tgt := 25) hc dX6_send_18 (by decide) (fun _ => ?_) (fun h => absurd h (by rw [e_75, e_74]; exact hb_76))
        refine rm_iconst (v := 0) hc dX6_send_25 (by decide) ?_
        refine rm_istore (ls' := [(0, .ref (ad k 0 0)), (1, .int num), (2, .int msk), (3, .int 1), (4, .int 1), (5, .int 0)]) hc dX6_send_26 (by decide) rfl ?_
        refine rm_iload hc dX6_send_28 rfl ?_
        refine rm_if_eq (tgt := 58) hc dX6_send_30 (by decide) (fun _ => ?_) (fun h => absurd (by decide) h)
        refine rm_iinc (v := 2) (ls' := [(0, .ref (ad k 0 0)), (1, .int num), (2, .int msk), (3, .int 1), (4, .int 2), (5, .int 0)]) hc dX6_send_58 rfl (by decide) (by decide) rfl ?_
        refine rm_goto (tgt := 5) hc dX6_send_61 (by decide) ?_
        have hs2 : sendS x k msk num mm 2 = (1, y_6) := (sendS_n hb_76).trans hs1
        refine rm_sub [0, 1, 2, 3, 4] rfl ?_
        refine rm_iload hc dX6_send_5 rfl ?_
        refine rm_iconst (v := 3) hc dX6_send_7 (by decide) ?_
        refine rm_icmp_ge (tgt := 64) hc dX6_send_8 (by decide) (fun h => absurd h (by decide)) (fun _ => ?_)
        refine rm_iload_n hc dX6_send_11 rfl rfl ?_
        refine rm_iload hc dX6_send_12 rfl ?_
        refine rm_ishr hc dX6_send_14 (fun v_119 e_119 => ?_)
        refine rm_iconst (v := 1) hc dX6_send_15 (by decide) ?_
        refine rm_iand hc dX6_send_16 (fun v_120 e_120 => ?_)
        refine rm_iconst (v := 1) hc dX6_send_17 (by decide) ?_
        by_cases hb_121 : (msk >>> (nI 2 &&& 31)) &&& 1 = 1
        · --bit 1
          refine rm_icmp_ne (tgt := 25) hc dX6_send_18 (by decide) (fun h => absurd (by rw [e_120, e_119]; exact hb_121) h) (fun _ => ?_)
          refine rm_iconst (v := 1) hc dX6_send_21 (by decide) ?_
          refine rm_goto (tgt := 26) hc dX6_send_22 (by decide) ?_
          refine rm_istore (ls' := [(0, .ref (ad k 0 0)), (1, .int num), (2, .int msk), (3, .int 1), (4, .int 2), (5, .int 1)]) hc dX6_send_26 (by decide) rfl ?_
          refine rm_iload hc dX6_send_28 rfl ?_
          refine rm_if_eq (tgt := 58) hc dX6_send_30 (by decide) (fun h => absurd h (by decide)) (fun _ => ?_)
          refine rm_aload_n hc dX6_send_33 rfl rfl ?_
          refine rm_get hc dX6_send_34 fl_X6_22 (dm_0 (by omega)) rfl rfl ?_
          refine rm_iload hc dX6_send_37 rfl ?_
          refine rm_aald (t0 := 2) (i := 2) (v := .ref (ad k 4 2)) hc dX6_send_39 (dm_3 (by omega)) rfl rfl (by omega) (by decide) rfl rfl ?_
          refine rm_iload_n hc dX6_send_40 rfl rfl ?_
          refine rm_aload_n hc dX6_send_41 rfl rfl ?_
          refine rm_get hc dX6_send_42 fl_X6_37 (dm_0 (by omega)) rfl rfl ?_
          refine rm_calliV (As := [.int num, .ref (ad k 8 0)]) (rest := []) hc dX6_send_45 (c_X1_hear hI y_6 (k := k) (d := 2) (k2 := k) (by omega) (by omega) (by omega) (by omega) num _ mm (by omega) (by have h5 := sendS_lo (x := x) (k := k) (msk := msk) (num := num) (mm := mm) (n := 1) (by omega) 2; rw [hs2] at h5; exact h5.trans hw) rfl) mv_X6_94 (dm_4 (by omega) (by omega) (by omega)) rfl rfl (hn := rfl) (hst := rfl) (hw := Nat.le_of_ble_eq_true rfl) (hR := ⟨⟨rfl, rfl⟩, Nat.le_of_ble_eq_true rfl, Nat.le_of_ble_eq_true rfl⟩) (hnc := ⟨Nat.zero_le _, Nat.zero_le _⟩) (fun r_123 y_123 h_123 => ?_)
          obtain ⟨e_123, ey_123⟩ := h_123
          refine rm_if_ne (tgt := 58) hc dX6_send_48 (by decide) (fun c_124 => ?_) (fun c_124 => ?_)
          · --
            refine rm_iinc (v := 3) (ls' := [(0, .ref (ad k 0 0)), (1, .int num), (2, .int msk), (3, .int 1), (4, .int 3), (5, .int 1)]) hc dX6_send_58 rfl (by decide) (by decide) rfl ?_
            refine rm_goto (tgt := 5) hc dX6_send_61 (by decide) ?_
            have hs3 : sendS x k msk num mm 3 = (1, y_123) := by rw [sendS_y hb_121, hs2]; rw [if_neg (fun h => c_124 (e_123.trans h)), ← ey_123]
            refine rm_sub [0, 1, 2, 3, 4] rfl ?_
            refine rm_iload hc dX6_send_5 rfl ?_
            refine rm_iconst (v := 3) hc dX6_send_7 (by decide) ?_
            refine rm_icmp_ge (tgt := 64) hc dX6_send_8 (by decide) (fun _ => ?_) (fun h => absurd (by decide) h)
            refine rm_iload_n hc dX6_send_64 rfl rfl ?_
            exact rm_iret hc dX6_send_65 ⟨by rw [hs3], by rw [hs3]⟩
          · --
            refine rm_iload_n hc dX6_send_51 rfl rfl ?_
            refine rm_iconst (v := 1) hc dX6_send_52 (by decide) ?_
            refine rm_iload hc dX6_send_53 rfl ?_
            refine rm_ishl hc dX6_send_55 (fun v_127 e_127 => ?_)
            obtain rfl : v_127 = 4 := e_127.trans (by decide)
            clear e_127
            refine rm_ior hc dX6_send_56 (fun v_128 e_128 => ?_)
            obtain rfl : v_128 = 5 := e_128.trans (by decide)
            clear e_128
            refine rm_istore_n (ls' := [(0, .ref (ad k 0 0)), (1, .int num), (2, .int msk), (3, .int 5), (4, .int 2), (5, .int 1)]) hc dX6_send_57 rfl (by decide) rfl ?_
            refine rm_iinc (v := 3) (ls' := [(0, .ref (ad k 0 0)), (1, .int num), (2, .int msk), (3, .int 5), (4, .int 3), (5, .int 1)]) hc dX6_send_58 rfl (by decide) (by decide) rfl ?_
            refine rm_goto (tgt := 5) hc dX6_send_61 (by decide) ?_
            have hs3 : sendS x k msk num mm 3 = (5, y_123) := by rw [sendS_y hb_121, hs2]; rw [if_pos (e_123.symm.trans c_124), ← ey_123]; exact Prod.ext (show (1 : Int32) ||| (1 <<< (nI 2 &&& 31)) = 5 by decide) rfl
            refine rm_sub [0, 1, 2, 3, 4] rfl ?_
            refine rm_iload hc dX6_send_5 rfl ?_
            refine rm_iconst (v := 3) hc dX6_send_7 (by decide) ?_
            refine rm_icmp_ge (tgt := 64) hc dX6_send_8 (by decide) (fun _ => ?_) (fun h => absurd (by decide) h)
            refine rm_iload_n hc dX6_send_64 rfl rfl ?_
            exact rm_iret hc dX6_send_65 ⟨by rw [hs3], by rw [hs3]⟩
        · --bit 0
          refine rm_icmp_ne (tgt := 25) hc dX6_send_18 (by decide) (fun _ => ?_) (fun h => absurd h (by rw [e_120, e_119]; exact hb_121))
          refine rm_iconst (v := 0) hc dX6_send_25 (by decide) ?_
          refine rm_istore (ls' := [(0, .ref (ad k 0 0)), (1, .int num), (2, .int msk), (3, .int 1), (4, .int 2), (5, .int 0)]) hc dX6_send_26 (by decide) rfl ?_
          refine rm_iload hc dX6_send_28 rfl ?_
          refine rm_if_eq (tgt := 58) hc dX6_send_30 (by decide) (fun _ => ?_) (fun h => absurd (by decide) h)
          refine rm_iinc (v := 3) (ls' := [(0, .ref (ad k 0 0)), (1, .int num), (2, .int msk), (3, .int 1), (4, .int 3), (5, .int 0)]) hc dX6_send_58 rfl (by decide) (by decide) rfl ?_
          refine rm_goto (tgt := 5) hc dX6_send_61 (by decide) ?_
          have hs3 : sendS x k msk num mm 3 = (1, y_6) := (sendS_n hb_121).trans hs2
          refine rm_sub [0, 1, 2, 3, 4] rfl ?_
          refine rm_iload hc dX6_send_5 rfl ?_
          refine rm_iconst (v := 3) hc dX6_send_7 (by decide) ?_
          refine rm_icmp_ge (tgt := 64) hc dX6_send_8 (by decide) (fun _ => ?_) (fun h => absurd (by decide) h)
          refine rm_iload_n hc dX6_send_64 rfl rfl ?_
          exact rm_iret hc dX6_send_65 ⟨by rw [hs3], by rw [hs3]⟩
  · --bit 0
    refine rm_icmp_ne (tgt := 25) hc dX6_send_18 (by decide) (fun _ => ?_) (fun h => absurd h (by rw [e_3, e_2]; exact hb_4))
    refine rm_iconst (v := 0) hc dX6_send_25 (by decide) ?_
    refine rm_istore (ls' := [(0, .ref (ad k 0 0)), (1, .int num), (2, .int msk), (3, .int 0), (4, .int 0), (5, .int 0)]) hc dX6_send_26 (by decide) rfl ?_
    refine rm_iload hc dX6_send_28 rfl ?_
    refine rm_if_eq (tgt := 58) hc dX6_send_30 (by decide) (fun _ => ?_) (fun h => absurd (by decide) h)
    refine rm_iinc (v := 1) (ls' := [(0, .ref (ad k 0 0)), (1, .int num), (2, .int msk), (3, .int 0), (4, .int 1), (5, .int 0)]) hc dX6_send_58 rfl (by decide) (by decide) rfl ?_
    refine rm_goto (tgt := 5) hc dX6_send_61 (by decide) ?_
    have hs1 : sendS x k msk num mm 1 = (0, x) := (sendS_n hb_4).trans hs0
    refine rm_sub [0, 1, 2, 3, 4] rfl ?_
    refine rm_iload hc dX6_send_5 rfl ?_
    refine rm_iconst (v := 3) hc dX6_send_7 (by decide) ?_
    refine rm_icmp_ge (tgt := 64) hc dX6_send_8 (by decide) (fun h => absurd h (by decide)) (fun _ => ?_)
    refine rm_iload_n hc dX6_send_11 rfl rfl ?_
    refine rm_iload hc dX6_send_12 rfl ?_
    refine rm_ishr hc dX6_send_14 (fun v_137 e_137 => ?_)
    refine rm_iconst (v := 1) hc dX6_send_15 (by decide) ?_
    refine rm_iand hc dX6_send_16 (fun v_138 e_138 => ?_)
    refine rm_iconst (v := 1) hc dX6_send_17 (by decide) ?_
    by_cases hb_139 : (msk >>> (nI 1 &&& 31)) &&& 1 = 1
    · --bit 1
      refine rm_icmp_ne (tgt := 25) hc dX6_send_18 (by decide) (fun h => absurd (by rw [e_138, e_137]; exact hb_139) h) (fun _ => ?_)
      refine rm_iconst (v := 1) hc dX6_send_21 (by decide) ?_
      refine rm_goto (tgt := 26) hc dX6_send_22 (by decide) ?_
      refine rm_istore (ls' := [(0, .ref (ad k 0 0)), (1, .int num), (2, .int msk), (3, .int 0), (4, .int 1), (5, .int 1)]) hc dX6_send_26 (by decide) rfl ?_
      refine rm_iload hc dX6_send_28 rfl ?_
      refine rm_if_eq (tgt := 58) hc dX6_send_30 (by decide) (fun h => absurd h (by decide)) (fun _ => ?_)
      refine rm_aload_n hc dX6_send_33 rfl rfl ?_
      refine rm_get hc dX6_send_34 fl_X6_22 (dm_0 (by omega)) rfl rfl ?_
      refine rm_iload hc dX6_send_37 rfl ?_
      refine rm_aald (t0 := 2) (i := 1) (v := .ref (ad k 4 1)) hc dX6_send_39 (dm_3 (by omega)) rfl rfl (by omega) (by decide) rfl rfl ?_
      refine rm_iload_n hc dX6_send_40 rfl rfl ?_
      refine rm_aload_n hc dX6_send_41 rfl rfl ?_
      refine rm_get hc dX6_send_42 fl_X6_37 (dm_0 (by omega)) rfl rfl ?_
      refine rm_calliV (As := [.int num, .ref (ad k 8 0)]) (rest := []) hc dX6_send_45 (c_X1_hear hI x (k := k) (d := 1) (k2 := k) (by omega) (by omega) (by omega) (by omega) num _ mm (by omega) (by have h5 := sendS_lo (x := x) (k := k) (msk := msk) (num := num) (mm := mm) (n := 1) (by omega) 1; rw [hs1] at h5; exact h5.trans hw) rfl) mv_X6_94 (dm_4 (by omega) (by omega) (by omega)) rfl rfl (hn := rfl) (hst := rfl) (hw := Nat.le_of_ble_eq_true rfl) (hR := ⟨⟨rfl, rfl⟩, Nat.le_of_ble_eq_true rfl, Nat.le_of_ble_eq_true rfl⟩) (hnc := ⟨Nat.zero_le _, Nat.zero_le _⟩) (fun r_141 y_141 h_141 => ?_)
      obtain ⟨e_141, ey_141⟩ := h_141
      refine rm_if_ne (tgt := 58) hc dX6_send_48 (by decide) (fun c_142 => ?_) (fun c_142 => ?_)
      · --
        refine rm_iinc (v := 2) (ls' := [(0, .ref (ad k 0 0)), (1, .int num), (2, .int msk), (3, .int 0), (4, .int 2), (5, .int 1)]) hc dX6_send_58 rfl (by decide) (by decide) rfl ?_
        refine rm_goto (tgt := 5) hc dX6_send_61 (by decide) ?_
        have hs2 : sendS x k msk num mm 2 = (0, y_141) := by rw [sendS_y hb_139, hs1]; rw [if_neg (fun h => c_142 (e_141.trans h)), ← ey_141]
        refine rm_sub [0, 1, 2, 3, 4] rfl ?_
        refine rm_iload hc dX6_send_5 rfl ?_
        refine rm_iconst (v := 3) hc dX6_send_7 (by decide) ?_
        refine rm_icmp_ge (tgt := 64) hc dX6_send_8 (by decide) (fun h => absurd h (by decide)) (fun _ => ?_)
        refine rm_iload_n hc dX6_send_11 rfl rfl ?_
        refine rm_iload hc dX6_send_12 rfl ?_
        refine rm_ishr hc dX6_send_14 (fun v_145 e_145 => ?_)
        refine rm_iconst (v := 1) hc dX6_send_15 (by decide) ?_
        refine rm_iand hc dX6_send_16 (fun v_146 e_146 => ?_)
        refine rm_iconst (v := 1) hc dX6_send_17 (by decide) ?_
        by_cases hb_147 : (msk >>> (nI 2 &&& 31)) &&& 1 = 1
        · --bit 1
          refine rm_icmp_ne (tgt := 25) hc dX6_send_18 (by decide) (fun h => absurd (by rw [e_146, e_145]; exact hb_147) h) (fun _ => ?_)
          refine rm_iconst (v := 1) hc dX6_send_21 (by decide) ?_
          refine rm_goto (tgt := 26) hc dX6_send_22 (by decide) ?_
          refine rm_istore (ls' := [(0, .ref (ad k 0 0)), (1, .int num), (2, .int msk), (3, .int 0), (4, .int 2), (5, .int 1)]) hc dX6_send_26 (by decide) rfl ?_
          refine rm_iload hc dX6_send_28 rfl ?_
          refine rm_if_eq (tgt := 58) hc dX6_send_30 (by decide) (fun h => absurd h (by decide)) (fun _ => ?_)
          refine rm_aload_n hc dX6_send_33 rfl rfl ?_
          refine rm_get hc dX6_send_34 fl_X6_22 (dm_0 (by omega)) rfl rfl ?_
          refine rm_iload hc dX6_send_37 rfl ?_
          refine rm_aald (t0 := 2) (i := 2) (v := .ref (ad k 4 2)) hc dX6_send_39 (dm_3 (by omega)) rfl rfl (by omega) (by decide) rfl rfl ?_
          refine rm_iload_n hc dX6_send_40 rfl rfl ?_
          refine rm_aload_n hc dX6_send_41 rfl rfl ?_
          refine rm_get hc dX6_send_42 fl_X6_37 (dm_0 (by omega)) rfl rfl ?_
          refine rm_calliV (As := [.int num, .ref (ad k 8 0)]) (rest := []) hc dX6_send_45 (c_X1_hear hI y_141 (k := k) (d := 2) (k2 := k) (by omega) (by omega) (by omega) (by omega) num _ mm (by omega) (by have h5 := sendS_lo (x := x) (k := k) (msk := msk) (num := num) (mm := mm) (n := 1) (by omega) 2; rw [hs2] at h5; exact h5.trans hw) rfl) mv_X6_94 (dm_4 (by omega) (by omega) (by omega)) rfl rfl (hn := rfl) (hst := rfl) (hw := Nat.le_of_ble_eq_true rfl) (hR := ⟨⟨rfl, rfl⟩, Nat.le_of_ble_eq_true rfl, Nat.le_of_ble_eq_true rfl⟩) (hnc := ⟨Nat.zero_le _, Nat.zero_le _⟩) (fun r_149 y_149 h_149 => ?_)
          obtain ⟨e_149, ey_149⟩ := h_149
          refine rm_if_ne (tgt := 58) hc dX6_send_48 (by decide) (fun c_150 => ?_) (fun c_150 => ?_)
          · --
            refine rm_iinc (v := 3) (ls' := [(0, .ref (ad k 0 0)), (1, .int num), (2, .int msk), (3, .int 0), (4, .int 3), (5, .int 1)]) hc dX6_send_58 rfl (by decide) (by decide) rfl ?_
            refine rm_goto (tgt := 5) hc dX6_send_61 (by decide) ?_
            have hs3 : sendS x k msk num mm 3 = (0, y_149) := by rw [sendS_y hb_147, hs2]; rw [if_neg (fun h => c_150 (e_149.trans h)), ← ey_149]
            refine rm_sub [0, 1, 2, 3, 4] rfl ?_
            refine rm_iload hc dX6_send_5 rfl ?_
            refine rm_iconst (v := 3) hc dX6_send_7 (by decide) ?_
            refine rm_icmp_ge (tgt := 64) hc dX6_send_8 (by decide) (fun _ => ?_) (fun h => absurd (by decide) h)
            refine rm_iload_n hc dX6_send_64 rfl rfl ?_
            exact rm_iret hc dX6_send_65 ⟨by rw [hs3], by rw [hs3]⟩
          · --
            refine rm_iload_n hc dX6_send_51 rfl rfl ?_
            refine rm_iconst (v := 1) hc dX6_send_52 (by decide) ?_
            refine rm_iload hc dX6_send_53 rfl ?_
            refine rm_ishl hc dX6_send_55 (fun v_153 e_153 => ?_)
            obtain rfl : v_153 = 4 := e_153.trans (by decide)
            clear e_153
            refine rm_ior hc dX6_send_56 (fun v_154 e_154 => ?_)
            obtain rfl : v_154 = 4 := e_154.trans (by decide)
            clear e_154
            refine rm_istore_n (ls' := [(0, .ref (ad k 0 0)), (1, .int num), (2, .int msk), (3, .int 4), (4, .int 2), (5, .int 1)]) hc dX6_send_57 rfl (by decide) rfl ?_
            refine rm_iinc (v := 3) (ls' := [(0, .ref (ad k 0 0)), (1, .int num), (2, .int msk), (3, .int 4), (4, .int 3), (5, .int 1)]) hc dX6_send_58 rfl (by decide) (by decide) rfl ?_
            refine rm_goto (tgt := 5) hc dX6_send_61 (by decide) ?_
            have hs3 : sendS x k msk num mm 3 = (4, y_149) := by rw [sendS_y hb_147, hs2]; rw [if_pos (e_149.symm.trans c_150), ← ey_149]; exact Prod.ext (show (0 : Int32) ||| (1 <<< (nI 2 &&& 31)) = 4 by decide) rfl
            refine rm_sub [0, 1, 2, 3, 4] rfl ?_
            refine rm_iload hc dX6_send_5 rfl ?_
            refine rm_iconst (v := 3) hc dX6_send_7 (by decide) ?_
            refine rm_icmp_ge (tgt := 64) hc dX6_send_8 (by decide) (fun _ => ?_) (fun h => absurd (by decide) h)
            refine rm_iload_n hc dX6_send_64 rfl rfl ?_
            exact rm_iret hc dX6_send_65 ⟨by rw [hs3], by rw [hs3]⟩
        · --bit 0
          refine rm_icmp_ne (tgt := 25) hc dX6_send_18 (by decide) (fun _ => ?_) (fun h => absurd h (by rw [e_146, e_145]; exact hb_147))
          refine rm_iconst (v := 0) hc dX6_send_25 (by decide) ?_
          refine rm_istore (ls' := [(0, .ref (ad k 0 0)), (1, .int num), (2, .int msk), (3, .int 0), (4, .int 2), (5, .int 0)]) hc dX6_send_26 (by decide) rfl ?_
          refine rm_iload hc dX6_send_28 rfl ?_
          refine rm_if_eq (tgt := 58) hc dX6_send_30 (by decide) (fun _ => ?_) (fun h => absurd (by decide) h)
          refine rm_iinc (v := 3) (ls' := [(0, .ref (ad k 0 0)), (1, .int num), (2, .int msk), (3, .int 0), (4, .int 3), (5, .int 0)]) hc dX6_send_58 rfl (by decide) (by decide) rfl ?_
          refine rm_goto (tgt := 5) hc dX6_send_61 (by decide) ?_
          have hs3 : sendS x k msk num mm 3 = (0, y_141) := (sendS_n hb_147).trans hs2
          refine rm_sub [0, 1, 2, 3, 4] rfl ?_
          refine rm_iload hc dX6_send_5 rfl ?_
          refine rm_iconst (v := 3) hc dX6_send_7 (by decide) ?_
          refine rm_icmp_ge (tgt := 64) hc dX6_send_8 (by decide) (fun _ => ?_) (fun h => absurd (by decide) h)
          refine rm_iload_n hc dX6_send_64 rfl rfl ?_
          exact rm_iret hc dX6_send_65 ⟨by rw [hs3], by rw [hs3]⟩
      · --
        refine rm_iload_n hc dX6_send_51 rfl rfl ?_
        refine rm_iconst (v := 1) hc dX6_send_52 (by decide) ?_
        refine rm_iload hc dX6_send_53 rfl ?_
        refine rm_ishl hc dX6_send_55 (fun v_160 e_160 => ?_)
        obtain rfl : v_160 = 2 := e_160.trans (by decide)
        clear e_160
        refine rm_ior hc dX6_send_56 (fun v_161 e_161 => ?_)
        obtain rfl : v_161 = 2 := e_161.trans (by decide)
        clear e_161
        refine rm_istore_n (ls' := [(0, .ref (ad k 0 0)), (1, .int num), (2, .int msk), (3, .int 2), (4, .int 1), (5, .int 1)]) hc dX6_send_57 rfl (by decide) rfl ?_
        refine rm_iinc (v := 2) (ls' := [(0, .ref (ad k 0 0)), (1, .int num), (2, .int msk), (3, .int 2), (4, .int 2), (5, .int 1)]) hc dX6_send_58 rfl (by decide) (by decide) rfl ?_
        refine rm_goto (tgt := 5) hc dX6_send_61 (by decide) ?_
        have hs2 : sendS x k msk num mm 2 = (2, y_141) := by rw [sendS_y hb_139, hs1]; rw [if_pos (e_141.symm.trans c_142), ← ey_141]; exact Prod.ext (show (0 : Int32) ||| (1 <<< (nI 1 &&& 31)) = 2 by decide) rfl
        refine rm_sub [0, 1, 2, 3, 4] rfl ?_
        refine rm_iload hc dX6_send_5 rfl ?_
        refine rm_iconst (v := 3) hc dX6_send_7 (by decide) ?_
        refine rm_icmp_ge (tgt := 64) hc dX6_send_8 (by decide) (fun h => absurd h (by decide)) (fun _ => ?_)
        refine rm_iload_n hc dX6_send_11 rfl rfl ?_
        refine rm_iload hc dX6_send_12 rfl ?_
        refine rm_ishr hc dX6_send_14 (fun v_164 e_164 => ?_)
        refine rm_iconst (v := 1) hc dX6_send_15 (by decide) ?_
        refine rm_iand hc dX6_send_16 (fun v_165 e_165 => ?_)
        refine rm_iconst (v := 1) hc dX6_send_17 (by decide) ?_
        by_cases hb_166 : (msk >>> (nI 2 &&& 31)) &&& 1 = 1
        · --bit 1
          refine rm_icmp_ne (tgt := 25) hc dX6_send_18 (by decide) (fun h => absurd (by rw [e_165, e_164]; exact hb_166) h) (fun _ => ?_)
          refine rm_iconst (v := 1) hc dX6_send_21 (by decide) ?_
          refine rm_goto (tgt := 26) hc dX6_send_22 (by decide) ?_
          refine rm_istore (ls' := [(0, .ref (ad k 0 0)), (1, .int num), (2, .int msk), (3, .int 2), (4, .int 2), (5, .int 1)]) hc dX6_send_26 (by decide) rfl ?_
          refine rm_iload hc dX6_send_28 rfl ?_
          refine rm_if_eq (tgt := 58) hc dX6_send_30 (by decide) (fun h => absurd h (by decide)) (fun _ => ?_)
          refine rm_aload_n hc dX6_send_33 rfl rfl ?_
          refine rm_get hc dX6_send_34 fl_X6_22 (dm_0 (by omega)) rfl rfl ?_
          refine rm_iload hc dX6_send_37 rfl ?_
          refine rm_aald (t0 := 2) (i := 2) (v := .ref (ad k 4 2)) hc dX6_send_39 (dm_3 (by omega)) rfl rfl (by omega) (by decide) rfl rfl ?_
          refine rm_iload_n hc dX6_send_40 rfl rfl ?_
          refine rm_aload_n hc dX6_send_41 rfl rfl ?_
          refine rm_get hc dX6_send_42 fl_X6_37 (dm_0 (by omega)) rfl rfl ?_
          refine rm_calliV (As := [.int num, .ref (ad k 8 0)]) (rest := []) hc dX6_send_45 (c_X1_hear hI y_141 (k := k) (d := 2) (k2 := k) (by omega) (by omega) (by omega) (by omega) num _ mm (by omega) (by have h5 := sendS_lo (x := x) (k := k) (msk := msk) (num := num) (mm := mm) (n := 1) (by omega) 2; rw [hs2] at h5; exact h5.trans hw) rfl) mv_X6_94 (dm_4 (by omega) (by omega) (by omega)) rfl rfl (hn := rfl) (hst := rfl) (hw := Nat.le_of_ble_eq_true rfl) (hR := ⟨⟨rfl, rfl⟩, Nat.le_of_ble_eq_true rfl, Nat.le_of_ble_eq_true rfl⟩) (hnc := ⟨Nat.zero_le _, Nat.zero_le _⟩) (fun r_168 y_168 h_168 => ?_)
          obtain ⟨e_168, ey_168⟩ := h_168
          refine rm_if_ne (tgt := 58) hc dX6_send_48 (by decide) (fun c_169 => ?_) (fun c_169 => ?_)
          · --
            refine rm_iinc (v := 3) (ls' := [(0, .ref (ad k 0 0)), (1, .int num), (2, .int msk), (3, .int 2), (4, .int 3), (5, .int 1)]) hc dX6_send_58 rfl (by decide) (by decide) rfl ?_
            refine rm_goto (tgt := 5) hc dX6_send_61 (by decide) ?_
            have hs3 : sendS x k msk num mm 3 = (2, y_168) := by rw [sendS_y hb_166, hs2]; rw [if_neg (fun h => c_169 (e_168.trans h)), ← ey_168]
            refine rm_sub [0, 1, 2, 3, 4] rfl ?_
            refine rm_iload hc dX6_send_5 rfl ?_
            refine rm_iconst (v := 3) hc dX6_send_7 (by decide) ?_
            refine rm_icmp_ge (tgt := 64) hc dX6_send_8 (by decide) (fun _ => ?_) (fun h => absurd (by decide) h)
            refine rm_iload_n hc dX6_send_64 rfl rfl ?_
            exact rm_iret hc dX6_send_65 ⟨by rw [hs3], by rw [hs3]⟩
          · --
            refine rm_iload_n hc dX6_send_51 rfl rfl ?_
            refine rm_iconst (v := 1) hc dX6_send_52 (by decide) ?_
            refine rm_iload hc dX6_send_53 rfl ?_
            refine rm_ishl hc dX6_send_55 (fun v_172 e_172 => ?_)
            obtain rfl : v_172 = 4 := e_172.trans (by decide)
            clear e_172
            refine rm_ior hc dX6_send_56 (fun v_173 e_173 => ?_)
            obtain rfl : v_173 = 6 := e_173.trans (by decide)
            clear e_173
            refine rm_istore_n (ls' := [(0, .ref (ad k 0 0)), (1, .int num), (2, .int msk), (3, .int 6), (4, .int 2), (5, .int 1)]) hc dX6_send_57 rfl (by decide) rfl ?_
            refine rm_iinc (v := 3) (ls' := [(0, .ref (ad k 0 0)), (1, .int num), (2, .int msk), (3, .int 6), (4, .int 3), (5, .int 1)]) hc dX6_send_58 rfl (by decide) (by decide) rfl ?_
            refine rm_goto (tgt := 5) hc dX6_send_61 (by decide) ?_
            have hs3 : sendS x k msk num mm 3 = (6, y_168) := by rw [sendS_y hb_166, hs2]; rw [if_pos (e_168.symm.trans c_169), ← ey_168]; exact Prod.ext (show (2 : Int32) ||| (1 <<< (nI 2 &&& 31)) = 6 by decide) rfl
            refine rm_sub [0, 1, 2, 3, 4] rfl ?_
            refine rm_iload hc dX6_send_5 rfl ?_
            refine rm_iconst (v := 3) hc dX6_send_7 (by decide) ?_
            refine rm_icmp_ge (tgt := 64) hc dX6_send_8 (by decide) (fun _ => ?_) (fun h => absurd (by decide) h)
            refine rm_iload_n hc dX6_send_64 rfl rfl ?_
            exact rm_iret hc dX6_send_65 ⟨by rw [hs3], by rw [hs3]⟩
        · --bit 0
          refine rm_icmp_ne (tgt := 25) hc dX6_send_18 (by decide) (fun _ => ?_) (fun h => absurd h (by rw [e_165, e_164]; exact hb_166))
          refine rm_iconst (v := 0) hc dX6_send_25 (by decide) ?_
          refine rm_istore (ls' := [(0, .ref (ad k 0 0)), (1, .int num), (2, .int msk), (3, .int 2), (4, .int 2), (5, .int 0)]) hc dX6_send_26 (by decide) rfl ?_
          refine rm_iload hc dX6_send_28 rfl ?_
          refine rm_if_eq (tgt := 58) hc dX6_send_30 (by decide) (fun _ => ?_) (fun h => absurd (by decide) h)
          refine rm_iinc (v := 3) (ls' := [(0, .ref (ad k 0 0)), (1, .int num), (2, .int msk), (3, .int 2), (4, .int 3), (5, .int 0)]) hc dX6_send_58 rfl (by decide) (by decide) rfl ?_
          refine rm_goto (tgt := 5) hc dX6_send_61 (by decide) ?_
          have hs3 : sendS x k msk num mm 3 = (2, y_141) := (sendS_n hb_166).trans hs2
          refine rm_sub [0, 1, 2, 3, 4] rfl ?_
          refine rm_iload hc dX6_send_5 rfl ?_
          refine rm_iconst (v := 3) hc dX6_send_7 (by decide) ?_
          refine rm_icmp_ge (tgt := 64) hc dX6_send_8 (by decide) (fun _ => ?_) (fun h => absurd (by decide) h)
          refine rm_iload_n hc dX6_send_64 rfl rfl ?_
          exact rm_iret hc dX6_send_65 ⟨by rw [hs3], by rw [hs3]⟩
    · --bit 0
      refine rm_icmp_ne (tgt := 25) hc dX6_send_18 (by decide) (fun _ => ?_) (fun h => absurd h (by rw [e_138, e_137]; exact hb_139))
      refine rm_iconst (v := 0) hc dX6_send_25 (by decide) ?_
      refine rm_istore (ls' := [(0, .ref (ad k 0 0)), (1, .int num), (2, .int msk), (3, .int 0), (4, .int 1), (5, .int 0)]) hc dX6_send_26 (by decide) rfl ?_
      refine rm_iload hc dX6_send_28 rfl ?_
      refine rm_if_eq (tgt := 58) hc dX6_send_30 (by decide) (fun _ => ?_) (fun h => absurd (by decide) h)
      refine rm_iinc (v := 2) (ls' := [(0, .ref (ad k 0 0)), (1, .int num), (2, .int msk), (3, .int 0), (4, .int 2), (5, .int 0)]) hc dX6_send_58 rfl (by decide) (by decide) rfl ?_
      refine rm_goto (tgt := 5) hc dX6_send_61 (by decide) ?_
      have hs2 : sendS x k msk num mm 2 = (0, x) := (sendS_n hb_139).trans hs1
      refine rm_sub [0, 1, 2, 3, 4] rfl ?_
      refine rm_iload hc dX6_send_5 rfl ?_
      refine rm_iconst (v := 3) hc dX6_send_7 (by decide) ?_
      refine rm_icmp_ge (tgt := 64) hc dX6_send_8 (by decide) (fun h => absurd h (by decide)) (fun _ => ?_)
      refine rm_iload_n hc dX6_send_11 rfl rfl ?_
      refine rm_iload hc dX6_send_12 rfl ?_
      refine rm_ishr hc dX6_send_14 (fun v_182 e_182 => ?_)
      refine rm_iconst (v := 1) hc dX6_send_15 (by decide) ?_
      refine rm_iand hc dX6_send_16 (fun v_183 e_183 => ?_)
      refine rm_iconst (v := 1) hc dX6_send_17 (by decide) ?_
      by_cases hb_184 : (msk >>> (nI 2 &&& 31)) &&& 1 = 1
      · --bit 1
        refine rm_icmp_ne (tgt := 25) hc dX6_send_18 (by decide) (fun h => absurd (by rw [e_183, e_182]; exact hb_184) h) (fun _ => ?_)
        refine rm_iconst (v := 1) hc dX6_send_21 (by decide) ?_
        refine rm_goto (tgt := 26) hc dX6_send_22 (by decide) ?_
        refine rm_istore (ls' := [(0, .ref (ad k 0 0)), (1, .int num), (2, .int msk), (3, .int 0), (4, .int 2), (5, .int 1)]) hc dX6_send_26 (by decide) rfl ?_
        refine rm_iload hc dX6_send_28 rfl ?_
        refine rm_if_eq (tgt := 58) hc dX6_send_30 (by decide) (fun h => absurd h (by decide)) (fun _ => ?_)
        refine rm_aload_n hc dX6_send_33 rfl rfl ?_
        refine rm_get hc dX6_send_34 fl_X6_22 (dm_0 (by omega)) rfl rfl ?_
        refine rm_iload hc dX6_send_37 rfl ?_
        refine rm_aald (t0 := 2) (i := 2) (v := .ref (ad k 4 2)) hc dX6_send_39 (dm_3 (by omega)) rfl rfl (by omega) (by decide) rfl rfl ?_
        refine rm_iload_n hc dX6_send_40 rfl rfl ?_
        refine rm_aload_n hc dX6_send_41 rfl rfl ?_
        refine rm_get hc dX6_send_42 fl_X6_37 (dm_0 (by omega)) rfl rfl ?_
        refine rm_calliV (As := [.int num, .ref (ad k 8 0)]) (rest := []) hc dX6_send_45 (c_X1_hear hI x (k := k) (d := 2) (k2 := k) (by omega) (by omega) (by omega) (by omega) num _ mm (by omega) (by have h5 := sendS_lo (x := x) (k := k) (msk := msk) (num := num) (mm := mm) (n := 1) (by omega) 2; rw [hs2] at h5; exact h5.trans hw) rfl) mv_X6_94 (dm_4 (by omega) (by omega) (by omega)) rfl rfl (hn := rfl) (hst := rfl) (hw := Nat.le_of_ble_eq_true rfl) (hR := ⟨⟨rfl, rfl⟩, Nat.le_of_ble_eq_true rfl, Nat.le_of_ble_eq_true rfl⟩) (hnc := ⟨Nat.zero_le _, Nat.zero_le _⟩) (fun r_186 y_186 h_186 => ?_)
        obtain ⟨e_186, ey_186⟩ := h_186
        refine rm_if_ne (tgt := 58) hc dX6_send_48 (by decide) (fun c_187 => ?_) (fun c_187 => ?_)
        · --
          refine rm_iinc (v := 3) (ls' := [(0, .ref (ad k 0 0)), (1, .int num), (2, .int msk), (3, .int 0), (4, .int 3), (5, .int 1)]) hc dX6_send_58 rfl (by decide) (by decide) rfl ?_
          refine rm_goto (tgt := 5) hc dX6_send_61 (by decide) ?_
          have hs3 : sendS x k msk num mm 3 = (0, y_186) := by rw [sendS_y hb_184, hs2]; rw [if_neg (fun h => c_187 (e_186.trans h)), ← ey_186]
          refine rm_sub [0, 1, 2, 3, 4] rfl ?_
          refine rm_iload hc dX6_send_5 rfl ?_
          refine rm_iconst (v := 3) hc dX6_send_7 (by decide) ?_
          refine rm_icmp_ge (tgt := 64) hc dX6_send_8 (by decide) (fun _ => ?_) (fun h => absurd (by decide) h)
          refine rm_iload_n hc dX6_send_64 rfl rfl ?_
          exact rm_iret hc dX6_send_65 ⟨by rw [hs3], by rw [hs3]⟩
        · --
          refine rm_iload_n hc dX6_send_51 rfl rfl ?_
          refine rm_iconst (v := 1) hc dX6_send_52 (by decide) ?_
          refine rm_iload hc dX6_send_53 rfl ?_
          refine rm_ishl hc dX6_send_55 (fun v_190 e_190 => ?_)
          obtain rfl : v_190 = 4 := e_190.trans (by decide)
          clear e_190
          refine rm_ior hc dX6_send_56 (fun v_191 e_191 => ?_)
          obtain rfl : v_191 = 4 := e_191.trans (by decide)
          clear e_191
          refine rm_istore_n (ls' := [(0, .ref (ad k 0 0)), (1, .int num), (2, .int msk), (3, .int 4), (4, .int 2), (5, .int 1)]) hc dX6_send_57 rfl (by decide) rfl ?_
          refine rm_iinc (v := 3) (ls' := [(0, .ref (ad k 0 0)), (1, .int num), (2, .int msk), (3, .int 4), (4, .int 3), (5, .int 1)]) hc dX6_send_58 rfl (by decide) (by decide) rfl ?_
          refine rm_goto (tgt := 5) hc dX6_send_61 (by decide) ?_
          have hs3 : sendS x k msk num mm 3 = (4, y_186) := by rw [sendS_y hb_184, hs2]; rw [if_pos (e_186.symm.trans c_187), ← ey_186]; exact Prod.ext (show (0 : Int32) ||| (1 <<< (nI 2 &&& 31)) = 4 by decide) rfl
          refine rm_sub [0, 1, 2, 3, 4] rfl ?_
          refine rm_iload hc dX6_send_5 rfl ?_
          refine rm_iconst (v := 3) hc dX6_send_7 (by decide) ?_
          refine rm_icmp_ge (tgt := 64) hc dX6_send_8 (by decide) (fun _ => ?_) (fun h => absurd (by decide) h)
          refine rm_iload_n hc dX6_send_64 rfl rfl ?_
          exact rm_iret hc dX6_send_65 ⟨by rw [hs3], by rw [hs3]⟩
      · --bit 0
        refine rm_icmp_ne (tgt := 25) hc dX6_send_18 (by decide) (fun _ => ?_) (fun h => absurd h (by rw [e_183, e_182]; exact hb_184))
        refine rm_iconst (v := 0) hc dX6_send_25 (by decide) ?_
        refine rm_istore (ls' := [(0, .ref (ad k 0 0)), (1, .int num), (2, .int msk), (3, .int 0), (4, .int 2), (5, .int 0)]) hc dX6_send_26 (by decide) rfl ?_
        refine rm_iload hc dX6_send_28 rfl ?_
        refine rm_if_eq (tgt := 58) hc dX6_send_30 (by decide) (fun _ => ?_) (fun h => absurd (by decide) h)
        refine rm_iinc (v := 3) (ls' := [(0, .ref (ad k 0 0)), (1, .int num), (2, .int msk), (3, .int 0), (4, .int 3), (5, .int 0)]) hc dX6_send_58 rfl (by decide) (by decide) rfl ?_
        refine rm_goto (tgt := 5) hc dX6_send_61 (by decide) ?_
        have hs3 : sendS x k msk num mm 3 = (0, x) := (sendS_n hb_184).trans hs2
        refine rm_sub [0, 1, 2, 3, 4] rfl ?_
        refine rm_iload hc dX6_send_5 rfl ?_
        refine rm_iconst (v := 3) hc dX6_send_7 (by decide) ?_
        refine rm_icmp_ge (tgt := 64) hc dX6_send_8 (by decide) (fun _ => ?_) (fun h => absurd (by decide) h)
        refine rm_iload_n hc dX6_send_64 rfl rfl ?_
        exact rm_iret hc dX6_send_65 ⟨by rw [hs3], by rw [hs3]⟩

abbrev rm_X6_pressFob : Room := { frames := 4, cells := 0, slots := 0, locals := 97 }
set_option maxHeartbeats 4000000 in
set_option maxRecDepth 100000 in
theorem c_X6_pressFob {l : Launch} {D : va_G} {cy : Nat → ClassId} {ad : Ads} (hI : IJ ad) (x : Mem) {k j : Nat} (hk : k < 7) (hj : j < 4) (msk : Int32) (mm : Nat) (hmm : mm < 2 ^ 30) (hw : x k 1 = nI mm) (hbat : ¬ x k (16 + 4 * j) ≤ 0) : Cti l yX6_pressFob cX6_pressFob 4 (some .int) rm_X6_pressFob D cy ad [.ref (ad k 0 0), .int (nI (j)), .int msk] x (fun r y => r = (prsS x k j msk mm).1 ∧ y = (prsS x k j msk mm).2) := by
  refine rm_entry (Qc := Qi D cy ad (fun r y => r = (prsS x k j msk mm).1 ∧ y = (prsS x k j msk mm).2)) hI (by decide) (Nat.le_of_ble_eq_true rfl) ?_
  intro p e s m args below meth c hc
  show RM _ _ _ _ _ _ _ _ _ _ _ _ _ _ _ _ _ [(0, .ref (ad k 0 0)), (1, .int (nI (j))), (2, .int msk)] []
  refine rm_aload_n hc dX6_pressFob_0 rfl rfl ?_
  refine rm_iload_n hc dX6_pressFob_1 rfl rfl ?_
  refine rm_calliV (As := [.int (nI (j))]) (rest := []) hc dX6_pressFob_2 (c_X6_canPress hI x (k := k) (j := j) (by omega) (by omega)) mv_X6_67 (dm_0 (by omega)) rfl rfl (hn := rfl) (hst := rfl) (hw := Nat.le_of_ble_eq_true rfl) (hR := ⟨⟨rfl, rfl⟩, Nat.le_of_ble_eq_true rfl, Nat.le_of_ble_eq_true rfl⟩) (hnc := ⟨Nat.zero_le _, Nat.zero_le _⟩) (fun r_1 y_1 h_1 => ?_)
  obtain ⟨e_1, ey_1⟩ := h_1
  obtain rfl := ey_1.symm
  refine rm_if_ne (tgt := 10) hc dX6_pressFob_5 (by decide) (fun _ => ?_) (fun h => absurd h (by rw [e_1]; simp [canS, hbat]))
  refine rm_aload_n hc dX6_pressFob_10 rfl rfl ?_
  refine rm_get hc dX6_pressFob_11 fl_X6_11 (dm_0 (by omega)) rfl rfl ?_
  refine rm_iload_n hc dX6_pressFob_14 rfl rfl ?_
  refine rm_aald (t0 := 1) (i := j) (v := .ref (ad k 2 j)) hc dX6_pressFob_15 (dm_1 (by omega)) rfl rfl (by omega) (by decide) rfl rfl ?_
  refine rm_calliV (As := []) (rest := []) hc dX6_pressFob_16 (c_X2_sendNext hI x (k := k) (j := j) (by omega) (by omega)) mv_X6_71 (dm_2 (by omega) (by omega)) rfl rfl (hn := rfl) (hst := rfl) (hw := Nat.le_of_ble_eq_true rfl) (hR := ⟨⟨rfl, rfl⟩, Nat.le_of_ble_eq_true rfl, Nat.le_of_ble_eq_true rfl⟩) (hnc := ⟨Nat.zero_le _, Nat.zero_le _⟩) (fun r_3 y_3 h_3 => ?_)
  obtain ⟨e_3, ey_3⟩ := h_3
  refine rm_istore_n (ls' := [(0, .ref (ad k 0 0)), (1, .int (nI (j))), (2, .int msk), (3, .int r_3)]) hc dX6_pressFob_19 rfl (by decide) rfl ?_
  refine rm_aload_n hc dX6_pressFob_20 rfl rfl ?_
  refine rm_get hc dX6_pressFob_21 fl_X6_30 (dm_0 (by omega)) rfl rfl ?_
  refine rm_iload_n hc dX6_pressFob_24 rfl rfl ?_
  refine rm_callvV (As := [.int r_3]) (rest := []) hc dX6_pressFob_25 (c_X0_record hI y_3 (k := k) (by omega) r_3) mv_X6_75 (dm_6 (by omega)) rfl rfl (hn := rfl) (hst := rfl) (hw := Nat.le_of_ble_eq_true rfl) (hR := ⟨⟨rfl, rfl⟩, Nat.le_of_ble_eq_true rfl, Nat.le_of_ble_eq_true rfl⟩) (hnc := ⟨Nat.zero_le _, Nat.zero_le _⟩) (fun y_4 h_4 => ?_)
  refine rm_aload_n hc dX6_pressFob_28 rfl rfl ?_
  refine rm_iload_n hc dX6_pressFob_29 rfl rfl ?_
  refine rm_iload_n hc dX6_pressFob_30 rfl rfl ?_
  refine rm_calliV (As := [.int r_3, .int msk]) (rest := []) hc dX6_pressFob_31 (c_X6_send hI y_4 (k := k) (by omega) r_3 msk mm (by omega) (by subst_vars; rw [recF_1, sndF_1]; exact hw)) mv_X6_78 (dm_0 (by omega)) rfl rfl (hn := rfl) (hst := rfl) (hw := Nat.le_of_ble_eq_true rfl) (hR := ⟨⟨rfl, rfl⟩, Nat.le_of_ble_eq_true rfl, Nat.le_of_ble_eq_true rfl⟩) (hnc := ⟨Nat.zero_le _, Nat.zero_le _⟩) (fun r_5 y_5 h_5 => ?_)
  obtain ⟨e_5, ey_5⟩ := h_5
  exact rm_iret hc dX6_pressFob_34 ⟨by subst_vars; rfl, by subst_vars; rfl⟩
end
section
theorem rm_ldcw {p : Program} {l : Launch} {e : Env} {R : Room} {s : State} {m : MethodId} {args : Array Value} {below : List Frame} {meth : Method} {c : Code} {cc : ByteArray} {nL : Nat} {own : String} {ret : Option FieldType} {D : va_G} {cy : Nat → ClassId} {ad : Ads} {A : Nat → Prop} {G : Heap → Prop} {nc ns : Nat} {Q : State → Prop} {pc : Nat} {ls : List (Nat × Value)} {st : List Value} (hc : CX p s m args meth c cc nL own ret D cy ad) {i : Nat} {v : Int32} (hd : decode cc pc = .ok (.ldc_w i, 3)) (hk : Cond.constant own i v ∈ TB) (kk : RM p l e R s m args below meth c nL A G nc ns Q (pc + 3) ls (.int v :: st)) : RM p l e R s m args below meth c nL A G nc ns Q pc ls st :=
  fun H locs la hP hS hl => lv_ldcw hc.1.1 hc.1.2.1 hc.1.2.2.2.1 (hc.1.2.2.2.2 _ hk) hd (kk H locs la hP hS hl)
theorem rm_iushr {p : Program} {l : Launch} {e : Env} {R : Room} {s : State} {m : MethodId} {args : Array Value} {below : List Frame} {meth : Method} {c : Code} {cc : ByteArray} {nL : Nat} {own : String} {ret : Option FieldType} {D : va_G} {cy : Nat → ClassId} {ad : Ads} {A : Nat → Prop} {G : Heap → Prop} {nc ns : Nat} {Q : State → Prop} {pc : Nat} {ls : List (Nat × Value)} {st : List Value} (hc : CX p s m args meth c cc nL own ret D cy ad) {a b : Int32} (hd : decode cc pc = .ok (.iushr, 1)) (kk : ∀ v : Int32, v = (a.toUInt32 >>> (b.toUInt32 &&& Int32.toUInt32 31)).toInt32 → RM p l e R s m args below meth c nL A G nc ns Q (pc + 1) ls (.int v :: st)) : RM p l e R s m args below meth c nL A G nc ns Q pc ls (.int b :: .int a :: st) :=
  fun H locs la hP hS hl => lv_iushr hc.1.1 hc.1.2.1 hd rfl (kk _ rfl H locs la hP hS hl)
def ones3 (b : Nat) : Nat := b % 2 + b / 2 % 2 + b / 4 % 2
/-- the memory but for the trial door -/
def E7 (x y : Mem) : Prop := ∀ b, b ≠ 7 → y b = x b
theorem E7.rf (x : Mem) : E7 x x := fun _ _ => rfl
theorem E7.tr {x y z : Mem} (h1 : E7 x y) (h2 : E7 y z) : E7 x z := fun b hb => (h2 b hb).trans (h1 b hb)
theorem E7.flg {x y : Mem} {b : Nat} (h : E7 x y) (hb : b ≠ 7) (hF : FLG x b) : FLG y b := fun d hd => by rw [h b hb]; exact hF d hd
theorem E7.at {x y : Mem} (h : E7 x y) {b n : Nat} (hb : b ≠ 7) : y b n = x b n := by rw [h b hb]
theorem E7.hr {x y : Mem} {d d2 k k2 : Nat} {num : Int32} {mm : Nat} (hd : ∀ n, n < 22 → y k (30 + 22 * d + n) = x k2 (30 + 22 * d2 + n)) (hs : y 0 2 = x 0 2) (hw : y 0 0 = x 0 0) : hrR y k d 0 num mm = hrR x k2 d2 0 num mm := by
  have a : ∀ s n, s < 4 → n < 4 → y k (36 + n + 22 * d + 4 * s) = x k2 (36 + n + 22 * d2 + 4 * s) := fun s n h1 h2 => by
    have := hd (6 + n + 4 * s) (by omega)
    rw [show 36 + n + 22 * d + 4 * s = 30 + 22 * d + (6 + n + 4 * s) by omega, this]
    congr 1; omega
  have b : y k (31 + 22 * d) = x k2 (31 + 22 * d2) := by
    have := hd 1 (by omega)
    rw [show 31 + 22 * d = 30 + 22 * d + 1 by omega, this]
    congr 1; omega
  have st : ∀ s, s < 4 → stpS y k d s num mm = stpS x k2 d2 s num mm := fun s h => by
    unfold stpS
    rw [a s 0 h (by omega), a s 1 h (by omega), a s 2 h (by omega)]
  have hm : mean y k d num mm = mean x k2 d2 num mm := by
    unfold mean mt mt mt mt mt
    rw [st 0 (by omega), st 1 (by omega), st 2 (by omega), st 3 (by omega)]
  unfold hrR
  rw [hm, hs, b]
  split
  · rfl
  · by_cases h4 : (mean x k2 d2 num mm).1 = 4
    · rw [if_pos h4, if_pos h4]
    · rw [if_neg h4, if_neg h4]
      have hlt : (mean x k2 d2 num mm).1 < 4 := by
        unfold mean mt mt mt mt mt at h4 ⊢
        repeat' split <;> first | omega | simp_all
      have ht : takS y k d (mean x k2 d2 num mm).1 (nI (mean x k2 d2 num mm).2) (y 0 0) = takS x k2 d2 (mean x k2 d2 num mm).1 (nI (mean x k2 d2 num mm).2) (x 0 0) := by
        unfold takS
        rw [a _ 2 hlt (by omega), a _ 3 hlt (by omega), hw]
      by_cases h5 : takS x k2 d2 (mean x k2 d2 num mm).1 (nI (mean x k2 d2 num mm).2) (x 0 0)
      · rw [if_pos h5, if_pos (by rw [ht]; exact h5)]
      · rw [if_neg h5, if_neg (by rw [ht]; exact h5)]
/-- the trial door as a copy of door d -/
def triM (x : Mem) (d : Nat) : Mem := cpS x 7 30 0 (30 + 22 * d) 22
theorem tri_hr {x : Mem} {d : Nat} {num : Int32} {mm : Nat} : hrR (triM x d) 7 0 0 num mm = hrR x 0 d 0 num mm := by
  refine E7.hr (fun n hn => ?_) (cpS_b (by omega)) (cpS_b (by omega))
  unfold triM
  rw [show 30 + 22 * 0 + n = 30 + n by omega, cpS_in (by omega) (by omega)]
  congr 1; omega
theorem E7.hrd {x y : Mem} (h : E7 x y) {d : Nat} {num : Int32} {mm : Nat} : hrR y 0 d 0 num mm = hrR x 0 d 0 num mm :=
  E7.hr (fun n _ => h.at (by omega)) (h.at (by omega)) (h.at (by omega))
theorem E7.tri {x : Mem} {d : Nat} : E7 x (triM x d) := fun b hb => funext fun n => cpS_b hb
theorem E7.hrM {x : Mem} {d : Nat} {num : Int32} {mm : Nat} : E7 x (hrM x 7 d 0 num mm) := fun b hb => funext fun n => hrM_b hb
/-- how often a fob has to be pressed: over the trial door -/
def ptoS (sc : Int32) (mm : Nat) : Nat → Mem → Int32 → Nat → Int32
  | 0, _, _, _ => -1
  | f + 1, z, c, i => if hrR z 7 0 0 (nu sc (nx c)) mm = 0 then nI (i + 1) else if hrR z 7 0 0 (nu sc (nx c)) mm = 3 then -1 else ptoS sc mm f (hrM z 7 0 0 (nu sc (nx c)) mm) (nx c) (i + 1)
theorem pto_0 {sc : Int32} {mm f i : Nat} {z : Mem} {c : Int32} (h : hrR z 7 0 0 (nu sc (nx c)) mm = 0) : ptoS sc mm (f + 1) z c i = nI (i + 1) := by simp [ptoS, h]
theorem pto_3 {sc : Int32} {mm f i : Nat} {z : Mem} {c : Int32} (h : hrR z 7 0 0 (nu sc (nx c)) mm = 3) : ptoS sc mm (f + 1) z c i = -1 := by simp [ptoS, h]
theorem pto_n {sc : Int32} {mm f i : Nat} {z : Mem} {c : Int32} (h : ¬ hrR z 7 0 0 (nu sc (nx c)) mm = 0) (h3 : ¬ hrR z 7 0 0 (nu sc (nx c)) mm = 3) : ptoS sc mm (f + 1) z c i = ptoS sc mm f (hrM z 7 0 0 (nu sc (nx c)) mm) (nx c) (i + 1) := by simp [ptoS, h, h3]
def munS (x : Mem) (d : Nat) (sc : Int32) (mm : Nat) : Nat → Int32 → Nat → Int32 → Int32
  | 0, _, _, r => r
  | f + 1, c, i, r => if hrR x 0 d 0 (nu sc (nx c)) mm = 0 then munS x d sc mm f (nx c) (i + 1) (nI i) else r
theorem mun_y {x : Mem} {d : Nat} {sc : Int32} {mm f i : Nat} {c r : Int32} (h : hrR x 0 d 0 (nu sc (nx c)) mm = 0) : munS x d sc mm (f + 1) c i r = munS x d sc mm f (nx c) (i + 1) (nI i) := by simp [munS, h]
theorem mun_n {x : Mem} {d : Nat} {sc : Int32} {mm f i : Nat} {c r : Int32} (h : ¬ hrR x 0 d 0 (nu sc (nx c)) mm = 0) : munS x d sc mm (f + 1) c i r = r := by simp [munS, h]
def fusS (x : Mem) (d mm : Nat) : Nat → Nat → Int32
  | 0, _ => -1
  | f + 1, i => if hrR x 0 d 0 (numA x 0 (nI i)) mm = 0 then nI i else fusS x d mm f (i + 1)
theorem fus_y {x : Mem} {d mm f i : Nat} (h : hrR x 0 d 0 (numA x 0 (nI i)) mm = 0) : fusS x d mm (f + 1) i = nI i := by simp [fusS, h]
theorem fus_n {x : Mem} {d mm f i : Nat} (h : ¬ hrR x 0 d 0 (numA x 0 (nI i)) mm = 0) : fusS x d mm (f + 1) i = fusS x d mm f (i + 1) := by simp [fusS, h]
theorem E7.num {x y : Mem} (h : E7 x y) {q : Int32} : numA y 0 q = numA x 0 q := by
  unfold numA
  rw [h.at (by omega)]
  split
  · rfl
  · split
    · rfl
    · split
      · rfl
      · rw [h.at (by omega)]
def cntS (x : Mem) (w : Int32) : Int32 := if w = 0 then sum4 (x 0 17) (x 0 21) (x 0 25) (x 0 29) else if w = 1 then x 0 3 else if w = 2 then sum3 (x 0 32) (x 0 54) (x 0 76) else if w = 3 then x 0 4 else if w = 4 then sum3 (b2 (x 0 30)) (b2 (x 0 52)) (b2 (x 0 74)) else if w = 5 then sum3 (b2 (lockS (x 0 2) (x 0 31))) (b2 (lockS (x 0 2) (x 0 53))) (b2 (lockS (x 0 2) (x 0 75))) else if w = 6 then x 0 5 else if w = 7 then x 8 1 else -1
/-- a recorded number is sent again -/
def agnS (x : Mem) (ii : Nat) (msk : Int32) (mm : Nat) : Int32 × Mem :=
  ((sendS (up x 0 3 (x 0 3 + 1)) 0 msk (numA (up x 0 3 (x 0 3 + 1)) 0 (nI ii)) mm 3).1, up (sendS (up x 0 3 (x 0 3 + 1)) 0 msk (numA (up x 0 3 (x 0 3 + 1)) 0 (nI ii)) mm 3).2 0 4 ((sendS (up x 0 3 (x 0 3 + 1)) 0 msk (numA (up x 0 3 (x 0 3 + 1)) 0 (nI ii)) mm 3).2 0 4 + nI (ones3 (sendS (up x 0 3 (x 0 3 + 1)) 0 msk (numA (up x 0 3 (x 0 3 + 1)) 0 (nI ii)) mm 3).1.toNatClampNeg)))
theorem send_8 {x : Mem} {k : Nat} {msk num : Int32} {mm : Nat} : ∃ b, b < 8 ∧ (sendS x k msk num mm 3).1 = nI b := by
  have h0 : (sendS x k msk num mm 0).1 = 0 := rfl
  have h1 : (sendS x k msk num mm 1).1 = 0 ∨ (sendS x k msk num mm 1).1 = 1 := by
    unfold sendS
    split
    · show (if _ then _ else _) = _ ∨ (if _ then _ else _) = _
      split
      · rw [h0]; exact Or.inr (by decide)
      · exact Or.inl h0
    · exact Or.inl h0
  have h2 : (sendS x k msk num mm 2).1 = 0 ∨ (sendS x k msk num mm 2).1 = 1 ∨ (sendS x k msk num mm 2).1 = 2 ∨ (sendS x k msk num mm 2).1 = 3 := by
    unfold sendS
    split
    · show (if _ then _ else _) = _ ∨ (if _ then _ else _) = _ ∨ (if _ then _ else _) = _ ∨ (if _ then _ else _) = _
      split
      · rcases h1 with h | h <;> rw [h]
        · exact Or.inr (Or.inr (Or.inl (by decide)))
        · exact Or.inr (Or.inr (Or.inr (by decide)))
      · rcases h1 with h | h
        · exact Or.inl h
        · exact Or.inr (Or.inl h)
    · rcases h1 with h | h
      · exact Or.inl h
      · exact Or.inr (Or.inl h)
  unfold sendS
  split
  · dsimp only
    split
    · rcases h2 with h | h | h | h <;> rw [h]
      · exact ⟨4, by omega, by decide⟩
      · exact ⟨5, by omega, by decide⟩
      · exact ⟨6, by omega, by decide⟩
      · exact ⟨7, by omega, by decide⟩
    · rcases h2 with h | h | h | h
      · exact ⟨0, by omega, h⟩
      · exact ⟨1, by omega, h⟩
      · exact ⟨2, by omega, h⟩
      · exact ⟨3, by omega, h⟩
  · rcases h2 with h | h | h | h
    · exact ⟨0, by omega, h⟩
    · exact ⟨1, by omega, h⟩
    · exact ⟨2, by omega, h⟩
    · exact ⟨3, by omega, h⟩
theorem min50 {nb : Nat} (h : nb < 2 ^ 20) : (if nI nb < 50 then nI nb else 50) = nI (if nb < 50 then nb else 50) := by
  have e50 : (50 : Int32) = nI 50 := rfl
  rw [e50]
  by_cases h5 : nb < 50
  · rw [if_pos h5, if_pos ((nI_ltI (a := nb) (b := 50) (by omega) (by omega)).mpr h5)]
  · rw [if_neg h5, if_neg (fun q => h5 ((nI_ltI (a := nb) (b := 50) (by omega) (by omega)).mp q))]
end
section
theorem yk_J6_bitCount_0f7a4 : Cond.initialized yJ6_bitCount_0f7a4.cls ∈ TB ∧ Cond.code yJ6_bitCount_0f7a4 cJ6_bitCount_0f7a4 1 (some .int) ∈ TB ∧ (yJ6_bitCount_0f7a4.cls ≠ "java/lang/invoke/MethodHandle" ∧ yJ6_bitCount_0f7a4.cls ≠ "java/lang/invoke/VarHandle" ∧ (parseMethodDescriptor yJ6_bitCount_0f7a4.desc).map (fun d => d.parameters.length) = some 1) := ⟨tbm (i := 25) (by decide +kernel) (by decide +kernel), tbm (i := 624) (by decide +kernel) (by decide +kernel), by decide +kernel⟩
theorem ms_X6_89 : MS RX6 89 yJ6_bitCount_0f7a4 cJ6_bitCount_0f7a4 1 (some .int) 1 := ⟨⟨tbm (i := 622) (by decide +kernel) (by decide +kernel), yk_J6_bitCount_0f7a4⟩, tbm (i := 623) (by decide +kernel) (by decide +kernel)⟩
theorem kc_J6_265 : Cond.constant RJ6 265 (1431655765 : Int32) ∈ TB := tbm (i := 625) (by decide +kernel) (by decide +kernel)
theorem kc_J6_266 : Cond.constant RJ6 266 (858993459 : Int32) ∈ TB := tbm (i := 626) (by decide +kernel) (by decide +kernel)
theorem kc_J6_267 : Cond.constant RJ6 267 (252645135 : Int32) ∈ TB := tbm (i := 627) (by decide +kernel) (by decide +kernel)
theorem dJ6_bitCount_0f7a4_0 : decode cJ6_bitCount_0f7a4 0 = .ok (.iload_n 0, 1) := by decide +kernel
theorem dJ6_bitCount_0f7a4_1 : decode cJ6_bitCount_0f7a4 1 = .ok (.iload_n 0, 1) := by decide +kernel
theorem dJ6_bitCount_0f7a4_2 : decode cJ6_bitCount_0f7a4 2 = .ok (.iconst 1, 1) := by decide +kernel
theorem dJ6_bitCount_0f7a4_3 : decode cJ6_bitCount_0f7a4 3 = .ok (.iushr, 1) := by decide +kernel
theorem dJ6_bitCount_0f7a4_4 : decode cJ6_bitCount_0f7a4 4 = .ok (.ldc_w 265, 3) := by decide +kernel
theorem dJ6_bitCount_0f7a4_7 : decode cJ6_bitCount_0f7a4 7 = .ok (.iand, 1) := by decide +kernel
theorem dJ6_bitCount_0f7a4_8 : decode cJ6_bitCount_0f7a4 8 = .ok (.isub, 1) := by decide +kernel
theorem dJ6_bitCount_0f7a4_9 : decode cJ6_bitCount_0f7a4 9 = .ok (.istore_n 0, 1) := by decide +kernel
theorem dJ6_bitCount_0f7a4_10 : decode cJ6_bitCount_0f7a4 10 = .ok (.iload_n 0, 1) := by decide +kernel
theorem dJ6_bitCount_0f7a4_11 : decode cJ6_bitCount_0f7a4 11 = .ok (.ldc_w 266, 3) := by decide +kernel
theorem dJ6_bitCount_0f7a4_14 : decode cJ6_bitCount_0f7a4 14 = .ok (.iand, 1) := by decide +kernel
theorem dJ6_bitCount_0f7a4_15 : decode cJ6_bitCount_0f7a4 15 = .ok (.iload_n 0, 1) := by decide +kernel
theorem dJ6_bitCount_0f7a4_16 : decode cJ6_bitCount_0f7a4 16 = .ok (.iconst 2, 1) := by decide +kernel
theorem dJ6_bitCount_0f7a4_17 : decode cJ6_bitCount_0f7a4 17 = .ok (.iushr, 1) := by decide +kernel
theorem dJ6_bitCount_0f7a4_18 : decode cJ6_bitCount_0f7a4 18 = .ok (.ldc_w 266, 3) := by decide +kernel
theorem dJ6_bitCount_0f7a4_21 : decode cJ6_bitCount_0f7a4 21 = .ok (.iand, 1) := by decide +kernel
theorem dJ6_bitCount_0f7a4_22 : decode cJ6_bitCount_0f7a4 22 = .ok (.iadd, 1) := by decide +kernel
theorem dJ6_bitCount_0f7a4_23 : decode cJ6_bitCount_0f7a4 23 = .ok (.istore_n 0, 1) := by decide +kernel
theorem dJ6_bitCount_0f7a4_24 : decode cJ6_bitCount_0f7a4 24 = .ok (.iload_n 0, 1) := by decide +kernel
theorem dJ6_bitCount_0f7a4_25 : decode cJ6_bitCount_0f7a4 25 = .ok (.iload_n 0, 1) := by decide +kernel
theorem dJ6_bitCount_0f7a4_26 : decode cJ6_bitCount_0f7a4 26 = .ok (.iconst 4, 1) := by decide +kernel
theorem dJ6_bitCount_0f7a4_27 : decode cJ6_bitCount_0f7a4 27 = .ok (.iushr, 1) := by decide +kernel
theorem dJ6_bitCount_0f7a4_28 : decode cJ6_bitCount_0f7a4 28 = .ok (.iadd, 1) := by decide +kernel
theorem dJ6_bitCount_0f7a4_29 : decode cJ6_bitCount_0f7a4 29 = .ok (.ldc_w 267, 3) := by decide +kernel
theorem dJ6_bitCount_0f7a4_32 : decode cJ6_bitCount_0f7a4 32 = .ok (.iand, 1) := by decide +kernel
theorem dJ6_bitCount_0f7a4_33 : decode cJ6_bitCount_0f7a4 33 = .ok (.istore_n 0, 1) := by decide +kernel
theorem dJ6_bitCount_0f7a4_34 : decode cJ6_bitCount_0f7a4 34 = .ok (.iload_n 0, 1) := by decide +kernel
theorem dJ6_bitCount_0f7a4_35 : decode cJ6_bitCount_0f7a4 35 = .ok (.iload_n 0, 1) := by decide +kernel
theorem dJ6_bitCount_0f7a4_36 : decode cJ6_bitCount_0f7a4 36 = .ok (.bipush 8, 2) := by decide +kernel
theorem dJ6_bitCount_0f7a4_38 : decode cJ6_bitCount_0f7a4 38 = .ok (.iushr, 1) := by decide +kernel
theorem dJ6_bitCount_0f7a4_39 : decode cJ6_bitCount_0f7a4 39 = .ok (.iadd, 1) := by decide +kernel
theorem dJ6_bitCount_0f7a4_40 : decode cJ6_bitCount_0f7a4 40 = .ok (.istore_n 0, 1) := by decide +kernel
theorem dJ6_bitCount_0f7a4_41 : decode cJ6_bitCount_0f7a4 41 = .ok (.iload_n 0, 1) := by decide +kernel
theorem dJ6_bitCount_0f7a4_42 : decode cJ6_bitCount_0f7a4 42 = .ok (.iload_n 0, 1) := by decide +kernel
theorem dJ6_bitCount_0f7a4_43 : decode cJ6_bitCount_0f7a4 43 = .ok (.bipush 16, 2) := by decide +kernel
theorem dJ6_bitCount_0f7a4_45 : decode cJ6_bitCount_0f7a4 45 = .ok (.iushr, 1) := by decide +kernel
theorem dJ6_bitCount_0f7a4_46 : decode cJ6_bitCount_0f7a4 46 = .ok (.iadd, 1) := by decide +kernel
theorem dJ6_bitCount_0f7a4_47 : decode cJ6_bitCount_0f7a4 47 = .ok (.istore_n 0, 1) := by decide +kernel
theorem dJ6_bitCount_0f7a4_48 : decode cJ6_bitCount_0f7a4 48 = .ok (.iload_n 0, 1) := by decide +kernel
theorem dJ6_bitCount_0f7a4_49 : decode cJ6_bitCount_0f7a4 49 = .ok (.bipush 63, 2) := by decide +kernel
theorem dJ6_bitCount_0f7a4_51 : decode cJ6_bitCount_0f7a4 51 = .ok (.iand, 1) := by decide +kernel
theorem dJ6_bitCount_0f7a4_52 : decode cJ6_bitCount_0f7a4 52 = .ok (.ireturn, 1) := by decide +kernel
abbrev rm_J6_bitCount_0f7a4 : Room := { frames := 0, cells := 0, slots := 0, locals := 0 }
set_option maxHeartbeats 4000000 in
set_option maxRecDepth 100000 in
theorem c_J6_bitCount_0f7a4 {l : Launch} {D : va_G} {cy : Nat → ClassId} {ad : Ads} (hI : IJ ad) (x : Mem) {bn : Nat} (hbn : bn < 8) : Cti l yJ6_bitCount_0f7a4 cJ6_bitCount_0f7a4 1 (some .int) rm_J6_bitCount_0f7a4 D cy ad [.int (nI (bn))] x (fun r y => r = nI (ones3 bn) ∧ y = x) := by
  refine rm_entry (Qc := Qi D cy ad (fun r y => r = nI (ones3 bn) ∧ y = x)) hI (by decide) (Nat.le_of_ble_eq_true rfl) ?_
  intro p e s m args below meth c hc
  show RM _ _ _ _ _ _ _ _ _ _ _ _ _ _ _ _ _ [(0, .int (nI (bn)))] []
  refine rm_iload_n hc dJ6_bitCount_0f7a4_0 rfl rfl ?_
  refine rm_iload_n hc dJ6_bitCount_0f7a4_1 rfl rfl ?_
  refine rm_iconst (v := 1) hc dJ6_bitCount_0f7a4_2 (by decide) ?_
  refine rm_iushr hc dJ6_bitCount_0f7a4_3 (fun v_1 e_1 => ?_)
  refine rm_ldcw hc dJ6_bitCount_0f7a4_4 kc_J6_265 ?_
  refine rm_iand hc dJ6_bitCount_0f7a4_7 (fun v_2 e_2 => ?_)
  refine rm_isub hc dJ6_bitCount_0f7a4_8 (fun v_3 e_3 => ?_)
  refine rm_istore_n (ls' := [(0, .int v_3)]) hc dJ6_bitCount_0f7a4_9 rfl (by decide) rfl ?_
  refine rm_iload_n hc dJ6_bitCount_0f7a4_10 rfl rfl ?_
  refine rm_ldcw hc dJ6_bitCount_0f7a4_11 kc_J6_266 ?_
  refine rm_iand hc dJ6_bitCount_0f7a4_14 (fun v_4 e_4 => ?_)
  refine rm_iload_n hc dJ6_bitCount_0f7a4_15 rfl rfl ?_
  refine rm_iconst (v := 2) hc dJ6_bitCount_0f7a4_16 (by decide) ?_
  refine rm_iushr hc dJ6_bitCount_0f7a4_17 (fun v_5 e_5 => ?_)
  refine rm_ldcw hc dJ6_bitCount_0f7a4_18 kc_J6_266 ?_
  refine rm_iand hc dJ6_bitCount_0f7a4_21 (fun v_6 e_6 => ?_)
  refine rm_iadd hc dJ6_bitCount_0f7a4_22 (fun v_7 e_7 => ?_)
  refine rm_istore_n (ls' := [(0, .int v_7)]) hc dJ6_bitCount_0f7a4_23 rfl (by decide) rfl ?_
  refine rm_iload_n hc dJ6_bitCount_0f7a4_24 rfl rfl ?_
  refine rm_iload_n hc dJ6_bitCount_0f7a4_25 rfl rfl ?_
  refine rm_iconst (v := 4) hc dJ6_bitCount_0f7a4_26 (by decide) ?_
  refine rm_iushr hc dJ6_bitCount_0f7a4_27 (fun v_8 e_8 => ?_)
  refine rm_iadd hc dJ6_bitCount_0f7a4_28 (fun v_9 e_9 => ?_)
  refine rm_ldcw hc dJ6_bitCount_0f7a4_29 kc_J6_267 ?_
  refine rm_iand hc dJ6_bitCount_0f7a4_32 (fun v_10 e_10 => ?_)
  refine rm_istore_n (ls' := [(0, .int v_10)]) hc dJ6_bitCount_0f7a4_33 rfl (by decide) rfl ?_
  refine rm_iload_n hc dJ6_bitCount_0f7a4_34 rfl rfl ?_
  refine rm_iload_n hc dJ6_bitCount_0f7a4_35 rfl rfl ?_
  refine rm_bipush (v := 8) hc dJ6_bitCount_0f7a4_36 (by decide) ?_
  refine rm_iushr hc dJ6_bitCount_0f7a4_38 (fun v_11 e_11 => ?_)
  refine rm_iadd hc dJ6_bitCount_0f7a4_39 (fun v_12 e_12 => ?_)
  refine rm_istore_n (ls' := [(0, .int v_12)]) hc dJ6_bitCount_0f7a4_40 rfl (by decide) rfl ?_
  refine rm_iload_n hc dJ6_bitCount_0f7a4_41 rfl rfl ?_
  refine rm_iload_n hc dJ6_bitCount_0f7a4_42 rfl rfl ?_
  refine rm_bipush (v := 16) hc dJ6_bitCount_0f7a4_43 (by decide) ?_
  refine rm_iushr hc dJ6_bitCount_0f7a4_45 (fun v_13 e_13 => ?_)
  refine rm_iadd hc dJ6_bitCount_0f7a4_46 (fun v_14 e_14 => ?_)
  refine rm_istore_n (ls' := [(0, .int v_14)]) hc dJ6_bitCount_0f7a4_47 rfl (by decide) rfl ?_
  refine rm_iload_n hc dJ6_bitCount_0f7a4_48 rfl rfl ?_
  refine rm_bipush (v := 63) hc dJ6_bitCount_0f7a4_49 (by decide) ?_
  refine rm_iand hc dJ6_bitCount_0f7a4_51 (fun v_15 e_15 => ?_)
  exact rm_iret hc dJ6_bitCount_0f7a4_52 ⟨by subst_vars; rcases (show bn = 0 ∨ bn = 1 ∨ bn = 2 ∨ bn = 3 ∨ bn = 4 ∨ bn = 5 ∨ bn = 6 ∨ bn = 7 by omega) with rfl | rfl | rfl | rfl | rfl | rfl | rfl | rfl <;> decide +kernel, rfl⟩

abbrev rm_X6_sendAgain : Room := { frames := 4, cells := 0, slots := 0, locals := 97 }
set_option maxHeartbeats 4000000 in
set_option maxRecDepth 100000 in
theorem c_X6_sendAgain {l : Launch} {D : va_G} {cy : Nat → ClassId} {ad : Ads} (hI : IJ ad) (x : Mem) {ii nr : Nat} (hii : ii < nr) (hr8 : nr ≤ 8) (hnr : x 0 5 = nI nr) (msk : Int32) (mm : Nat) (hmm : mm < 2 ^ 30) (hw : x 0 1 = nI mm) : Cti l yX6_sendAgain cX6_sendAgain 4 (some .int) rm_X6_sendAgain D cy ad [.ref (ad 0 0 0), .int (nI (ii)), .int msk] x (fun r y => r = (agnS x ii msk mm).1 ∧ y = (agnS x ii msk mm).2) := by
  refine rm_entry (Qc := Qi D cy ad (fun r y => r = (agnS x ii msk mm).1 ∧ y = (agnS x ii msk mm).2)) hI (by decide) (Nat.le_of_ble_eq_true rfl) ?_
  intro p e s m args below meth c hc
  show RM _ _ _ _ _ _ _ _ _ _ _ _ _ _ _ _ _ [(0, .ref (ad 0 0 0)), (1, .int (nI (ii))), (2, .int msk)] []
  refine rm_aload_n hc dX6_sendAgain_0 rfl rfl ?_
  refine rm_iload_n hc dX6_sendAgain_1 rfl rfl ?_
  refine rm_calliV (As := [.int (nI (ii))]) (rest := []) hc dX6_sendAgain_2 (c_X6_canSendAgain hI x (k := 0) (ii := ii) (nr := nr) (by omega) hnr (by omega) (by omega)) mv_X6_82 (dm_0 (by omega)) rfl rfl (hn := rfl) (hst := rfl) (hw := Nat.le_of_ble_eq_true rfl) (hR := ⟨⟨rfl, rfl⟩, Nat.le_of_ble_eq_true rfl, Nat.le_of_ble_eq_true rfl⟩) (hnc := ⟨Nat.zero_le _, Nat.zero_le _⟩) (fun r_1 y_1 h_1 => ?_)
  obtain ⟨e_1, ey_1⟩ := h_1
  obtain rfl := ey_1.symm
  refine rm_if_ne (tgt := 10) hc dX6_sendAgain_5 (by decide) (fun _ => ?_) (fun h => absurd h (by rw [e_1, if_pos hii]; decide))
  refine rm_aload_n hc dX6_sendAgain_10 rfl rfl ?_
  refine rm_dup hc dX6_sendAgain_11 rfl ?_
  refine rm_geti hc dX6_sendAgain_12 fl_X6_54 (dm_0 (by omega)) rfl rfl (fun v_3 e_3 => ?_)
  refine rm_iconst (v := 1) hc dX6_sendAgain_15 (by decide) ?_
  refine rm_iadd hc dX6_sendAgain_16 (fun v_4 e_4 => ?_)
  refine rm_put hc dX6_sendAgain_17 fl_X6_54 (dm_0 (by omega)) rfl (Nat.le_of_ble_eq_true rfl) ft_6_4 rfl rfl (so_0_4 (by omega)) (rm_nm (fun x_5 ex_5 => ?_))
  refine rm_aload_n hc dX6_sendAgain_20 rfl rfl ?_
  refine rm_aload_n hc dX6_sendAgain_21 rfl rfl ?_
  refine rm_get hc dX6_sendAgain_22 fl_X6_30 (dm_0 (by omega)) rfl rfl ?_
  refine rm_iload_n hc dX6_sendAgain_25 rfl rfl ?_
  refine rm_calliV (As := [.int (nI (ii))]) (rest := [.ref (ad 0 0 0)]) hc dX6_sendAgain_26 (c_X0_number hI x_5 (k := 0) (by omega) (nI (ii))) mv_X6_85 (dm_6 (by omega)) rfl rfl (hn := rfl) (hst := rfl) (hw := Nat.le_of_ble_eq_true rfl) (hR := ⟨⟨rfl, rfl⟩, Nat.le_of_ble_eq_true rfl, Nat.le_of_ble_eq_true rfl⟩) (hnc := ⟨Nat.zero_le _, Nat.zero_le _⟩) (fun r_6 y_6 h_6 => ?_)
  obtain ⟨e_6, ey_6⟩ := h_6
  obtain rfl := ey_6.symm
  refine rm_iload_n hc dX6_sendAgain_29 rfl rfl ?_
  refine rm_calliV (As := [.int r_6, .int msk]) (rest := []) hc dX6_sendAgain_30 (c_X6_send hI x_5 (k := 0) (by omega) r_6 msk mm (by omega) (by subst_vars; rw [up_n _ _ (by omega)]; exact hw)) mv_X6_78 (dm_0 (by omega)) rfl rfl (hn := rfl) (hst := rfl) (hw := Nat.le_of_ble_eq_true rfl) (hR := ⟨⟨rfl, rfl⟩, Nat.le_of_ble_eq_true rfl, Nat.le_of_ble_eq_true rfl⟩) (hnc := ⟨Nat.zero_le _, Nat.zero_le _⟩) (fun r_7 y_7 h_7 => ?_)
  obtain ⟨e_7, ey_7⟩ := h_7
  refine rm_istore_n (ls' := [(0, .ref (ad 0 0 0)), (1, .int (nI (ii))), (2, .int msk), (3, .int r_7)]) hc dX6_sendAgain_33 rfl (by decide) rfl ?_
  refine rm_aload_n hc dX6_sendAgain_34 rfl rfl ?_
  refine rm_dup hc dX6_sendAgain_35 rfl ?_
  refine rm_geti hc dX6_sendAgain_36 fl_X6_58 (dm_0 (by omega)) rfl rfl (fun v_8 e_8 => ?_)
  refine rm_iload_n hc dX6_sendAgain_39 rfl rfl ?_
  obtain ⟨bn, hbn, hbe⟩ : ∃ bn, bn < 8 ∧ r_7 = nI bn := by rw [e_7]; exact send_8
  obtain rfl := hbe
  refine rm_calliS (As := [.int (nI bn)]) (rest := [.int v_8, .ref (ad 0 0 0)]) hc dX6_sendAgain_40 (c_J6_bitCount_0f7a4 hI y_7 hbn) ms_X6_89 (hn := rfl) (hst := rfl) (hw := Nat.le_of_ble_eq_true rfl) (hR := ⟨⟨rfl, rfl⟩, Nat.le_of_ble_eq_true rfl, Nat.le_of_ble_eq_true rfl⟩) (hnc := ⟨Nat.zero_le _, Nat.zero_le _⟩) (fun r_9 y_9 h_9 => ?_)
  obtain ⟨e_9, ey_9⟩ := h_9
  obtain rfl := ey_9.symm
  refine rm_iadd hc dX6_sendAgain_43 (fun v_10 e_10 => ?_)
  refine rm_put hc dX6_sendAgain_44 fl_X6_58 (dm_0 (by omega)) rfl (Nat.le_of_ble_eq_true rfl) ft_6_5 rfl rfl (so_0_5 (by omega)) (rm_nm (fun x_11 ex_11 => ?_))
  refine rm_iload_n hc dX6_sendAgain_47 rfl rfl ?_
  exact rm_iret hc dX6_sendAgain_48 ⟨by subst_vars; exact e_7, by simp only [agnS]; subst_vars; rw [← e_7, nI_clamp (by omega)]⟩

abbrev rm_X8_tryNumber : Room := { frames := 3, cells := 0, slots := 0, locals := 72 }
set_option maxHeartbeats 4000000 in
set_option maxRecDepth 100000 in
theorem c_X8_tryNumber {l : Launch} {D : va_G} {cy : Nat → ClassId} {ad : Ads} (hI : IJ ad) (x : Mem) {d : Nat} (hd3 : d < 3) (mm : Nat) (hmm : mm < 2 ^ 30) (hw : x 0 1 = nI mm) (hF : FLG x 0) (num : Int32) : Cti l yX8_tryNumber cX8_tryNumber 3 (some .int) rm_X8_tryNumber D cy ad [.ref (ad 8 9 0), .ref (ad 0 4 d), .int num] x (fun r y => r = hrR x 0 d 0 num mm ∧ E7 x y) := by
  refine rm_entry (Qc := Qi D cy ad (fun r y => r = hrR x 0 d 0 num mm ∧ E7 x y)) hI (by decide) (Nat.le_of_ble_eq_true rfl) ?_
  intro p e s m args below meth c hc
  show RM _ _ _ _ _ _ _ _ _ _ _ _ _ _ _ _ _ [(0, .ref (ad 8 9 0)), (1, .ref (ad 0 4 d)), (2, .int num)] []
  refine rm_aload_n hc dX8_tryNumber_0 rfl rfl ?_
  refine rm_get hc dX8_tryNumber_1 fl_X8_33 dm_9 rfl rfl ?_
  refine rm_aload_n hc dX8_tryNumber_4 rfl rfl ?_
  refine rm_callvV (As := [.ref (ad 0 4 d)]) (rest := []) hc dX8_tryNumber_5 (c_X1_copyFrom hI x (k := 7) (d := 0) (k2 := 0) (d2 := d) (by omega) (by omega) (by omega) (by omega) (by omega) (by omega) (by omega) (hF d hd3).2 (hF d hd3).1) mv_X8_258 (dm_4 (by omega) (by omega) (by omega)) rfl rfl (hn := rfl) (hst := rfl) (hw := Nat.le_of_ble_eq_true rfl) (hR := ⟨⟨rfl, rfl⟩, Nat.le_of_ble_eq_true rfl, Nat.le_of_ble_eq_true rfl⟩) (hnc := ⟨Nat.zero_le _, Nat.zero_le _⟩) (fun y_1 h_1 => ?_)
  have hy1 : y_1 = triM x d := h_1
  refine rm_aload_n hc dX8_tryNumber_8 rfl rfl ?_
  refine rm_get hc dX8_tryNumber_9 fl_X8_33 dm_9 rfl rfl ?_
  refine rm_iload_n hc dX8_tryNumber_12 rfl rfl ?_
  refine rm_aload_n hc dX8_tryNumber_13 rfl rfl ?_
  refine rm_get hc dX8_tryNumber_14 fl_X8_10 dm_9 rfl rfl ?_
  refine rm_get hc dX8_tryNumber_17 fl_X8_129 (dm_0 (by omega)) rfl rfl ?_
  refine rm_calliV (As := [.int num, .ref (ad 0 8 0)]) (rest := []) hc dX8_tryNumber_20 (c_X1_hear hI y_1 (k := 7) (d := 0) (k2 := 0) (by omega) (by omega) (by omega) (by omega) num _ mm (by omega) (by rw [hy1]; exact (E7.tri.at (by omega)).trans hw) rfl) mv_X8_262 (dm_4 (by omega) (by omega) (by omega)) rfl rfl (hn := rfl) (hst := rfl) (hw := Nat.le_of_ble_eq_true rfl) (hR := ⟨⟨rfl, rfl⟩, Nat.le_of_ble_eq_true rfl, Nat.le_of_ble_eq_true rfl⟩) (hnc := ⟨Nat.zero_le _, Nat.zero_le _⟩) (fun r_2 y_2 h_2 => ?_)
  obtain ⟨e_2, ey_2⟩ := h_2
  exact rm_iret hc dX8_tryNumber_23 ⟨by rw [e_2, hy1]; exact tri_hr, by rw [ey_2, hy1]; exact E7.tri.tr E7.hrM⟩

abbrev rm_X8_pressesToOpen : Room := { frames := 3, cells := 0, slots := 0, locals := 72 }
set_option maxHeartbeats 4000000 in
set_option maxRecDepth 100000 in
theorem c_X8_pressesToOpen {l : Launch} {D : va_G} {cy : Nat → ClassId} {ad : Ads} (hI : IJ ad) (x : Mem) {j d nb : Nat} (hj : j < 4) (hd3 : d < 3) (mm : Nat) (hmm : mm < 2 ^ 30) (hw : x 0 1 = nI mm) (hF : FLG x 0) (hnb : x 0 (16 + 4 * j) = nI nb) (hb9 : nb ≤ 999) : Cti l yX8_pressesToOpen cX8_pressesToOpen 7 (some .int) rm_X8_pressesToOpen D cy ad [.ref (ad 8 9 0), .ref (ad 0 2 j), .ref (ad 0 4 d)] x (fun r y => r = ptoS (x 0 (14 + 4 * j)) mm (if nb < 50 then nb else 50) (triM x d) (x 0 (15 + 4 * j)) 0 ∧ E7 x y) := by
  refine rm_entry (Qc := Qi D cy ad (fun r y => r = ptoS (x 0 (14 + 4 * j)) mm (if nb < 50 then nb else 50) (triM x d) (x 0 (15 + 4 * j)) 0 ∧ E7 x y)) hI (by decide) (Nat.le_of_ble_eq_true rfl) ?_
  intro p e s m args below meth c hc
  show RM _ _ _ _ _ _ _ _ _ _ _ _ _ _ _ _ _ [(0, .ref (ad 8 9 0)), (1, .ref (ad 0 2 j)), (2, .ref (ad 0 4 d))] []
  refine rm_aload_n hc dX8_pressesToOpen_0 rfl rfl ?_
  refine rm_get hc dX8_pressesToOpen_1 fl_X8_33 dm_9 rfl rfl ?_
  refine rm_aload_n hc dX8_pressesToOpen_4 rfl rfl ?_
  refine rm_callvV (As := [.ref (ad 0 4 d)]) (rest := []) hc dX8_pressesToOpen_5 (c_X1_copyFrom hI x (k := 7) (d := 0) (k2 := 0) (d2 := d) (by omega) (by omega) (by omega) (by omega) (by omega) (by omega) (by omega) (hF d hd3).2 (hF d hd3).1) mv_X8_258 (dm_4 (by omega) (by omega) (by omega)) rfl rfl (hn := rfl) (hst := rfl) (hw := Nat.le_of_ble_eq_true rfl) (hR := ⟨⟨rfl, rfl⟩, Nat.le_of_ble_eq_true rfl, Nat.le_of_ble_eq_true rfl⟩) (hnc := ⟨Nat.zero_le _, Nat.zero_le _⟩) (fun y_1 h_1 => ?_)
  refine rm_bipush (v := 50) hc dX8_pressesToOpen_8 (by decide) ?_
  refine rm_aload_n hc dX8_pressesToOpen_10 rfl rfl ?_
  refine rm_geti hc dX8_pressesToOpen_11 fl_X8_62 (dm_2 (by omega) (by omega)) rfl rfl (fun v_2 e_2 => ?_)
  obtain rfl : v_2 = nI nb := e_2.trans (((show E7 x y_1 by rw [h_1]; exact E7.tri).at (by omega)).trans hnb)
  refine rm_min hc dX8_pressesToOpen_14 kl_min_X8 (Nat.le_of_ble_eq_true rfl) (Nat.le_of_ble_eq_true rfl) ⟨Nat.zero_le _, Nat.zero_le _⟩ (fun v_3 e_3 => ?_)
  obtain ⟨mo, hmo⟩ : ∃ mo : Nat, mo = if nb < 50 then nb else 50 := ⟨_, rfl⟩
  have hmo5 : mo ≤ 50 := by rw [hmo]; split <;> omega
  obtain rfl : v_3 = nI mo := by rw [e_3, hmo]; exact min50 (by omega)
  refine rm_istore_n (ls' := [(0, .ref (ad 8 9 0)), (1, .ref (ad 0 2 j)), (2, .ref (ad 0 4 d)), (3, .int (nI (mo)))]) hc dX8_pressesToOpen_17 rfl (by decide) rfl ?_
  refine rm_aload_n hc dX8_pressesToOpen_18 rfl rfl ?_
  refine rm_geti hc dX8_pressesToOpen_19 fl_X8_53 (dm_2 (by omega) (by omega)) rfl rfl (fun v_4 e_4 => ?_)
  replace e_4 : v_4 = x 0 (15 + 4 * j) := e_4.trans ((show E7 x y_1 by rw [h_1]; exact E7.tri).at (by omega))
  refine rm_istore (ls' := [(0, .ref (ad 8 9 0)), (1, .ref (ad 0 2 j)), (2, .ref (ad 0 4 d)), (3, .int (nI (mo))), (4, .int v_4)]) hc dX8_pressesToOpen_22 (by decide) rfl ?_
  refine rm_iconst (v := 1) hc dX8_pressesToOpen_24 (by decide) ?_
  refine rm_istore (ls' := [(0, .ref (ad 8 9 0)), (1, .ref (ad 0 2 j)), (2, .ref (ad 0 4 d)), (3, .int (nI (mo))), (4, .int v_4), (5, .int 1)]) hc dX8_pressesToOpen_25 (by decide) rfl ?_
  have key27 : ∀ (f : Nat) (i : Nat) (zm : Mem) (cv : Int32), i + f = mo → E7 x zm → ptoS (x 0 (14 + 4 * j)) mm f zm cv i = ptoS (x 0 (14 + 4 * j)) mm (if nb < 50 then nb else 50) (triM x d) (x 0 (15 + 4 * j)) 0 → RM p l e rm_X8_pressesToOpen s m args below meth c 7 (AA ad s.heap.size) (GG D cy ad zm) 0 0 (QQ (Qi D cy ad (fun r y => r = ptoS (x 0 (14 + 4 * j)) mm (if nb < 50 then nb else 50) (triM x d) (x 0 (15 + 4 * j)) 0 ∧ E7 x y)) below args s ad) 27 [(0, .ref (ad 8 9 0)), (1, .ref (ad 0 2 j)), (2, .ref (ad 0 4 d)), (3, .int (nI (mo))), (4, .int cv), (5, .int (nI (i + 1)))] [] := by
    intro f
    induction f with
    | zero =>
      intro i zm cv hif hE hst
      refine rm_iload hc dX8_pressesToOpen_27 rfl ?_
      refine rm_iload_n hc dX8_pressesToOpen_29 rfl rfl ?_
      refine rm_icmp_gt (tgt := 87) hc dX8_pressesToOpen_30 (by decide) (fun _ => ?_) (fun h => absurd ((nI_ltI (a := mo) (b := i + 1) (by omega) (by omega)).mpr (by omega)) h)
      refine rm_iconst (v := -1) hc dX8_pressesToOpen_87 (by decide) ?_
      exact rm_iret hc dX8_pressesToOpen_88 ⟨by rw [← hst]; rfl, hE⟩
    | succ f ih =>
      intro i zm cv hif hE hst
      refine rm_iload hc dX8_pressesToOpen_27 rfl ?_
      refine rm_iload_n hc dX8_pressesToOpen_29 rfl rfl ?_
      refine rm_icmp_gt (tgt := 87) hc dX8_pressesToOpen_30 (by decide) (fun h => absurd h (fun h2 => absurd ((nI_ltI (a := mo) (b := i + 1) (by omega) (by omega)).mp h2) (by omega))) (fun _ => ?_)
      refine rm_iload hc dX8_pressesToOpen_33 rfl ?_
      refine rm_calliS (As := [.int cv]) (rest := []) hc dX8_pressesToOpen_35 (c_X8_counterBehind hI zm cv) ms_X8_270 (hn := rfl) (hst := rfl) (hw := Nat.le_of_ble_eq_true rfl) (hR := ⟨⟨rfl, rfl⟩, Nat.le_of_ble_eq_true rfl, Nat.le_of_ble_eq_true rfl⟩) (hnc := ⟨Nat.zero_le _, Nat.zero_le _⟩) (fun r_7 y_7 h_7 => ?_)
      obtain ⟨e_7, ey_7⟩ := h_7
      obtain rfl := ey_7.symm
      refine rm_istore (ls' := [(0, .ref (ad 8 9 0)), (1, .ref (ad 0 2 j)), (2, .ref (ad 0 4 d)), (3, .int (nI (mo))), (4, .int r_7), (5, .int (nI (i + 1)))]) hc dX8_pressesToOpen_38 (by decide) rfl ?_
      refine rm_aload_n hc dX8_pressesToOpen_40 rfl rfl ?_
      refine rm_get hc dX8_pressesToOpen_41 fl_X8_33 dm_9 rfl rfl ?_
      refine rm_aload_n hc dX8_pressesToOpen_44 rfl rfl ?_
      refine rm_geti hc dX8_pressesToOpen_45 fl_X8_59 (dm_2 (by omega) (by omega)) rfl rfl (fun v_8 e_8 => ?_)
      replace e_8 : v_8 = x 0 (14 + 4 * j) := e_8.trans (hE.at (by omega))
      refine rm_iload hc dX8_pressesToOpen_48 rfl ?_
      refine rm_calliS (As := [.int v_8, .int r_7]) (rest := [.ref (ad 7 4 0)]) hc dX8_pressesToOpen_50 (c_X8_numberOf hI zm v_8 r_7) ms_X8_273 (hn := rfl) (hst := rfl) (hw := Nat.le_of_ble_eq_true rfl) (hR := ⟨⟨rfl, rfl⟩, Nat.le_of_ble_eq_true rfl, Nat.le_of_ble_eq_true rfl⟩) (hnc := ⟨Nat.zero_le _, Nat.zero_le _⟩) (fun r_9 y_9 h_9 => ?_)
      obtain ⟨e_9, ey_9⟩ := h_9
      obtain rfl := ey_9.symm
      refine rm_aload_n hc dX8_pressesToOpen_53 rfl rfl ?_
      refine rm_get hc dX8_pressesToOpen_54 fl_X8_10 dm_9 rfl rfl ?_
      refine rm_get hc dX8_pressesToOpen_57 fl_X8_129 (dm_0 (by omega)) rfl rfl ?_
      refine rm_calliV (As := [.int r_9, .ref (ad 0 8 0)]) (rest := []) hc dX8_pressesToOpen_60 (c_X1_hear hI zm (k := 7) (d := 0) (k2 := 0) (by omega) (by omega) (by omega) (by omega) r_9 _ mm (by omega) ((hE.at (by omega)).trans hw) rfl) mv_X8_262 (dm_4 (by omega) (by omega) (by omega)) rfl rfl (hn := rfl) (hst := rfl) (hw := Nat.le_of_ble_eq_true rfl) (hR := ⟨⟨rfl, rfl⟩, Nat.le_of_ble_eq_true rfl, Nat.le_of_ble_eq_true rfl⟩) (hnc := ⟨Nat.zero_le _, Nat.zero_le _⟩) (fun r_10 y_10 h_10 => ?_)
      obtain ⟨e_10, ey_10⟩ := h_10
      refine rm_istore (ls' := [(0, .ref (ad 8 9 0)), (1, .ref (ad 0 2 j)), (2, .ref (ad 0 4 d)), (3, .int (nI (mo))), (4, .int r_7), (5, .int (nI (i + 1))), (6, .int r_10)]) hc dX8_pressesToOpen_63 (by decide) rfl ?_
      refine rm_iload hc dX8_pressesToOpen_65 rfl ?_
      refine rm_if_ne (tgt := 73) hc dX8_pressesToOpen_67 (by decide) (fun c_11 => ?_) (fun c_11 => ?_)
      · --T
        refine rm_iload hc dX8_pressesToOpen_73 rfl ?_
        refine rm_iconst (v := 3) hc dX8_pressesToOpen_75 (by decide) ?_
        refine rm_icmp_ne (tgt := 81) hc dX8_pressesToOpen_76 (by decide) (fun c_12 => ?_) (fun c_12 => ?_)
        · --T
          refine rm_iinc (v := (nI (i + 2))) (ls' := [(0, .ref (ad 8 9 0)), (1, .ref (ad 0 2 j)), (2, .ref (ad 0 4 d)), (3, .int (nI (mo))), (4, .int r_7), (5, .int (nI (i + 2))), (6, .int r_10)]) hc dX8_pressesToOpen_81 rfl (nIj (by omega)) (by decide) rfl ?_
          refine rm_goto (tgt := 27) hc dX8_pressesToOpen_84 (by decide) ?_
          refine rm_sub [0, 1, 2, 3, 4, 5] rfl ?_
          exact ih (i + 1) _ _ (by omega) (hE.tr (by rw [ey_10]; exact E7.hrM)) (by rw [← hst, pto_n (by subst_vars; assumption) (by subst_vars; assumption)]; subst_vars; rfl)
        · --F
          refine rm_iconst (v := -1) hc dX8_pressesToOpen_79 (by decide) ?_
          exact rm_iret hc dX8_pressesToOpen_80 ⟨by rw [← hst, pto_3 (by first | (subst_vars; assumption) | (symm; subst_vars; assumption))], (hE.tr (by rw [ey_10]; exact E7.hrM))⟩
      · --F
        refine rm_iload hc dX8_pressesToOpen_70 rfl ?_
        exact rm_iret hc dX8_pressesToOpen_72 ⟨by rw [← hst, pto_0 (by first | (subst_vars; assumption) | (symm; subst_vars; assumption))], (hE.tr (by rw [ey_10]; exact E7.hrM))⟩
  exact key27 mo 0 _ _ (by omega) (by rw [h_1]; exact E7.tri) (by rw [hmo]; subst_vars; rfl)

abbrev rm_X8_mostUnheard : Room := { frames := 4, cells := 0, slots := 0, locals := 94 }
set_option maxHeartbeats 4000000 in
set_option maxRecDepth 100000 in
theorem c_X8_mostUnheard {l : Launch} {D : va_G} {cy : Nat → ClassId} {ad : Ads} (hI : IJ ad) (x : Mem) {j d : Nat} (hj : j < 4) (hd3 : d < 3) (mm : Nat) (hmm : mm < 2 ^ 30) (hw : x 0 1 = nI mm) (hF : FLG x 0) : Cti l yX8_mostUnheard cX8_mostUnheard 6 (some .int) rm_X8_mostUnheard D cy ad [.ref (ad 8 9 0), .ref (ad 0 2 j), .ref (ad 0 4 d)] x (fun r y => r = munS x d (x 0 (14 + 4 * j)) mm 100 (x 0 (15 + 4 * j)) 0 (-1) ∧ E7 x y) := by
  refine rm_entry (Qc := Qi D cy ad (fun r y => r = munS x d (x 0 (14 + 4 * j)) mm 100 (x 0 (15 + 4 * j)) 0 (-1) ∧ E7 x y)) hI (by decide) (Nat.le_of_ble_eq_true rfl) ?_
  intro p e s m args below meth c hc
  show RM _ _ _ _ _ _ _ _ _ _ _ _ _ _ _ _ _ [(0, .ref (ad 8 9 0)), (1, .ref (ad 0 2 j)), (2, .ref (ad 0 4 d))] []
  refine rm_iconst (v := -1) hc dX8_mostUnheard_0 (by decide) ?_
  refine rm_istore_n (ls' := [(0, .ref (ad 8 9 0)), (1, .ref (ad 0 2 j)), (2, .ref (ad 0 4 d)), (3, .int (-1))]) hc dX8_mostUnheard_1 rfl (by decide) rfl ?_
  refine rm_aload_n hc dX8_mostUnheard_2 rfl rfl ?_
  refine rm_geti hc dX8_mostUnheard_3 fl_X8_53 (dm_2 (by omega) (by omega)) rfl rfl (fun v_1 e_1 => ?_)
  refine rm_istore (ls' := [(0, .ref (ad 8 9 0)), (1, .ref (ad 0 2 j)), (2, .ref (ad 0 4 d)), (3, .int (-1)), (4, .int v_1)]) hc dX8_mostUnheard_6 (by decide) rfl ?_
  refine rm_iconst (v := 0) hc dX8_mostUnheard_8 (by decide) ?_
  refine rm_istore (ls' := [(0, .ref (ad 8 9 0)), (1, .ref (ad 0 2 j)), (2, .ref (ad 0 4 d)), (3, .int (-1)), (4, .int v_1), (5, .int 0)]) hc dX8_mostUnheard_9 (by decide) rfl ?_
  have key11 : ∀ (f : Nat) (i : Nat) (zm : Mem) (cv rv : Int32), i + f = 100 → E7 x zm → munS x d (x 0 (14 + 4 * j)) mm f cv i rv = munS x d (x 0 (14 + 4 * j)) mm 100 (x 0 (15 + 4 * j)) 0 (-1) → RM p l e rm_X8_mostUnheard s m args below meth c 6 (AA ad s.heap.size) (GG D cy ad zm) 0 0 (QQ (Qi D cy ad (fun r y => r = munS x d (x 0 (14 + 4 * j)) mm 100 (x 0 (15 + 4 * j)) 0 (-1) ∧ E7 x y)) below args s ad) 11 [(0, .ref (ad 8 9 0)), (1, .ref (ad 0 2 j)), (2, .ref (ad 0 4 d)), (3, .int rv), (4, .int cv), (5, .int (nI (i)))] [] := by
    intro f
    induction f with
    | zero =>
      intro i zm cv rv hif hE hst
      refine rm_iload hc dX8_mostUnheard_11 rfl ?_
      refine rm_bipush (v := 99) hc dX8_mostUnheard_13 (by decide) ?_
      refine rm_icmp_gt (tgt := 53) hc dX8_mostUnheard_15 (by decide) (fun _ => ?_) (fun h => absurd ((nI_ltI (a := 99) (b := i) (by omega) (by omega)).mpr (by omega)) h)
      refine rm_iload_n hc dX8_mostUnheard_53 rfl rfl ?_
      exact rm_iret hc dX8_mostUnheard_54 ⟨by rw [← hst]; rfl, hE⟩
    | succ f ih =>
      intro i zm cv rv hif hE hst
      refine rm_iload hc dX8_mostUnheard_11 rfl ?_
      refine rm_bipush (v := 99) hc dX8_mostUnheard_13 (by decide) ?_
      refine rm_icmp_gt (tgt := 53) hc dX8_mostUnheard_15 (by decide) (fun h => absurd h (fun h2 => absurd ((nI_ltI (a := 99) (b := i) (by omega) (by omega)).mp h2) (by omega))) (fun _ => ?_)
      refine rm_iload hc dX8_mostUnheard_18 rfl ?_
      refine rm_calliS (As := [.int cv]) (rest := []) hc dX8_mostUnheard_20 (c_X8_counterBehind hI zm cv) ms_X8_270 (hn := rfl) (hst := rfl) (hw := Nat.le_of_ble_eq_true rfl) (hR := ⟨⟨rfl, rfl⟩, Nat.le_of_ble_eq_true rfl, Nat.le_of_ble_eq_true rfl⟩) (hnc := ⟨Nat.zero_le _, Nat.zero_le _⟩) (fun r_4 y_4 h_4 => ?_)
      obtain ⟨e_4, ey_4⟩ := h_4
      obtain rfl := ey_4.symm
      refine rm_istore (ls' := [(0, .ref (ad 8 9 0)), (1, .ref (ad 0 2 j)), (2, .ref (ad 0 4 d)), (3, .int rv), (4, .int r_4), (5, .int (nI (i)))]) hc dX8_mostUnheard_23 (by decide) rfl ?_
      refine rm_aload_n hc dX8_mostUnheard_25 rfl rfl ?_
      refine rm_aload_n hc dX8_mostUnheard_26 rfl rfl ?_
      refine rm_aload_n hc dX8_mostUnheard_27 rfl rfl ?_
      refine rm_geti hc dX8_mostUnheard_28 fl_X8_59 (dm_2 (by omega) (by omega)) rfl rfl (fun v_5 e_5 => ?_)
      replace e_5 : v_5 = x 0 (14 + 4 * j) := e_5.trans (hE.at (by omega))
      refine rm_iload hc dX8_mostUnheard_31 rfl ?_
      refine rm_calliS (As := [.int v_5, .int r_4]) (rest := [.ref (ad 0 4 d), .ref (ad 8 9 0)]) hc dX8_mostUnheard_33 (c_X8_numberOf hI zm v_5 r_4) ms_X8_273 (hn := rfl) (hst := rfl) (hw := Nat.le_of_ble_eq_true rfl) (hR := ⟨⟨rfl, rfl⟩, Nat.le_of_ble_eq_true rfl, Nat.le_of_ble_eq_true rfl⟩) (hnc := ⟨Nat.zero_le _, Nat.zero_le _⟩) (fun r_6 y_6 h_6 => ?_)
      obtain ⟨e_6, ey_6⟩ := h_6
      obtain rfl := ey_6.symm
      refine rm_calliV (As := [.ref (ad 0 4 d), .int r_6]) (rest := []) hc dX8_mostUnheard_36 (c_X8_tryNumber hI zm (d := d) (by omega) mm (by omega) ((hE.at (by omega)).trans hw) (hE.flg (by omega) hF) r_6) mv_X8_179 dm_9 rfl rfl (hn := rfl) (hst := rfl) (hw := Nat.le_of_ble_eq_true rfl) (hR := ⟨⟨rfl, rfl⟩, Nat.le_of_ble_eq_true rfl, Nat.le_of_ble_eq_true rfl⟩) (hnc := ⟨Nat.zero_le _, Nat.zero_le _⟩) (fun r_7 y_7 h_7 => ?_)
      obtain ⟨e_7, ey_7⟩ := h_7
      refine rm_if_eq (tgt := 44) hc dX8_mostUnheard_39 (by decide) (fun c_8 => ?_) (fun c_8 => ?_)
      · --T
        refine rm_iload hc dX8_mostUnheard_44 rfl ?_
        refine rm_istore_n (ls' := [(0, .ref (ad 8 9 0)), (1, .ref (ad 0 2 j)), (2, .ref (ad 0 4 d)), (3, .int (nI (i))), (4, .int r_4), (5, .int (nI (i)))]) hc dX8_mostUnheard_46 rfl (by decide) rfl ?_
        refine rm_iinc (v := (nI (i + 1))) (ls' := [(0, .ref (ad 8 9 0)), (1, .ref (ad 0 2 j)), (2, .ref (ad 0 4 d)), (3, .int (nI (i))), (4, .int r_4), (5, .int (nI (i + 1)))]) hc dX8_mostUnheard_47 rfl (nIj (by omega)) (by decide) rfl ?_
        refine rm_goto (tgt := 11) hc dX8_mostUnheard_50 (by decide) ?_
        exact ih (i + 1) _ _ _ (by omega) (hE.tr ey_7) (by rw [← hst, mun_y (by rw [← hE.hrd]; first | (subst_vars; assumption) | (symm; subst_vars; assumption))]; subst_vars; rfl)
      · --F
        refine rm_iload_n hc dX8_mostUnheard_42 rfl rfl ?_
        exact rm_iret hc dX8_mostUnheard_43 ⟨by rw [← hst, mun_n (by rw [← hE.hrd]; subst_vars; assumption)], (hE.tr ey_7)⟩
  exact key11 100 0 _ _ _ (by omega) (E7.rf x) (by subst_vars; rfl)

abbrev rm_X8_firstUseful : Room := { frames := 4, cells := 0, slots := 0, locals := 94 }
set_option maxHeartbeats 4000000 in
set_option maxRecDepth 100000 in
theorem c_X8_firstUseful {l : Launch} {D : va_G} {cy : Nat → ClassId} {ad : Ads} (hI : IJ ad) (x : Mem) {d nr : Nat} (hd3 : d < 3) (mm : Nat) (hmm : mm < 2 ^ 30) (hw : x 0 1 = nI mm) (hF : FLG x 0) (hnr : x 0 5 = nI nr) (hr8 : nr ≤ 8) : Cti l yX8_firstUseful cX8_firstUseful 3 (some .int) rm_X8_firstUseful D cy ad [.ref (ad 8 9 0), .ref (ad 0 4 d)] x (fun r y => r = fusS x d mm nr 0 ∧ E7 x y) := by
  refine rm_entry (Qc := Qi D cy ad (fun r y => r = fusS x d mm nr 0 ∧ E7 x y)) hI (by decide) (Nat.le_of_ble_eq_true rfl) ?_
  intro p e s m args below meth c hc
  show RM _ _ _ _ _ _ _ _ _ _ _ _ _ _ _ _ _ [(0, .ref (ad 8 9 0)), (1, .ref (ad 0 4 d))] []
  refine rm_iconst (v := 0) hc dX8_firstUseful_0 (by decide) ?_
  refine rm_istore_n (ls' := [(0, .ref (ad 8 9 0)), (1, .ref (ad 0 4 d)), (2, .int 0)]) hc dX8_firstUseful_1 rfl (by decide) rfl ?_
  have key2 : ∀ (f : Nat) (i : Nat) (zm : Mem), i + f = nr → E7 x zm → fusS x d mm f i = fusS x d mm nr 0 → RM p l e rm_X8_firstUseful s m args below meth c 3 (AA ad s.heap.size) (GG D cy ad zm) 0 0 (QQ (Qi D cy ad (fun r y => r = fusS x d mm nr 0 ∧ E7 x y)) below args s ad) 2 [(0, .ref (ad 8 9 0)), (1, .ref (ad 0 4 d)), (2, .int (nI (i)))] [] := by
    intro f
    induction f with
    | zero =>
      intro i zm hif hE hst
      refine rm_iload_n hc dX8_firstUseful_2 rfl rfl ?_
      refine rm_aload_n hc dX8_firstUseful_3 rfl rfl ?_
      refine rm_get hc dX8_firstUseful_4 fl_X8_10 dm_9 rfl rfl ?_
      refine rm_get hc dX8_firstUseful_7 fl_X8_77 (dm_0 (by omega)) rfl rfl ?_
      refine rm_geti hc dX8_firstUseful_10 fl_X8_81 (dm_6 (by omega)) rfl rfl (fun v_1 e_1 => ?_)
      obtain rfl : v_1 = nI nr := e_1.trans ((hE.at (by omega)).trans hnr)
      refine rm_icmp_ge (tgt := 43) hc dX8_firstUseful_13 (by decide) (fun _ => ?_) (fun h => absurd ((nI_leI (a := nr) (b := i) (by omega) (by omega)).mpr (by omega)) h)
      refine rm_iconst (v := -1) hc dX8_firstUseful_43 (by decide) ?_
      exact rm_iret hc dX8_firstUseful_44 ⟨by rw [← hst]; rfl, hE⟩
    | succ f ih =>
      intro i zm hif hE hst
      refine rm_iload_n hc dX8_firstUseful_2 rfl rfl ?_
      refine rm_aload_n hc dX8_firstUseful_3 rfl rfl ?_
      refine rm_get hc dX8_firstUseful_4 fl_X8_10 dm_9 rfl rfl ?_
      refine rm_get hc dX8_firstUseful_7 fl_X8_77 (dm_0 (by omega)) rfl rfl ?_
      refine rm_geti hc dX8_firstUseful_10 fl_X8_81 (dm_6 (by omega)) rfl rfl (fun v_3 e_3 => ?_)
      obtain rfl : v_3 = nI nr := e_3.trans ((hE.at (by omega)).trans hnr)
      refine rm_icmp_ge (tgt := 43) hc dX8_firstUseful_13 (by decide) (fun h => absurd h (fun h2 => absurd ((nI_leI (a := nr) (b := i) (by omega) (by omega)).mp h2) (by omega))) (fun _ => ?_)
      refine rm_aload_n hc dX8_firstUseful_16 rfl rfl ?_
      refine rm_aload_n hc dX8_firstUseful_17 rfl rfl ?_
      refine rm_aload_n hc dX8_firstUseful_18 rfl rfl ?_
      refine rm_get hc dX8_firstUseful_19 fl_X8_10 dm_9 rfl rfl ?_
      refine rm_get hc dX8_firstUseful_22 fl_X8_77 (dm_0 (by omega)) rfl rfl ?_
      refine rm_iload_n hc dX8_firstUseful_25 rfl rfl ?_
      refine rm_calliV (As := [.int (nI (i))]) (rest := [.ref (ad 0 4 d), .ref (ad 8 9 0)]) hc dX8_firstUseful_26 (c_X0_number hI zm (k := 0) (by omega) (nI (i))) mv_X8_172 (dm_6 (by omega)) rfl rfl (hn := rfl) (hst := rfl) (hw := Nat.le_of_ble_eq_true rfl) (hR := ⟨⟨rfl, rfl⟩, Nat.le_of_ble_eq_true rfl, Nat.le_of_ble_eq_true rfl⟩) (hnc := ⟨Nat.zero_le _, Nat.zero_le _⟩) (fun r_5 y_5 h_5 => ?_)
      obtain ⟨e_5, ey_5⟩ := h_5
      obtain rfl := ey_5.symm
      refine rm_calliV (As := [.ref (ad 0 4 d), .int r_5]) (rest := []) hc dX8_firstUseful_29 (c_X8_tryNumber hI zm (d := d) (by omega) mm (by omega) ((hE.at (by omega)).trans hw) (hE.flg (by omega) hF) r_5) mv_X8_179 dm_9 rfl rfl (hn := rfl) (hst := rfl) (hw := Nat.le_of_ble_eq_true rfl) (hR := ⟨⟨rfl, rfl⟩, Nat.le_of_ble_eq_true rfl, Nat.le_of_ble_eq_true rfl⟩) (hnc := ⟨Nat.zero_le _, Nat.zero_le _⟩) (fun r_6 y_6 h_6 => ?_)
      obtain ⟨e_6, ey_6⟩ := h_6
      refine rm_if_ne (tgt := 37) hc dX8_firstUseful_32 (by decide) (fun c_7 => ?_) (fun c_7 => ?_)
      · --T
        refine rm_iinc (v := (nI (i + 1))) (ls' := [(0, .ref (ad 8 9 0)), (1, .ref (ad 0 4 d)), (2, .int (nI (i + 1)))]) hc dX8_firstUseful_37 rfl (nIj (by omega)) (by decide) rfl ?_
        refine rm_goto (tgt := 2) hc dX8_firstUseful_40 (by decide) ?_
        exact ih (i + 1) _ (by omega) (hE.tr ey_6) (by rw [← hst, fus_n (by rw [← hE.hrd, ← hE.num]; subst_vars; assumption)])
      · --F
        refine rm_iload_n hc dX8_firstUseful_35 rfl rfl ?_
        exact rm_iret hc dX8_firstUseful_36 ⟨by rw [← hst, fus_y (by rw [← hE.hrd, ← hE.num]; first | (subst_vars; assumption) | (symm; subst_vars; assumption))], (hE.tr ey_6)⟩
  exact key2 nr 0 _ (by omega) (E7.rf x) rfl

abbrev rm_X8_counted : Room := { frames := 2, cells := 0, slots := 0, locals := 46 }
set_option maxHeartbeats 4000000 in
set_option maxRecDepth 100000 in
theorem c_X8_counted {l : Launch} {D : va_G} {cy : Nat → ClassId} {ad : Ads} (hI : IJ ad) (x : Mem) (w : Int32) : Cti l yX8_counted cX8_counted 2 (some .int) rm_X8_counted D cy ad [.ref (ad 8 9 0), .int w] x (fun r y => r = cntS x w ∧ y = x) := by
  refine rm_entry (Qc := Qi D cy ad (fun r y => r = cntS x w ∧ y = x)) hI (by decide) (Nat.le_of_ble_eq_true rfl) ?_
  intro p e s m args below meth c hc
  show RM _ _ _ _ _ _ _ _ _ _ _ _ _ _ _ _ _ [(0, .ref (ad 8 9 0)), (1, .int w)] []
  refine rm_iload_n hc dX8_counted_0 rfl rfl ?_
  by_cases z_1 : w = 0
  · --case 0
    subst z_1
    refine rm_tin (off := 47) (tgt := 48) hc dX8_counted_1 (by decide) (by decide) (by decide) (by decide) ?_
    refine rm_aload_n hc dX8_counted_48 rfl rfl ?_
    refine rm_get hc dX8_counted_49 fl_X8_10 dm_9 rfl rfl ?_
    refine rm_calliV (As := []) (rest := []) hc dX8_counted_52 (c_X6_presses hI x (k := 0) (by omega)) mv_X8_243 (dm_0 (by omega)) rfl rfl (hn := rfl) (hst := rfl) (hw := Nat.le_of_ble_eq_true rfl) (hR := ⟨⟨rfl, rfl⟩, Nat.le_of_ble_eq_true rfl, Nat.le_of_ble_eq_true rfl⟩) (hnc := ⟨Nat.zero_le _, Nat.zero_le _⟩) (fun r_2 y_2 h_2 => ?_)
    obtain ⟨e_2, ey_2⟩ := h_2
    obtain rfl := ey_2.symm
    exact rm_iret hc dX8_counted_55 ⟨by subst_vars; simp [cntS, *], rfl⟩
  by_cases z_3 : w = 1
  · --case 1
    subst z_3
    refine rm_tin (off := 55) (tgt := 56) hc dX8_counted_1 (by decide) (by decide) (by decide) (by decide) ?_
    refine rm_aload_n hc dX8_counted_56 rfl rfl ?_
    refine rm_get hc dX8_counted_57 fl_X8_10 dm_9 rfl rfl ?_
    refine rm_geti hc dX8_counted_60 fl_X8_246 (dm_0 (by omega)) rfl rfl (fun v_4 e_4 => ?_)
    exact rm_iret hc dX8_counted_63 ⟨by subst_vars; simp [cntS, *], rfl⟩
  by_cases z_5 : w = 2
  · --case 2
    subst z_5
    refine rm_tin (off := 63) (tgt := 64) hc dX8_counted_1 (by decide) (by decide) (by decide) (by decide) ?_
    refine rm_aload_n hc dX8_counted_64 rfl rfl ?_
    refine rm_get hc dX8_counted_65 fl_X8_10 dm_9 rfl rfl ?_
    refine rm_calliV (As := []) (rest := []) hc dX8_counted_68 (c_X6_timesOpened hI x (k := 0) (by omega)) mv_X8_194 (dm_0 (by omega)) rfl rfl (hn := rfl) (hst := rfl) (hw := Nat.le_of_ble_eq_true rfl) (hR := ⟨⟨rfl, rfl⟩, Nat.le_of_ble_eq_true rfl, Nat.le_of_ble_eq_true rfl⟩) (hnc := ⟨Nat.zero_le _, Nat.zero_le _⟩) (fun r_6 y_6 h_6 => ?_)
    obtain ⟨e_6, ey_6⟩ := h_6
    obtain rfl := ey_6.symm
    exact rm_iret hc dX8_counted_71 ⟨by subst_vars; simp [cntS, *], rfl⟩
  by_cases z_7 : w = 3
  · --case 3
    subst z_7
    refine rm_tin (off := 71) (tgt := 72) hc dX8_counted_1 (by decide) (by decide) (by decide) (by decide) ?_
    refine rm_aload_n hc dX8_counted_72 rfl rfl ?_
    refine rm_get hc dX8_counted_73 fl_X8_10 dm_9 rfl rfl ?_
    refine rm_geti hc dX8_counted_76 fl_X8_249 (dm_0 (by omega)) rfl rfl (fun v_8 e_8 => ?_)
    exact rm_iret hc dX8_counted_79 ⟨by subst_vars; simp [cntS, *], rfl⟩
  by_cases z_9 : w = 4
  · --case 4
    subst z_9
    refine rm_tin (off := 79) (tgt := 80) hc dX8_counted_1 (by decide) (by decide) (by decide) (by decide) ?_
    refine rm_aload_n hc dX8_counted_80 rfl rfl ?_
    refine rm_get hc dX8_counted_81 fl_X8_10 dm_9 rfl rfl ?_
    refine rm_calliV (As := []) (rest := []) hc dX8_counted_84 (c_X6_openDoors hI x (k := 0) (by omega)) mv_X8_252 (dm_0 (by omega)) rfl rfl (hn := rfl) (hst := rfl) (hw := Nat.le_of_ble_eq_true rfl) (hR := ⟨⟨rfl, rfl⟩, Nat.le_of_ble_eq_true rfl, Nat.le_of_ble_eq_true rfl⟩) (hnc := ⟨Nat.zero_le _, Nat.zero_le _⟩) (fun r_10 y_10 h_10 => ?_)
    obtain ⟨e_10, ey_10⟩ := h_10
    obtain rfl := ey_10.symm
    exact rm_iret hc dX8_counted_87 ⟨by subst_vars; simp [cntS, *], rfl⟩
  by_cases z_11 : w = 5
  · --case 5
    subst z_11
    refine rm_tin (off := 87) (tgt := 88) hc dX8_counted_1 (by decide) (by decide) (by decide) (by decide) ?_
    refine rm_aload_n hc dX8_counted_88 rfl rfl ?_
    refine rm_get hc dX8_counted_89 fl_X8_10 dm_9 rfl rfl ?_
    refine rm_calliV (As := []) (rest := []) hc dX8_counted_92 (c_X6_lockedDoors hI x (k := 0) (by omega)) mv_X8_255 (dm_0 (by omega)) rfl rfl (hn := rfl) (hst := rfl) (hw := Nat.le_of_ble_eq_true rfl) (hR := ⟨⟨rfl, rfl⟩, Nat.le_of_ble_eq_true rfl, Nat.le_of_ble_eq_true rfl⟩) (hnc := ⟨Nat.zero_le _, Nat.zero_le _⟩) (fun r_12 y_12 h_12 => ?_)
    obtain ⟨e_12, ey_12⟩ := h_12
    obtain rfl := ey_12.symm
    exact rm_iret hc dX8_counted_95 ⟨by subst_vars; simp [cntS, *], rfl⟩
  by_cases z_13 : w = 6
  · --case 6
    subst z_13
    refine rm_tin (off := 95) (tgt := 96) hc dX8_counted_1 (by decide) (by decide) (by decide) (by decide) ?_
    refine rm_aload_n hc dX8_counted_96 rfl rfl ?_
    refine rm_get hc dX8_counted_97 fl_X8_10 dm_9 rfl rfl ?_
    refine rm_get hc dX8_counted_100 fl_X8_77 (dm_0 (by omega)) rfl rfl ?_
    refine rm_geti hc dX8_counted_103 fl_X8_81 (dm_6 (by omega)) rfl rfl (fun v_14 e_14 => ?_)
    exact rm_iret hc dX8_counted_106 ⟨by subst_vars; simp [cntS, *], rfl⟩
  by_cases z_15 : w = 7
  · --case 7
    subst z_15
    refine rm_tin (off := 106) (tgt := 107) hc dX8_counted_1 (by decide) (by decide) (by decide) (by decide) ?_
    refine rm_aload_n hc dX8_counted_107 rfl rfl ?_
    refine rm_get hc dX8_counted_108 fl_X8_19 dm_9 rfl rfl ?_
    refine rm_geti hc dX8_counted_111 fl_X8_161 dm_10 rfl rfl (fun v_16 e_16 => ?_)
    exact rm_iret hc dX8_counted_114 ⟨by subst_vars; simp [cntS, *], rfl⟩
  refine rm_tout (tgt := 115) hc dX8_counted_1 (by have zz0 := lv_neT (k := 0) (a := 0) z_1 (by decide); have zz1 := lv_neT (k := 1) (a := 1) z_3 (by decide); have zz2 := lv_neT (k := 2) (a := 2) z_5 (by decide); have zz3 := lv_neT (k := 3) (a := 3) z_7 (by decide); have zz4 := lv_neT (k := 4) (a := 4) z_9 (by decide); have zz5 := lv_neT (k := 5) (a := 5) z_11 (by decide); have zz6 := lv_neT (k := 6) (a := 6) z_13 (by decide); have zz7 := lv_neT (k := 7) (a := 7) z_15 (by decide); omega) (by decide) ?_
  refine rm_iconst (v := -1) hc dX8_counted_115 (by decide) ?_
  exact rm_iret hc dX8_counted_116 ⟨by subst_vars; simp [cntS, *], rfl⟩
end
section
theorem kpM_0 {x : Mem} {nq n : Nat} : kpM x nq 0 n = x 0 n := by
  unfold kpM
  rw [up_b _ _ _ (by omega), up_b _ _ _ (by omega), cpS_b (by omega)]
theorem kpM_9 {x : Mem} {nq b n : Nat} (h1 : b ≠ nq + 1) (h2 : b ≠ 8) : kpM x nq b n = x b n := by
  unfold kpM
  rw [up_b _ _ _ h2, up_b _ _ _ h2, cpS_b h1]
theorem kpM_82 {x : Mem} {nq : Nat} (h : nq < 6) : kpM x nq 8 2 = x 8 2 := by
  unfold kpM
  rw [up_n _ _ (by omega), up_n _ _ (by omega), cpS_b (by omega)]
end
section
abbrev rm_X8_needIndex : Room := { frames := 6, cells := 0, slots := 0, locals := 90 }
set_option maxHeartbeats 4000000 in
set_option maxRecDepth 100000 in
theorem c_X8_needIndex {l : Launch} {D : va_G} {cy : Nat → ClassId} {ad : Ads} (hI : IJ ad) (x : Mem) (a b : Int32) (h1 : ¬ a < 0) (h2 : a < b) : Ctv l yX8_needIndex cX8_needIndex 2 none rm_X8_needIndex D cy ad [.int a, .int b] x (fun y => y = x) := by
  refine rm_entry (Qc := Qv D cy ad (fun y => y = x)) hI (by decide) (Nat.le_of_ble_eq_true rfl) ?_
  intro p e s m args below meth c hc
  show RM _ _ _ _ _ _ _ _ _ _ _ _ _ _ _ _ _ [(0, .int a), (1, .int b)] []
  refine rm_iload_n hc dX8_needIndex_0 rfl rfl ?_
  refine rm_if_lt (tgt := 9) hc dX8_needIndex_1 (by decide) (fun h => absurd h h1) (fun _ => ?_)
  refine rm_iload_n hc dX8_needIndex_4 rfl rfl ?_
  refine rm_iload_n hc dX8_needIndex_5 rfl rfl ?_
  refine rm_icmp_lt (tgt := 17) hc dX8_needIndex_6 (by decide) (fun _ => ?_) (fun h => absurd h2 h)
  exact rm_vret hc dX8_needIndex_17 rfl

abbrev rm_X8_needArgument : Room := { frames := 6, cells := 0, slots := 0, locals := 90 }
set_option maxHeartbeats 4000000 in
set_option maxRecDepth 100000 in
theorem c_X8_needArgument {l : Launch} {D : va_G} {cy : Nat → ClassId} {ad : Ads} (hI : IJ ad) (x : Mem)  : Ctv l yX8_needArgument cX8_needArgument 1 none rm_X8_needArgument D cy ad [.int 1] x (fun y => y = x) := by
  refine rm_entry (Qc := Qv D cy ad (fun y => y = x)) hI (by decide) (Nat.le_of_ble_eq_true rfl) ?_
  intro p e s m args below meth c hc
  show RM _ _ _ _ _ _ _ _ _ _ _ _ _ _ _ _ _ [(0, .int 1)] []
  refine rm_iload_n hc dX8_needArgument_0 rfl rfl ?_
  refine rm_if_ne (tgt := 12) hc dX8_needArgument_1 (by decide) (fun _ => ?_) (fun h => absurd h (by decide))
  exact rm_vret hc dX8_needArgument_12 rfl

abbrev rm_X8_needState : Room := { frames := 6, cells := 0, slots := 0, locals := 90 }
set_option maxHeartbeats 4000000 in
set_option maxRecDepth 100000 in
theorem c_X8_needState {l : Launch} {D : va_G} {cy : Nat → ClassId} {ad : Ads} (hI : IJ ad) (x : Mem)  : Ctv l yX8_needState cX8_needState 1 none rm_X8_needState D cy ad [.int 1] x (fun y => y = x) := by
  refine rm_entry (Qc := Qv D cy ad (fun y => y = x)) hI (by decide) (Nat.le_of_ble_eq_true rfl) ?_
  intro p e s m args below meth c hc
  show RM _ _ _ _ _ _ _ _ _ _ _ _ _ _ _ _ _ [(0, .int 1)] []
  refine rm_iload_n hc dX8_needState_0 rfl rfl ?_
  refine rm_if_ne (tgt := 12) hc dX8_needState_1 (by decide) (fun _ => ?_) (fun h => absurd h (by decide))
  exact rm_vret hc dX8_needState_12 rfl

abbrev rm_X8_needRange : Room := { frames := 7, cells := 0, slots := 0, locals := 110 }
set_option maxHeartbeats 4000000 in
set_option maxRecDepth 100000 in
theorem c_X8_needRange {l : Launch} {D : va_G} {cy : Nat → ClassId} {ad : Ads} (hI : IJ ad) (x : Mem) (a lo hi2 : Int32) (h1 : ¬ a < lo) (h2 : ¬ hi2 < a) : Ctv l yX8_needRange cX8_needRange 3 none rm_X8_needRange D cy ad [.int a, .int lo, .int hi2] x (fun y => y = x) := by
  refine rm_entry (Qc := Qv D cy ad (fun y => y = x)) hI (by decide) (Nat.le_of_ble_eq_true rfl) ?_
  intro p e s m args below meth c hc
  show RM _ _ _ _ _ _ _ _ _ _ _ _ _ _ _ _ _ [(0, .int a), (1, .int lo), (2, .int hi2)] []
  refine rm_iload_n hc dX8_needRange_0 rfl rfl ?_
  refine rm_iload_n hc dX8_needRange_1 rfl rfl ?_
  refine rm_icmp_lt (tgt := 14) hc dX8_needRange_2 (by decide) (fun h => absurd h h1) (fun _ => ?_)
  refine rm_iload_n hc dX8_needRange_5 rfl rfl ?_
  refine rm_iload_n hc dX8_needRange_6 rfl rfl ?_
  refine rm_icmp_gt (tgt := 14) hc dX8_needRange_7 (by decide) (fun h => absurd h h2) (fun _ => ?_)
  refine rm_iconst (v := 1) hc dX8_needRange_10 (by decide) ?_
  refine rm_goto (tgt := 15) hc dX8_needRange_11 (by decide) ?_
  refine rm_callvS (As := [.int 1]) (rest := []) hc dX8_needRange_15 (c_X8_needArgument hI x) ms_X8_151 (hn := rfl) (hst := rfl) (hw := Nat.le_of_ble_eq_true rfl) (hR := ⟨⟨rfl, rfl⟩, Nat.le_of_ble_eq_true rfl, Nat.le_of_ble_eq_true rfl⟩) (hnc := ⟨Nat.zero_le _, Nat.zero_le _⟩) (fun y_3 h_3 => ?_)
  obtain rfl := h_3.symm
  exact rm_vret hc dX8_needRange_18 rfl

abbrev rm_X8_make : Room := { frames := 8, cells := 0, slots := 0, locals := 132 }
set_option maxHeartbeats 4000000 in
set_option maxRecDepth 100000 in
theorem c_X8_make {l : Launch} {D : va_G} {cy : Nat → ClassId} {ad : Ads} (hI : IJ ad) (x : Mem) {j : Nat} (hj : j < 4) (sc cn : Int32) (hs1 : ¬ sc < 0) (hs2 : ¬ 9999 < sc) (hc1 : ¬ cn < 0) (hc2 : ¬ 9999 < cn) {nq : Nat} (hn6 : nq < 6) (hnq : NXT x nq 0) (hF : FLG x 0) : Cti l yX8_make cX8_make 6 (some .int) rm_X8_make D cy ad [.ref (ad 8 9 0), .int (nI (j)), .int sc, .int cn] x (fun r y => r = x 0 (15 + 4 * j) ∧ y = up (up (kpM x nq) 0 (14 + 4 * j) sc) 0 (15 + 4 * j) cn) := by
  refine rm_entry (Qc := Qi D cy ad (fun r y => r = x 0 (15 + 4 * j) ∧ y = up (up (kpM x nq) 0 (14 + 4 * j) sc) 0 (15 + 4 * j) cn)) hI (by decide) (Nat.le_of_ble_eq_true rfl) ?_
  intro p e s m args below meth c hc
  show RM _ _ _ _ _ _ _ _ _ _ _ _ _ _ _ _ _ [(0, .ref (ad 8 9 0)), (1, .int (nI (j))), (2, .int sc), (3, .int cn)] []
  refine rm_iload_n hc dX8_make_0 rfl rfl ?_
  refine rm_iconst (v := 4) hc dX8_make_1 (by decide) ?_
  refine rm_callvS (As := [.int (nI (j)), .int 4]) (rest := []) hc dX8_make_2 (c_X8_needIndex hI x (nI (j)) 4 (nI_pos (n := j) (by omega)) (nI_lt (a := j) (b := 4) (by omega) (by omega))) ms_X8_37 (hn := rfl) (hst := rfl) (hw := Nat.le_of_ble_eq_true rfl) (hR := ⟨⟨rfl, rfl⟩, Nat.le_of_ble_eq_true rfl, Nat.le_of_ble_eq_true rfl⟩) (hnc := ⟨Nat.zero_le _, Nat.zero_le _⟩) (fun y_1 h_1 => ?_)
  obtain rfl := h_1.symm
  refine rm_iload_n hc dX8_make_5 rfl rfl ?_
  refine rm_iconst (v := 0) hc dX8_make_6 (by decide) ?_
  refine rm_sipush (v := 9999) hc dX8_make_7 (by decide) ?_
  refine rm_callvS (As := [.int sc, .int 0, .int 9999]) (rest := []) hc dX8_make_10 (c_X8_needRange hI x sc 0 9999 hs1 hs2) ms_X8_41 (hn := rfl) (hst := rfl) (hw := Nat.le_of_ble_eq_true rfl) (hR := ⟨⟨rfl, rfl⟩, Nat.le_of_ble_eq_true rfl, Nat.le_of_ble_eq_true rfl⟩) (hnc := ⟨Nat.zero_le _, Nat.zero_le _⟩) (fun y_2 h_2 => ?_)
  obtain rfl := h_2.symm
  refine rm_iload_n hc dX8_make_13 rfl rfl ?_
  refine rm_iconst (v := 0) hc dX8_make_14 (by decide) ?_
  refine rm_sipush (v := 9999) hc dX8_make_15 (by decide) ?_
  refine rm_callvS (As := [.int cn, .int 0, .int 9999]) (rest := []) hc dX8_make_18 (c_X8_needRange hI x cn 0 9999 hc1 hc2) ms_X8_41 (hn := rfl) (hst := rfl) (hw := Nat.le_of_ble_eq_true rfl) (hR := ⟨⟨rfl, rfl⟩, Nat.le_of_ble_eq_true rfl, Nat.le_of_ble_eq_true rfl⟩) (hnc := ⟨Nat.zero_le _, Nat.zero_le _⟩) (fun y_3 h_3 => ?_)
  obtain rfl := h_3.symm
  refine rm_aload_n hc dX8_make_21 rfl rfl ?_
  refine rm_get hc dX8_make_22 fl_X8_19 dm_9 rfl rfl ?_
  refine rm_aload_n hc dX8_make_25 rfl rfl ?_
  refine rm_get hc dX8_make_26 fl_X8_10 dm_9 rfl rfl ?_
  refine rm_callvV (As := [.ref (ad 0 0 0)]) (rest := []) hc dX8_make_29 (c_X3_keep hI x (nq := nq) hn6 hnq hF) mv_X8_45 dm_10 rfl rfl (hn := rfl) (hst := rfl) (hw := Nat.le_of_ble_eq_true rfl) (hR := ⟨⟨rfl, rfl⟩, Nat.le_of_ble_eq_true rfl, Nat.le_of_ble_eq_true rfl⟩) (hnc := ⟨Nat.zero_le _, Nat.zero_le _⟩) (fun y_4 h_4 => ?_)
  refine rm_aload_n hc dX8_make_32 rfl rfl ?_
  refine rm_get hc dX8_make_33 fl_X8_10 dm_9 rfl rfl ?_
  refine rm_get hc dX8_make_36 fl_X8_49 (dm_0 (by omega)) rfl rfl ?_
  refine rm_iload_n hc dX8_make_39 rfl rfl ?_
  refine rm_aald (t0 := 1) (i := j) (v := .ref (ad 0 2 j)) hc dX8_make_40 (dm_1 (by omega)) rfl rfl (by omega) (by decide) rfl rfl ?_
  refine rm_astore (ls' := [(0, .ref (ad 8 9 0)), (1, .int (nI (j))), (2, .int sc), (3, .int cn), (4, .ref (ad 0 2 j))]) hc dX8_make_41 (by decide) rfl ?_
  refine rm_aload hc dX8_make_43 rfl ?_
  refine rm_geti hc dX8_make_45 fl_X8_53 (dm_2 (by omega) (by omega)) rfl rfl (fun v_5 e_5 => ?_)
  refine rm_istore (ls' := [(0, .ref (ad 8 9 0)), (1, .int (nI (j))), (2, .int sc), (3, .int cn), (4, .ref (ad 0 2 j)), (5, .int v_5)]) hc dX8_make_48 (by decide) rfl ?_
  refine rm_aload hc dX8_make_50 rfl ?_
  refine rm_iload_n hc dX8_make_52 rfl rfl ?_
  refine rm_put hc dX8_make_53 fl_X8_59 (dm_2 (by omega) (by omega)) rfl (Nat.le_of_ble_eq_true rfl) ft_2_0 rfl rfl (so_2_0 (by omega) (by omega)) (rm_nm (fun x_6 ex_6 => ?_))
  refine rm_aload hc dX8_make_56 rfl ?_
  refine rm_iload_n hc dX8_make_58 rfl rfl ?_
  refine rm_put hc dX8_make_59 fl_X8_53 (dm_2 (by omega) (by omega)) rfl (Nat.le_of_ble_eq_true rfl) ft_2_1 rfl rfl (so_2_1 (by omega) (by omega)) (rm_nm (fun x_7 ex_7 => ?_))
  refine rm_iload hc dX8_make_62 rfl ?_
  exact rm_iret hc dX8_make_64 ⟨by subst_vars; first | rfl | exact kpM_0, by subst_vars; rfl⟩

abbrev rm_X8_battery : Room := { frames := 8, cells := 0, slots := 0, locals := 132 }
set_option maxHeartbeats 4000000 in
set_option maxRecDepth 100000 in
theorem c_X8_battery {l : Launch} {D : va_G} {cy : Nat → ClassId} {ad : Ads} (hI : IJ ad) (x : Mem) {j : Nat} (hj : j < 4) (bt : Int32) (hb1 : ¬ bt < 0) (hb2 : ¬ 999 < bt) {nq : Nat} (hn6 : nq < 6) (hnq : NXT x nq 0) (hF : FLG x 0) : Cti l yX8_battery cX8_battery 5 (some .int) rm_X8_battery D cy ad [.ref (ad 8 9 0), .int (nI (j)), .int bt] x (fun r y => r = x 0 (16 + 4 * j) ∧ y = up (kpM x nq) 0 (16 + 4 * j) bt) := by
  refine rm_entry (Qc := Qi D cy ad (fun r y => r = x 0 (16 + 4 * j) ∧ y = up (kpM x nq) 0 (16 + 4 * j) bt)) hI (by decide) (Nat.le_of_ble_eq_true rfl) ?_
  intro p e s m args below meth c hc
  show RM _ _ _ _ _ _ _ _ _ _ _ _ _ _ _ _ _ [(0, .ref (ad 8 9 0)), (1, .int (nI (j))), (2, .int bt)] []
  refine rm_iload_n hc dX8_battery_0 rfl rfl ?_
  refine rm_iconst (v := 4) hc dX8_battery_1 (by decide) ?_
  refine rm_callvS (As := [.int (nI (j)), .int 4]) (rest := []) hc dX8_battery_2 (c_X8_needIndex hI x (nI (j)) 4 (nI_pos (n := j) (by omega)) (nI_lt (a := j) (b := 4) (by omega) (by omega))) ms_X8_37 (hn := rfl) (hst := rfl) (hw := Nat.le_of_ble_eq_true rfl) (hR := ⟨⟨rfl, rfl⟩, Nat.le_of_ble_eq_true rfl, Nat.le_of_ble_eq_true rfl⟩) (hnc := ⟨Nat.zero_le _, Nat.zero_le _⟩) (fun y_1 h_1 => ?_)
  obtain rfl := h_1.symm
  refine rm_iload_n hc dX8_battery_5 rfl rfl ?_
  refine rm_iconst (v := 0) hc dX8_battery_6 (by decide) ?_
  refine rm_sipush (v := 999) hc dX8_battery_7 (by decide) ?_
  refine rm_callvS (As := [.int bt, .int 0, .int 999]) (rest := []) hc dX8_battery_10 (c_X8_needRange hI x bt 0 999 hb1 hb2) ms_X8_41 (hn := rfl) (hst := rfl) (hw := Nat.le_of_ble_eq_true rfl) (hR := ⟨⟨rfl, rfl⟩, Nat.le_of_ble_eq_true rfl, Nat.le_of_ble_eq_true rfl⟩) (hnc := ⟨Nat.zero_le _, Nat.zero_le _⟩) (fun y_2 h_2 => ?_)
  obtain rfl := h_2.symm
  refine rm_aload_n hc dX8_battery_13 rfl rfl ?_
  refine rm_get hc dX8_battery_14 fl_X8_19 dm_9 rfl rfl ?_
  refine rm_aload_n hc dX8_battery_17 rfl rfl ?_
  refine rm_get hc dX8_battery_18 fl_X8_10 dm_9 rfl rfl ?_
  refine rm_callvV (As := [.ref (ad 0 0 0)]) (rest := []) hc dX8_battery_21 (c_X3_keep hI x (nq := nq) hn6 hnq hF) mv_X8_45 dm_10 rfl rfl (hn := rfl) (hst := rfl) (hw := Nat.le_of_ble_eq_true rfl) (hR := ⟨⟨rfl, rfl⟩, Nat.le_of_ble_eq_true rfl, Nat.le_of_ble_eq_true rfl⟩) (hnc := ⟨Nat.zero_le _, Nat.zero_le _⟩) (fun y_3 h_3 => ?_)
  refine rm_aload_n hc dX8_battery_24 rfl rfl ?_
  refine rm_get hc dX8_battery_25 fl_X8_10 dm_9 rfl rfl ?_
  refine rm_get hc dX8_battery_28 fl_X8_49 (dm_0 (by omega)) rfl rfl ?_
  refine rm_iload_n hc dX8_battery_31 rfl rfl ?_
  refine rm_aald (t0 := 1) (i := j) (v := .ref (ad 0 2 j)) hc dX8_battery_32 (dm_1 (by omega)) rfl rfl (by omega) (by decide) rfl rfl ?_
  refine rm_astore_n (ls' := [(0, .ref (ad 8 9 0)), (1, .int (nI (j))), (2, .int bt), (3, .ref (ad 0 2 j))]) hc dX8_battery_33 rfl (by decide) rfl ?_
  refine rm_aload_n hc dX8_battery_34 rfl rfl ?_
  refine rm_geti hc dX8_battery_35 fl_X8_62 (dm_2 (by omega) (by omega)) rfl rfl (fun v_4 e_4 => ?_)
  refine rm_istore (ls' := [(0, .ref (ad 8 9 0)), (1, .int (nI (j))), (2, .int bt), (3, .ref (ad 0 2 j)), (4, .int v_4)]) hc dX8_battery_38 (by decide) rfl ?_
  refine rm_aload_n hc dX8_battery_40 rfl rfl ?_
  refine rm_iload_n hc dX8_battery_41 rfl rfl ?_
  refine rm_put hc dX8_battery_42 fl_X8_62 (dm_2 (by omega) (by omega)) rfl (Nat.le_of_ble_eq_true rfl) ft_2_2 rfl rfl (so_2_2 (by omega) (by omega)) (rm_nm (fun x_5 ex_5 => ?_))
  refine rm_iload hc dX8_battery_45 rfl ?_
  exact rm_iret hc dX8_battery_47 ⟨by subst_vars; first | rfl | exact kpM_0, by subst_vars; rfl⟩

abbrev rm_X8_press : Room := { frames := 8, cells := 0, slots := 0, locals := 132 }
set_option maxHeartbeats 4000000 in
set_option maxRecDepth 100000 in
theorem c_X8_press {l : Launch} {D : va_G} {cy : Nat → ClassId} {ad : Ads} (hI : IJ ad) (x : Mem) {j : Nat} (hj : j < 4) (msk : Int32) (hm1 : ¬ msk < 0) (hm2 : ¬ 7 < msk) (mm : Nat) (hmm : mm < 2 ^ 30) (hw : x 0 1 = nI mm) (hbat : ¬ x 0 (16 + 4 * j) ≤ 0) {nq : Nat} (hn6 : nq < 6) (hnq : NXT x nq 0) (hF : FLG x 0) : Cti l yX8_press cX8_press 3 (some .int) rm_X8_press D cy ad [.ref (ad 8 9 0), .int (nI (j)), .int msk] x (fun r y => r = (prsS (kpM x nq) 0 j msk mm).1 ∧ y = (prsS (kpM x nq) 0 j msk mm).2) := by
  refine rm_entry (Qc := Qi D cy ad (fun r y => r = (prsS (kpM x nq) 0 j msk mm).1 ∧ y = (prsS (kpM x nq) 0 j msk mm).2)) hI (by decide) (Nat.le_of_ble_eq_true rfl) ?_
  intro p e s m args below meth c hc
  show RM _ _ _ _ _ _ _ _ _ _ _ _ _ _ _ _ _ [(0, .ref (ad 8 9 0)), (1, .int (nI (j))), (2, .int msk)] []
  refine rm_iload_n hc dX8_press_0 rfl rfl ?_
  refine rm_iconst (v := 4) hc dX8_press_1 (by decide) ?_
  refine rm_callvS (As := [.int (nI (j)), .int 4]) (rest := []) hc dX8_press_2 (c_X8_needIndex hI x (nI (j)) 4 (nI_pos (n := j) (by omega)) (nI_lt (a := j) (b := 4) (by omega) (by omega))) ms_X8_37 (hn := rfl) (hst := rfl) (hw := Nat.le_of_ble_eq_true rfl) (hR := ⟨⟨rfl, rfl⟩, Nat.le_of_ble_eq_true rfl, Nat.le_of_ble_eq_true rfl⟩) (hnc := ⟨Nat.zero_le _, Nat.zero_le _⟩) (fun y_1 h_1 => ?_)
  obtain rfl := h_1.symm
  refine rm_iload_n hc dX8_press_5 rfl rfl ?_
  refine rm_iconst (v := 0) hc dX8_press_6 (by decide) ?_
  refine rm_bipush (v := 7) hc dX8_press_7 (by decide) ?_
  refine rm_callvS (As := [.int msk, .int 0, .int 7]) (rest := []) hc dX8_press_9 (c_X8_needRange hI x msk 0 7 hm1 hm2) ms_X8_41 (hn := rfl) (hst := rfl) (hw := Nat.le_of_ble_eq_true rfl) (hR := ⟨⟨rfl, rfl⟩, Nat.le_of_ble_eq_true rfl, Nat.le_of_ble_eq_true rfl⟩) (hnc := ⟨Nat.zero_le _, Nat.zero_le _⟩) (fun y_2 h_2 => ?_)
  obtain rfl := h_2.symm
  refine rm_aload_n hc dX8_press_12 rfl rfl ?_
  refine rm_get hc dX8_press_13 fl_X8_10 dm_9 rfl rfl ?_
  refine rm_iload_n hc dX8_press_16 rfl rfl ?_
  refine rm_calliV (As := [.int (nI (j))]) (rest := []) hc dX8_press_17 (c_X6_canPress hI x (k := 0) (j := j) (by omega) (by omega)) mv_X8_65 (dm_0 (by omega)) rfl rfl (hn := rfl) (hst := rfl) (hw := Nat.le_of_ble_eq_true rfl) (hR := ⟨⟨rfl, rfl⟩, Nat.le_of_ble_eq_true rfl, Nat.le_of_ble_eq_true rfl⟩) (hnc := ⟨Nat.zero_le _, Nat.zero_le _⟩) (fun r_3 y_3 h_3 => ?_)
  obtain ⟨e_3, ey_3⟩ := h_3
  obtain rfl := ey_3.symm
  obtain rfl : r_3 = 1 := by rw [e_3]; exact if_neg hbat
  refine rm_callvS (As := [.int 1]) (rest := []) hc dX8_press_20 (c_X8_needState hI x) ms_X8_69 (hn := rfl) (hst := rfl) (hw := Nat.le_of_ble_eq_true rfl) (hR := ⟨⟨rfl, rfl⟩, Nat.le_of_ble_eq_true rfl, Nat.le_of_ble_eq_true rfl⟩) (hnc := ⟨Nat.zero_le _, Nat.zero_le _⟩) (fun y_4 h_4 => ?_)
  obtain rfl := h_4.symm
  refine rm_aload_n hc dX8_press_23 rfl rfl ?_
  refine rm_get hc dX8_press_24 fl_X8_19 dm_9 rfl rfl ?_
  refine rm_aload_n hc dX8_press_27 rfl rfl ?_
  refine rm_get hc dX8_press_28 fl_X8_10 dm_9 rfl rfl ?_
  refine rm_callvV (As := [.ref (ad 0 0 0)]) (rest := []) hc dX8_press_31 (c_X3_keep hI x (nq := nq) hn6 hnq hF) mv_X8_45 dm_10 rfl rfl (hn := rfl) (hst := rfl) (hw := Nat.le_of_ble_eq_true rfl) (hR := ⟨⟨rfl, rfl⟩, Nat.le_of_ble_eq_true rfl, Nat.le_of_ble_eq_true rfl⟩) (hnc := ⟨Nat.zero_le _, Nat.zero_le _⟩) (fun y_5 h_5 => ?_)
  refine rm_aload_n hc dX8_press_34 rfl rfl ?_
  refine rm_get hc dX8_press_35 fl_X8_10 dm_9 rfl rfl ?_
  refine rm_iload_n hc dX8_press_38 rfl rfl ?_
  refine rm_iload_n hc dX8_press_39 rfl rfl ?_
  refine rm_calliV (As := [.int (nI (j)), .int msk]) (rest := []) hc dX8_press_40 (c_X6_pressFob hI y_5 (k := 0) (j := j) (by omega) (by omega) msk mm (by omega) (by rw [h_5]; exact kpM_0.trans hw) (by rw [h_5, kpM_0]; exact hbat)) mv_X8_73 (dm_0 (by omega)) rfl rfl (hn := rfl) (hst := rfl) (hw := Nat.le_of_ble_eq_true rfl) (hR := ⟨⟨rfl, rfl⟩, Nat.le_of_ble_eq_true rfl, Nat.le_of_ble_eq_true rfl⟩) (hnc := ⟨Nat.zero_le _, Nat.zero_le _⟩) (fun r_6 y_6 h_6 => ?_)
  obtain ⟨e_6, ey_6⟩ := h_6
  exact rm_iret hc dX8_press_43 ⟨by subst_vars; rfl, by subst_vars; rfl⟩

abbrev rm_X8_again : Room := { frames := 8, cells := 0, slots := 0, locals := 132 }
set_option maxHeartbeats 4000000 in
set_option maxRecDepth 100000 in
theorem c_X8_again {l : Launch} {D : va_G} {cy : Nat → ClassId} {ad : Ads} (hI : IJ ad) (x : Mem) {ii nr : Nat} (hii : ii < nr) (hr8 : nr ≤ 8) (hnr : x 0 5 = nI nr) (msk : Int32) (hm1 : ¬ msk < 0) (hm2 : ¬ 7 < msk) (mm : Nat) (hmm : mm < 2 ^ 30) (hw : x 0 1 = nI mm) {nq : Nat} (hn6 : nq < 6) (hnq : NXT x nq 0) (hF : FLG x 0) : Cti l yX8_again cX8_again 3 (some .int) rm_X8_again D cy ad [.ref (ad 8 9 0), .int (nI (ii)), .int msk] x (fun r y => r = (agnS (kpM x nq) ii msk mm).1 ∧ y = (agnS (kpM x nq) ii msk mm).2) := by
  refine rm_entry (Qc := Qi D cy ad (fun r y => r = (agnS (kpM x nq) ii msk mm).1 ∧ y = (agnS (kpM x nq) ii msk mm).2)) hI (by decide) (Nat.le_of_ble_eq_true rfl) ?_
  intro p e s m args below meth c hc
  show RM _ _ _ _ _ _ _ _ _ _ _ _ _ _ _ _ _ [(0, .ref (ad 8 9 0)), (1, .int (nI (ii))), (2, .int msk)] []
  refine rm_iload_n hc dX8_again_0 rfl rfl ?_
  refine rm_aload_n hc dX8_again_1 rfl rfl ?_
  refine rm_get hc dX8_again_2 fl_X8_10 dm_9 rfl rfl ?_
  refine rm_get hc dX8_again_5 fl_X8_77 (dm_0 (by omega)) rfl rfl ?_
  refine rm_geti hc dX8_again_8 fl_X8_81 (dm_6 (by omega)) rfl rfl (fun v_1 e_1 => ?_)
  obtain rfl : v_1 = nI nr := e_1.trans hnr
  refine rm_callvS (As := [.int (nI (ii)), .int (nI (nr))]) (rest := []) hc dX8_again_11 (c_X8_needIndex hI x (nI (ii)) (nI (nr)) (nI_pos (n := ii) (by omega)) (nI_lt (a := ii) (b := nr) (by omega) (by omega))) ms_X8_37 (hn := rfl) (hst := rfl) (hw := Nat.le_of_ble_eq_true rfl) (hR := ⟨⟨rfl, rfl⟩, Nat.le_of_ble_eq_true rfl, Nat.le_of_ble_eq_true rfl⟩) (hnc := ⟨Nat.zero_le _, Nat.zero_le _⟩) (fun y_2 h_2 => ?_)
  obtain rfl := h_2.symm
  refine rm_iload_n hc dX8_again_14 rfl rfl ?_
  refine rm_iconst (v := 0) hc dX8_again_15 (by decide) ?_
  refine rm_bipush (v := 7) hc dX8_again_16 (by decide) ?_
  refine rm_callvS (As := [.int msk, .int 0, .int 7]) (rest := []) hc dX8_again_18 (c_X8_needRange hI x msk 0 7 hm1 hm2) ms_X8_41 (hn := rfl) (hst := rfl) (hw := Nat.le_of_ble_eq_true rfl) (hR := ⟨⟨rfl, rfl⟩, Nat.le_of_ble_eq_true rfl, Nat.le_of_ble_eq_true rfl⟩) (hnc := ⟨Nat.zero_le _, Nat.zero_le _⟩) (fun y_3 h_3 => ?_)
  obtain rfl := h_3.symm
  refine rm_aload_n hc dX8_again_21 rfl rfl ?_
  refine rm_get hc dX8_again_22 fl_X8_19 dm_9 rfl rfl ?_
  refine rm_aload_n hc dX8_again_25 rfl rfl ?_
  refine rm_get hc dX8_again_26 fl_X8_10 dm_9 rfl rfl ?_
  refine rm_callvV (As := [.ref (ad 0 0 0)]) (rest := []) hc dX8_again_29 (c_X3_keep hI x (nq := nq) hn6 hnq hF) mv_X8_45 dm_10 rfl rfl (hn := rfl) (hst := rfl) (hw := Nat.le_of_ble_eq_true rfl) (hR := ⟨⟨rfl, rfl⟩, Nat.le_of_ble_eq_true rfl, Nat.le_of_ble_eq_true rfl⟩) (hnc := ⟨Nat.zero_le _, Nat.zero_le _⟩) (fun y_4 h_4 => ?_)
  refine rm_aload_n hc dX8_again_32 rfl rfl ?_
  refine rm_get hc dX8_again_33 fl_X8_10 dm_9 rfl rfl ?_
  refine rm_iload_n hc dX8_again_36 rfl rfl ?_
  refine rm_iload_n hc dX8_again_37 rfl rfl ?_
  refine rm_calliV (As := [.int (nI (ii)), .int msk]) (rest := []) hc dX8_again_38 (c_X6_sendAgain hI y_4 (ii := ii) (nr := nr) (by omega) (by omega) (by rw [h_4]; exact kpM_0.trans hnr) msk mm (by omega) (by rw [h_4]; exact kpM_0.trans hw)) mv_X8_86 (dm_0 (by omega)) rfl rfl (hn := rfl) (hst := rfl) (hw := Nat.le_of_ble_eq_true rfl) (hR := ⟨⟨rfl, rfl⟩, Nat.le_of_ble_eq_true rfl, Nat.le_of_ble_eq_true rfl⟩) (hnc := ⟨Nat.zero_le _, Nat.zero_le _⟩) (fun r_5 y_5 h_5 => ?_)
  obtain ⟨e_5, ey_5⟩ := h_5
  exact rm_iret hc dX8_again_41 ⟨by subst_vars; rfl, by subst_vars; rfl⟩

abbrev rm_X8_learn : Room := { frames := 7, cells := 0, slots := 0, locals := 111 }
set_option maxHeartbeats 4000000 in
set_option maxRecDepth 100000 in
theorem c_X8_learn {l : Launch} {D : va_G} {cy : Nat → ClassId} {ad : Ads} (hI : IJ ad) (x : Mem) {d s0 j : Nat} (hd3 : d < 3) (hs : s0 < 4) (hj : j < 4) {nq : Nat} (hn6 : nq < 6) (hnq : NXT x nq 0) (hF : FLG x 0) : Cti l yX8_learn cX8_learn 5 (some .int) rm_X8_learn D cy ad [.ref (ad 8 9 0), .int (nI (d)), .int (nI (s0)), .int (nI (j))] x (fun r y => r = lrnD (lrnS (kpM x nq) 0 d s0 0 j) 0 d ∧ y = lrnS (kpM x nq) 0 d s0 0 j) := by
  refine rm_entry (Qc := Qi D cy ad (fun r y => r = lrnD (lrnS (kpM x nq) 0 d s0 0 j) 0 d ∧ y = lrnS (kpM x nq) 0 d s0 0 j)) hI (by decide) (Nat.le_of_ble_eq_true rfl) ?_
  intro p e s m args below meth c hc
  show RM _ _ _ _ _ _ _ _ _ _ _ _ _ _ _ _ _ [(0, .ref (ad 8 9 0)), (1, .int (nI (d))), (2, .int (nI (s0))), (3, .int (nI (j)))] []
  refine rm_iload_n hc dX8_learn_0 rfl rfl ?_
  refine rm_iconst (v := 3) hc dX8_learn_1 (by decide) ?_
  refine rm_callvS (As := [.int (nI (d)), .int 3]) (rest := []) hc dX8_learn_2 (c_X8_needIndex hI x (nI (d)) 3 (nI_pos (n := d) (by omega)) (nI_lt (a := d) (b := 3) (by omega) (by omega))) ms_X8_37 (hn := rfl) (hst := rfl) (hw := Nat.le_of_ble_eq_true rfl) (hR := ⟨⟨rfl, rfl⟩, Nat.le_of_ble_eq_true rfl, Nat.le_of_ble_eq_true rfl⟩) (hnc := ⟨Nat.zero_le _, Nat.zero_le _⟩) (fun y_1 h_1 => ?_)
  obtain rfl := h_1.symm
  refine rm_iload_n hc dX8_learn_5 rfl rfl ?_
  refine rm_iconst (v := 4) hc dX8_learn_6 (by decide) ?_
  refine rm_callvS (As := [.int (nI (s0)), .int 4]) (rest := []) hc dX8_learn_7 (c_X8_needIndex hI x (nI (s0)) 4 (nI_pos (n := s0) (by omega)) (nI_lt (a := s0) (b := 4) (by omega) (by omega))) ms_X8_37 (hn := rfl) (hst := rfl) (hw := Nat.le_of_ble_eq_true rfl) (hR := ⟨⟨rfl, rfl⟩, Nat.le_of_ble_eq_true rfl, Nat.le_of_ble_eq_true rfl⟩) (hnc := ⟨Nat.zero_le _, Nat.zero_le _⟩) (fun y_2 h_2 => ?_)
  obtain rfl := h_2.symm
  refine rm_iload_n hc dX8_learn_10 rfl rfl ?_
  refine rm_iconst (v := 4) hc dX8_learn_11 (by decide) ?_
  refine rm_callvS (As := [.int (nI (j)), .int 4]) (rest := []) hc dX8_learn_12 (c_X8_needIndex hI x (nI (j)) 4 (nI_pos (n := j) (by omega)) (nI_lt (a := j) (b := 4) (by omega) (by omega))) ms_X8_37 (hn := rfl) (hst := rfl) (hw := Nat.le_of_ble_eq_true rfl) (hR := ⟨⟨rfl, rfl⟩, Nat.le_of_ble_eq_true rfl, Nat.le_of_ble_eq_true rfl⟩) (hnc := ⟨Nat.zero_le _, Nat.zero_le _⟩) (fun y_3 h_3 => ?_)
  obtain rfl := h_3.symm
  refine rm_aload_n hc dX8_learn_15 rfl rfl ?_
  refine rm_get hc dX8_learn_16 fl_X8_19 dm_9 rfl rfl ?_
  refine rm_aload_n hc dX8_learn_19 rfl rfl ?_
  refine rm_get hc dX8_learn_20 fl_X8_10 dm_9 rfl rfl ?_
  refine rm_callvV (As := [.ref (ad 0 0 0)]) (rest := []) hc dX8_learn_23 (c_X3_keep hI x (nq := nq) hn6 hnq hF) mv_X8_45 dm_10 rfl rfl (hn := rfl) (hst := rfl) (hw := Nat.le_of_ble_eq_true rfl) (hR := ⟨⟨rfl, rfl⟩, Nat.le_of_ble_eq_true rfl, Nat.le_of_ble_eq_true rfl⟩) (hnc := ⟨Nat.zero_le _, Nat.zero_le _⟩) (fun y_4 h_4 => ?_)
  refine rm_aload_n hc dX8_learn_26 rfl rfl ?_
  refine rm_get hc dX8_learn_27 fl_X8_10 dm_9 rfl rfl ?_
  refine rm_get hc dX8_learn_30 fl_X8_89 (dm_0 (by omega)) rfl rfl ?_
  refine rm_iload_n hc dX8_learn_33 rfl rfl ?_
  refine rm_aald (t0 := 2) (i := d) (v := .ref (ad 0 4 d)) hc dX8_learn_34 (dm_3 (by omega)) rfl rfl (by omega) (by decide) rfl rfl ?_
  refine rm_astore (ls' := [(0, .ref (ad 8 9 0)), (1, .int (nI (d))), (2, .int (nI (s0))), (3, .int (nI (j))), (4, .ref (ad 0 4 d))]) hc dX8_learn_35 (by decide) rfl ?_
  refine rm_aload hc dX8_learn_37 rfl ?_
  refine rm_get hc dX8_learn_39 fl_X8_93 (dm_4 (by omega) (by omega) (by omega)) rfl rfl ?_
  refine rm_iload_n hc dX8_learn_42 rfl rfl ?_
  refine rm_aald (t0 := 3) (i := s0) (v := .ref (ad 0 (d + 20) s0)) hc dX8_learn_43 (dm_5 (by omega) (by omega) (by omega)) rfl rfl (by omega) (by decide) rfl rfl ?_
  refine rm_aload_n hc dX8_learn_44 rfl rfl ?_
  refine rm_get hc dX8_learn_45 fl_X8_10 dm_9 rfl rfl ?_
  refine rm_get hc dX8_learn_48 fl_X8_49 (dm_0 (by omega)) rfl rfl ?_
  refine rm_iload_n hc dX8_learn_51 rfl rfl ?_
  refine rm_aald (t0 := 1) (i := j) (v := .ref (ad 0 2 j)) hc dX8_learn_52 (dm_1 (by omega)) rfl rfl (by omega) (by decide) rfl rfl ?_
  refine rm_callvV (As := [.ref (ad 0 2 j)]) (rest := []) hc dX8_learn_53 (c_X5_learnFrom hI y_4 (k := 0) (d := d) (s0 := s0) (by omega) (by omega) (by omega) (by omega) (kf := 0) (j := j) (by omega) (by omega) rfl) mv_X8_97 (dm_s (d := d) (by omega) (by omega) (by omega) (by omega)) rfl rfl (hn := rfl) (hst := rfl) (hw := Nat.le_of_ble_eq_true rfl) (hR := ⟨⟨rfl, rfl⟩, Nat.le_of_ble_eq_true rfl, Nat.le_of_ble_eq_true rfl⟩) (hnc := ⟨Nat.zero_le _, Nat.zero_le _⟩) (fun y_5 h_5 => ?_)
  refine rm_aload hc dX8_learn_56 rfl ?_
  refine rm_calliV (As := []) (rest := []) hc dX8_learn_58 (c_X1_learntSlots hI y_5 (k := 0) (d := d) (by omega) (by omega) (by omega)) mv_X8_103 (dm_4 (by omega) (by omega) (by omega)) rfl rfl (hn := rfl) (hst := rfl) (hw := Nat.le_of_ble_eq_true rfl) (hR := ⟨⟨rfl, rfl⟩, Nat.le_of_ble_eq_true rfl, Nat.le_of_ble_eq_true rfl⟩) (hnc := ⟨Nat.zero_le _, Nat.zero_le _⟩) (fun r_6 y_6 h_6 => ?_)
  obtain ⟨e_6, ey_6⟩ := h_6
  obtain rfl := ey_6.symm
  exact rm_iret hc dX8_learn_61 ⟨by subst_vars; first | rfl | exact kpM_0, by subst_vars; rfl⟩

abbrev rm_X8_forget : Room := { frames := 7, cells := 0, slots := 0, locals := 111 }
set_option maxHeartbeats 4000000 in
set_option maxRecDepth 100000 in
theorem c_X8_forget {l : Launch} {D : va_G} {cy : Nat → ClassId} {ad : Ads} (hI : IJ ad) (x : Mem) {d s0 : Nat} (hd3 : d < 3) (hs : s0 < 4) {nq : Nat} (hn6 : nq < 6) (hnq : NXT x nq 0) (hF : FLG x 0) : Cti l yX8_forget cX8_forget 5 (some .int) rm_X8_forget D cy ad [.ref (ad 8 9 0), .int (nI (d)), .int (nI (s0))] x (fun r y => r = b2 (x 0 (36 + 22 * d + 4 * s0)) ∧ y = empS (kpM x nq) 0 d s0) := by
  refine rm_entry (Qc := Qi D cy ad (fun r y => r = b2 (x 0 (36 + 22 * d + 4 * s0)) ∧ y = empS (kpM x nq) 0 d s0)) hI (by decide) (Nat.le_of_ble_eq_true rfl) ?_
  intro p e s m args below meth c hc
  show RM _ _ _ _ _ _ _ _ _ _ _ _ _ _ _ _ _ [(0, .ref (ad 8 9 0)), (1, .int (nI (d))), (2, .int (nI (s0)))] []
  refine rm_iload_n hc dX8_forget_0 rfl rfl ?_
  refine rm_iconst (v := 3) hc dX8_forget_1 (by decide) ?_
  refine rm_callvS (As := [.int (nI (d)), .int 3]) (rest := []) hc dX8_forget_2 (c_X8_needIndex hI x (nI (d)) 3 (nI_pos (n := d) (by omega)) (nI_lt (a := d) (b := 3) (by omega) (by omega))) ms_X8_37 (hn := rfl) (hst := rfl) (hw := Nat.le_of_ble_eq_true rfl) (hR := ⟨⟨rfl, rfl⟩, Nat.le_of_ble_eq_true rfl, Nat.le_of_ble_eq_true rfl⟩) (hnc := ⟨Nat.zero_le _, Nat.zero_le _⟩) (fun y_1 h_1 => ?_)
  obtain rfl := h_1.symm
  refine rm_iload_n hc dX8_forget_5 rfl rfl ?_
  refine rm_iconst (v := 4) hc dX8_forget_6 (by decide) ?_
  refine rm_callvS (As := [.int (nI (s0)), .int 4]) (rest := []) hc dX8_forget_7 (c_X8_needIndex hI x (nI (s0)) 4 (nI_pos (n := s0) (by omega)) (nI_lt (a := s0) (b := 4) (by omega) (by omega))) ms_X8_37 (hn := rfl) (hst := rfl) (hw := Nat.le_of_ble_eq_true rfl) (hR := ⟨⟨rfl, rfl⟩, Nat.le_of_ble_eq_true rfl, Nat.le_of_ble_eq_true rfl⟩) (hnc := ⟨Nat.zero_le _, Nat.zero_le _⟩) (fun y_2 h_2 => ?_)
  obtain rfl := h_2.symm
  refine rm_aload_n hc dX8_forget_10 rfl rfl ?_
  refine rm_get hc dX8_forget_11 fl_X8_19 dm_9 rfl rfl ?_
  refine rm_aload_n hc dX8_forget_14 rfl rfl ?_
  refine rm_get hc dX8_forget_15 fl_X8_10 dm_9 rfl rfl ?_
  refine rm_callvV (As := [.ref (ad 0 0 0)]) (rest := []) hc dX8_forget_18 (c_X3_keep hI x (nq := nq) hn6 hnq hF) mv_X8_45 dm_10 rfl rfl (hn := rfl) (hst := rfl) (hw := Nat.le_of_ble_eq_true rfl) (hR := ⟨⟨rfl, rfl⟩, Nat.le_of_ble_eq_true rfl, Nat.le_of_ble_eq_true rfl⟩) (hnc := ⟨Nat.zero_le _, Nat.zero_le _⟩) (fun y_3 h_3 => ?_)
  refine rm_aload_n hc dX8_forget_21 rfl rfl ?_
  refine rm_get hc dX8_forget_22 fl_X8_10 dm_9 rfl rfl ?_
  refine rm_get hc dX8_forget_25 fl_X8_89 (dm_0 (by omega)) rfl rfl ?_
  refine rm_iload_n hc dX8_forget_28 rfl rfl ?_
  refine rm_aald (t0 := 2) (i := d) (v := .ref (ad 0 4 d)) hc dX8_forget_29 (dm_3 (by omega)) rfl rfl (by omega) (by decide) rfl rfl ?_
  refine rm_get hc dX8_forget_30 fl_X8_93 (dm_4 (by omega) (by omega) (by omega)) rfl rfl ?_
  refine rm_iload_n hc dX8_forget_33 rfl rfl ?_
  refine rm_aald (t0 := 3) (i := s0) (v := .ref (ad 0 (d + 20) s0)) hc dX8_forget_34 (dm_5 (by omega) (by omega) (by omega)) rfl rfl (by omega) (by decide) rfl rfl ?_
  refine rm_astore_n (ls' := [(0, .ref (ad 8 9 0)), (1, .int (nI (d))), (2, .int (nI (s0))), (3, .ref (ad 0 (d + 20) s0))]) hc dX8_forget_35 rfl (by decide) rfl ?_
  refine rm_aload_n hc dX8_forget_36 rfl rfl ?_
  refine rm_geti hc dX8_forget_37 fl_X8_107 (dm_s (d := d) (by omega) (by omega) (by omega) (by omega)) rfl rfl (fun v_4 e_4 => ?_)
  have hv_4 : v_4 = x 0 (36 + 22 * d + 4 * s0) := by rw [e_4, h_3]; exact kpM_0
  refine rm_if_eq (tgt := 47) hc dX8_forget_40 (by decide) (fun c_5 => ?_) (fun c_5 => ?_)
  · --
    refine rm_iconst (v := 0) hc dX8_forget_47 (by decide) ?_
    refine rm_istore (ls' := [(0, .ref (ad 8 9 0)), (1, .int (nI (d))), (2, .int (nI (s0))), (3, .ref (ad 0 (d + 20) s0)), (4, .int 0)]) hc dX8_forget_48 (by decide) rfl ?_
    refine rm_aload_n hc dX8_forget_50 rfl rfl ?_
    refine rm_callvV (As := []) (rest := []) hc dX8_forget_51 (c_X5_empty hI y_3 (k := 0) (d := d) (s0 := s0) (by omega) (by omega) (by omega) (by omega)) mv_X8_111 (dm_s (d := d) (by omega) (by omega) (by omega) (by omega)) rfl rfl (hn := rfl) (hst := rfl) (hw := Nat.le_of_ble_eq_true rfl) (hR := ⟨⟨rfl, rfl⟩, Nat.le_of_ble_eq_true rfl, Nat.le_of_ble_eq_true rfl⟩) (hnc := ⟨Nat.zero_le _, Nat.zero_le _⟩) (fun y_6 h_6 => ?_)
    refine rm_iload hc dX8_forget_54 rfl ?_
    exact rm_iret hc dX8_forget_56 ⟨(b2_0 ((hv_4).symm.trans c_5)).symm, by subst_vars; rfl⟩
  · --
    refine rm_iconst (v := 1) hc dX8_forget_43 (by decide) ?_
    refine rm_goto (tgt := 48) hc dX8_forget_44 (by decide) ?_
    refine rm_istore (ls' := [(0, .ref (ad 8 9 0)), (1, .int (nI (d))), (2, .int (nI (s0))), (3, .ref (ad 0 (d + 20) s0)), (4, .int 1)]) hc dX8_forget_48 (by decide) rfl ?_
    refine rm_aload_n hc dX8_forget_50 rfl rfl ?_
    refine rm_callvV (As := []) (rest := []) hc dX8_forget_51 (c_X5_empty hI y_3 (k := 0) (d := d) (s0 := s0) (by omega) (by omega) (by omega) (by omega)) mv_X8_111 (dm_s (d := d) (by omega) (by omega) (by omega) (by omega)) rfl rfl (hn := rfl) (hst := rfl) (hw := Nat.le_of_ble_eq_true rfl) (hR := ⟨⟨rfl, rfl⟩, Nat.le_of_ble_eq_true rfl, Nat.le_of_ble_eq_true rfl⟩) (hnc := ⟨Nat.zero_le _, Nat.zero_le _⟩) (fun y_7 h_7 => ?_)
    refine rm_iload hc dX8_forget_54 rfl ?_
    exact rm_iret hc dX8_forget_56 ⟨(b2_1 (fun h9 => c_5 ((hv_4).trans h9))).symm, by subst_vars; rfl⟩

abbrev rm_X8_shut : Room := { frames := 7, cells := 0, slots := 0, locals := 111 }
set_option maxHeartbeats 4000000 in
set_option maxRecDepth 100000 in
theorem c_X8_shut {l : Launch} {D : va_G} {cy : Nat → ClassId} {ad : Ads} (hI : IJ ad) (x : Mem) {d : Nat} (hd3 : d < 3) {nq : Nat} (hn6 : nq < 6) (hnq : NXT x nq 0) (hF : FLG x 0) : Cti l yX8_shut cX8_shut 4 (some .int) rm_X8_shut D cy ad [.ref (ad 8 9 0), .int (nI (d))] x (fun r y => r = b2 (x 0 (30 + 22 * d)) ∧ y = up (kpM x nq) 0 (30 + 22 * d) 0) := by
  refine rm_entry (Qc := Qi D cy ad (fun r y => r = b2 (x 0 (30 + 22 * d)) ∧ y = up (kpM x nq) 0 (30 + 22 * d) 0)) hI (by decide) (Nat.le_of_ble_eq_true rfl) ?_
  intro p e s m args below meth c hc
  show RM _ _ _ _ _ _ _ _ _ _ _ _ _ _ _ _ _ [(0, .ref (ad 8 9 0)), (1, .int (nI (d)))] []
  refine rm_iload_n hc dX8_shut_0 rfl rfl ?_
  refine rm_iconst (v := 3) hc dX8_shut_1 (by decide) ?_
  refine rm_callvS (As := [.int (nI (d)), .int 3]) (rest := []) hc dX8_shut_2 (c_X8_needIndex hI x (nI (d)) 3 (nI_pos (n := d) (by omega)) (nI_lt (a := d) (b := 3) (by omega) (by omega))) ms_X8_37 (hn := rfl) (hst := rfl) (hw := Nat.le_of_ble_eq_true rfl) (hR := ⟨⟨rfl, rfl⟩, Nat.le_of_ble_eq_true rfl, Nat.le_of_ble_eq_true rfl⟩) (hnc := ⟨Nat.zero_le _, Nat.zero_le _⟩) (fun y_1 h_1 => ?_)
  obtain rfl := h_1.symm
  refine rm_aload_n hc dX8_shut_5 rfl rfl ?_
  refine rm_get hc dX8_shut_6 fl_X8_19 dm_9 rfl rfl ?_
  refine rm_aload_n hc dX8_shut_9 rfl rfl ?_
  refine rm_get hc dX8_shut_10 fl_X8_10 dm_9 rfl rfl ?_
  refine rm_callvV (As := [.ref (ad 0 0 0)]) (rest := []) hc dX8_shut_13 (c_X3_keep hI x (nq := nq) hn6 hnq hF) mv_X8_45 dm_10 rfl rfl (hn := rfl) (hst := rfl) (hw := Nat.le_of_ble_eq_true rfl) (hR := ⟨⟨rfl, rfl⟩, Nat.le_of_ble_eq_true rfl, Nat.le_of_ble_eq_true rfl⟩) (hnc := ⟨Nat.zero_le _, Nat.zero_le _⟩) (fun y_2 h_2 => ?_)
  refine rm_aload_n hc dX8_shut_16 rfl rfl ?_
  refine rm_get hc dX8_shut_17 fl_X8_10 dm_9 rfl rfl ?_
  refine rm_get hc dX8_shut_20 fl_X8_89 (dm_0 (by omega)) rfl rfl ?_
  refine rm_iload_n hc dX8_shut_23 rfl rfl ?_
  refine rm_aald (t0 := 2) (i := d) (v := .ref (ad 0 4 d)) hc dX8_shut_24 (dm_3 (by omega)) rfl rfl (by omega) (by decide) rfl rfl ?_
  refine rm_astore_n (ls' := [(0, .ref (ad 8 9 0)), (1, .int (nI (d))), (2, .ref (ad 0 4 d))]) hc dX8_shut_25 rfl (by decide) rfl ?_
  refine rm_aload_n hc dX8_shut_26 rfl rfl ?_
  refine rm_geti hc dX8_shut_27 fl_X8_114 (dm_4 (by omega) (by omega) (by omega)) rfl rfl (fun v_3 e_3 => ?_)
  have hv_3 : v_3 = x 0 (30 + 22 * d) := by rw [e_3, h_2]; exact kpM_0
  refine rm_if_eq (tgt := 37) hc dX8_shut_30 (by decide) (fun c_4 => ?_) (fun c_4 => ?_)
  · --
    refine rm_iconst (v := 0) hc dX8_shut_37 (by decide) ?_
    refine rm_istore_n (ls' := [(0, .ref (ad 8 9 0)), (1, .int (nI (d))), (2, .ref (ad 0 4 d)), (3, .int 0)]) hc dX8_shut_38 rfl (by decide) rfl ?_
    refine rm_aload_n hc dX8_shut_39 rfl rfl ?_
    refine rm_iconst (v := 0) hc dX8_shut_40 (by decide) ?_
    refine rm_put hc dX8_shut_41 fl_X8_114 (dm_4 (by omega) (by omega) (by omega)) rfl (Nat.le_of_ble_eq_true rfl) ft_1_1 rfl rfl (so_4_1 (by omega) (by omega)) (rm_nm (fun x_5 ex_5 => ?_))
    refine rm_iload_n hc dX8_shut_44 rfl rfl ?_
    exact rm_iret hc dX8_shut_45 ⟨(b2_0 ((hv_3).symm.trans c_4)).symm, by subst_vars; rfl⟩
  · --
    refine rm_iconst (v := 1) hc dX8_shut_33 (by decide) ?_
    refine rm_goto (tgt := 38) hc dX8_shut_34 (by decide) ?_
    refine rm_istore_n (ls' := [(0, .ref (ad 8 9 0)), (1, .int (nI (d))), (2, .ref (ad 0 4 d)), (3, .int 1)]) hc dX8_shut_38 rfl (by decide) rfl ?_
    refine rm_aload_n hc dX8_shut_39 rfl rfl ?_
    refine rm_iconst (v := 0) hc dX8_shut_40 (by decide) ?_
    refine rm_put hc dX8_shut_41 fl_X8_114 (dm_4 (by omega) (by omega) (by omega)) rfl (Nat.le_of_ble_eq_true rfl) ft_1_1 rfl rfl (so_4_1 (by omega) (by omega)) (rm_nm (fun x_6 ex_6 => ?_))
    refine rm_iload_n hc dX8_shut_44 rfl rfl ?_
    exact rm_iret hc dX8_shut_45 ⟨(b2_1 (fun h9 => c_4 ((hv_3).trans h9))).symm, by subst_vars; rfl⟩

abbrev rm_X8_unlock : Room := { frames := 7, cells := 0, slots := 0, locals := 111 }
set_option maxHeartbeats 4000000 in
set_option maxRecDepth 100000 in
theorem c_X8_unlock {l : Launch} {D : va_G} {cy : Nat → ClassId} {ad : Ads} (hI : IJ ad) (x : Mem) {d : Nat} (hd3 : d < 3) {nq : Nat} (hn6 : nq < 6) (hnq : NXT x nq 0) (hF : FLG x 0) : Cti l yX8_unlock cX8_unlock 4 (some .int) rm_X8_unlock D cy ad [.ref (ad 8 9 0), .int (nI (d))] x (fun r y => r = x 0 (31 + 22 * d) ∧ y = up (kpM x nq) 0 (31 + 22 * d) 0) := by
  refine rm_entry (Qc := Qi D cy ad (fun r y => r = x 0 (31 + 22 * d) ∧ y = up (kpM x nq) 0 (31 + 22 * d) 0)) hI (by decide) (Nat.le_of_ble_eq_true rfl) ?_
  intro p e s m args below meth c hc
  show RM _ _ _ _ _ _ _ _ _ _ _ _ _ _ _ _ _ [(0, .ref (ad 8 9 0)), (1, .int (nI (d)))] []
  refine rm_iload_n hc dX8_unlock_0 rfl rfl ?_
  refine rm_iconst (v := 3) hc dX8_unlock_1 (by decide) ?_
  refine rm_callvS (As := [.int (nI (d)), .int 3]) (rest := []) hc dX8_unlock_2 (c_X8_needIndex hI x (nI (d)) 3 (nI_pos (n := d) (by omega)) (nI_lt (a := d) (b := 3) (by omega) (by omega))) ms_X8_37 (hn := rfl) (hst := rfl) (hw := Nat.le_of_ble_eq_true rfl) (hR := ⟨⟨rfl, rfl⟩, Nat.le_of_ble_eq_true rfl, Nat.le_of_ble_eq_true rfl⟩) (hnc := ⟨Nat.zero_le _, Nat.zero_le _⟩) (fun y_1 h_1 => ?_)
  obtain rfl := h_1.symm
  refine rm_aload_n hc dX8_unlock_5 rfl rfl ?_
  refine rm_get hc dX8_unlock_6 fl_X8_19 dm_9 rfl rfl ?_
  refine rm_aload_n hc dX8_unlock_9 rfl rfl ?_
  refine rm_get hc dX8_unlock_10 fl_X8_10 dm_9 rfl rfl ?_
  refine rm_callvV (As := [.ref (ad 0 0 0)]) (rest := []) hc dX8_unlock_13 (c_X3_keep hI x (nq := nq) hn6 hnq hF) mv_X8_45 dm_10 rfl rfl (hn := rfl) (hst := rfl) (hw := Nat.le_of_ble_eq_true rfl) (hR := ⟨⟨rfl, rfl⟩, Nat.le_of_ble_eq_true rfl, Nat.le_of_ble_eq_true rfl⟩) (hnc := ⟨Nat.zero_le _, Nat.zero_le _⟩) (fun y_2 h_2 => ?_)
  refine rm_aload_n hc dX8_unlock_16 rfl rfl ?_
  refine rm_get hc dX8_unlock_17 fl_X8_10 dm_9 rfl rfl ?_
  refine rm_get hc dX8_unlock_20 fl_X8_89 (dm_0 (by omega)) rfl rfl ?_
  refine rm_iload_n hc dX8_unlock_23 rfl rfl ?_
  refine rm_aald (t0 := 2) (i := d) (v := .ref (ad 0 4 d)) hc dX8_unlock_24 (dm_3 (by omega)) rfl rfl (by omega) (by decide) rfl rfl ?_
  refine rm_astore_n (ls' := [(0, .ref (ad 8 9 0)), (1, .int (nI (d))), (2, .ref (ad 0 4 d))]) hc dX8_unlock_25 rfl (by decide) rfl ?_
  refine rm_aload_n hc dX8_unlock_26 rfl rfl ?_
  refine rm_geti hc dX8_unlock_27 fl_X8_117 (dm_4 (by omega) (by omega) (by omega)) rfl rfl (fun v_3 e_3 => ?_)
  refine rm_istore_n (ls' := [(0, .ref (ad 8 9 0)), (1, .int (nI (d))), (2, .ref (ad 0 4 d)), (3, .int v_3)]) hc dX8_unlock_30 rfl (by decide) rfl ?_
  refine rm_aload_n hc dX8_unlock_31 rfl rfl ?_
  refine rm_iconst (v := 0) hc dX8_unlock_32 (by decide) ?_
  refine rm_put hc dX8_unlock_33 fl_X8_117 (dm_4 (by omega) (by omega) (by omega)) rfl (Nat.le_of_ble_eq_true rfl) ft_1_2 rfl rfl (so_4_2 (by omega) (by omega)) (rm_nm (fun x_4 ex_4 => ?_))
  refine rm_iload_n hc dX8_unlock_36 rfl rfl ?_
  exact rm_iret hc dX8_unlock_37 ⟨by subst_vars; first | rfl | exact kpM_0, by subst_vars; rfl⟩

theorem valS_kp {x : Mem} {nq : Nat} {w : Int32} : valS (kpM x nq) 0 w = valS x 0 w := by
  unfold valS
  rw [kpM_0, kpM_0, kpM_0]

abbrev rm_X8_set : Room := { frames := 8, cells := 0, slots := 0, locals := 132 }
set_option maxHeartbeats 4000000 in
set_option maxRecDepth 100000 in
theorem c_X8_set {l : Launch} {D : va_G} {cy : Nat → ClassId} {ad : Ads} (hI : IJ ad) (x : Mem) (wv vv lov hiv : Int32) (love : lov = if wv = 2 then 0 else 1) (hive : hiv = if wv = 0 then 64 else if wv = 1 then 500 else 20) (hw1 : ¬ wv < 0) (hw2 : wv < 3) (hv1 : ¬ vv < lov) (hv2 : ¬ hiv < vv) {nq : Nat} (hn6 : nq < 6) (hnq : NXT x nq 0) (hF : FLG x 0) : Cti l yX8_set cX8_set 4 (some .int) rm_X8_set D cy ad [.ref (ad 8 9 0), .int wv, .int vv] x (fun r y => r = valS x 0 wv ∧ y = chgS (kpM x nq) 0 wv vv) := by
  refine rm_entry (Qc := Qi D cy ad (fun r y => r = valS x 0 wv ∧ y = chgS (kpM x nq) 0 wv vv)) hI (by decide) (Nat.le_of_ble_eq_true rfl) ?_
  intro p e s m args below meth c hc
  show RM _ _ _ _ _ _ _ _ _ _ _ _ _ _ _ _ _ [(0, .ref (ad 8 9 0)), (1, .int wv), (2, .int vv)] []
  refine rm_iload_n hc dX8_set_0 rfl rfl ?_
  refine rm_iconst (v := 3) hc dX8_set_1 (by decide) ?_
  refine rm_callvS (As := [.int wv, .int 3]) (rest := []) hc dX8_set_2 (c_X8_needIndex hI x wv 3 hw1 hw2) ms_X8_37 (hn := rfl) (hst := rfl) (hw := Nat.le_of_ble_eq_true rfl) (hR := ⟨⟨rfl, rfl⟩, Nat.le_of_ble_eq_true rfl, Nat.le_of_ble_eq_true rfl⟩) (hnc := ⟨Nat.zero_le _, Nat.zero_le _⟩) (fun y_1 h_1 => ?_)
  obtain rfl := h_1.symm
  refine rm_iload_n hc dX8_set_5 rfl rfl ?_
  refine rm_iload_n hc dX8_set_6 rfl rfl ?_
  refine rm_calliS (As := [.int wv]) (rest := [.int vv]) hc dX8_set_7 (c_X4_least hI x wv) ms_X8_120 (hn := rfl) (hst := rfl) (hw := Nat.le_of_ble_eq_true rfl) (hR := ⟨⟨rfl, rfl⟩, Nat.le_of_ble_eq_true rfl, Nat.le_of_ble_eq_true rfl⟩) (hnc := ⟨Nat.zero_le _, Nat.zero_le _⟩) (fun r_2 y_2 h_2 => ?_)
  obtain ⟨e_2, ey_2⟩ := h_2
  obtain rfl := ey_2.symm
  obtain rfl : lov = r_2 := love.trans e_2.symm
  refine rm_iload_n hc dX8_set_10 rfl rfl ?_
  refine rm_calliS (As := [.int wv]) (rest := [.int lov, .int vv]) hc dX8_set_11 (c_X4_most hI x wv) ms_X8_126 (hn := rfl) (hst := rfl) (hw := Nat.le_of_ble_eq_true rfl) (hR := ⟨⟨rfl, rfl⟩, Nat.le_of_ble_eq_true rfl, Nat.le_of_ble_eq_true rfl⟩) (hnc := ⟨Nat.zero_le _, Nat.zero_le _⟩) (fun r_3 y_3 h_3 => ?_)
  obtain ⟨e_3, ey_3⟩ := h_3
  obtain rfl := ey_3.symm
  obtain rfl : hiv = r_3 := hive.trans e_3.symm
  refine rm_callvS (As := [.int vv, .int lov, .int hiv]) (rest := []) hc dX8_set_14 (c_X8_needRange hI x vv lov hiv hv1 hv2) ms_X8_41 (hn := rfl) (hst := rfl) (hw := Nat.le_of_ble_eq_true rfl) (hR := ⟨⟨rfl, rfl⟩, Nat.le_of_ble_eq_true rfl, Nat.le_of_ble_eq_true rfl⟩) (hnc := ⟨Nat.zero_le _, Nat.zero_le _⟩) (fun y_4 h_4 => ?_)
  obtain rfl := h_4.symm
  refine rm_aload_n hc dX8_set_17 rfl rfl ?_
  refine rm_get hc dX8_set_18 fl_X8_19 dm_9 rfl rfl ?_
  refine rm_aload_n hc dX8_set_21 rfl rfl ?_
  refine rm_get hc dX8_set_22 fl_X8_10 dm_9 rfl rfl ?_
  refine rm_callvV (As := [.ref (ad 0 0 0)]) (rest := []) hc dX8_set_25 (c_X3_keep hI x (nq := nq) hn6 hnq hF) mv_X8_45 dm_10 rfl rfl (hn := rfl) (hst := rfl) (hw := Nat.le_of_ble_eq_true rfl) (hR := ⟨⟨rfl, rfl⟩, Nat.le_of_ble_eq_true rfl, Nat.le_of_ble_eq_true rfl⟩) (hnc := ⟨Nat.zero_le _, Nat.zero_le _⟩) (fun y_5 h_5 => ?_)
  refine rm_aload_n hc dX8_set_28 rfl rfl ?_
  refine rm_get hc dX8_set_29 fl_X8_10 dm_9 rfl rfl ?_
  refine rm_get hc dX8_set_32 fl_X8_129 (dm_0 (by omega)) rfl rfl ?_
  refine rm_iload_n hc dX8_set_35 rfl rfl ?_
  refine rm_calliV (As := [.int wv]) (rest := []) hc dX8_set_36 (c_X4_value hI y_5 (k := 0) (by omega) wv) mv_X8_133 (dm_8 (by omega)) rfl rfl (hn := rfl) (hst := rfl) (hw := Nat.le_of_ble_eq_true rfl) (hR := ⟨⟨rfl, rfl⟩, Nat.le_of_ble_eq_true rfl, Nat.le_of_ble_eq_true rfl⟩) (hnc := ⟨Nat.zero_le _, Nat.zero_le _⟩) (fun r_6 y_6 h_6 => ?_)
  obtain ⟨e_6, ey_6⟩ := h_6
  obtain rfl := ey_6.symm
  refine rm_istore_n (ls' := [(0, .ref (ad 8 9 0)), (1, .int wv), (2, .int vv), (3, .int r_6)]) hc dX8_set_39 rfl (by decide) rfl ?_
  refine rm_aload_n hc dX8_set_40 rfl rfl ?_
  refine rm_get hc dX8_set_41 fl_X8_10 dm_9 rfl rfl ?_
  refine rm_get hc dX8_set_44 fl_X8_129 (dm_0 (by omega)) rfl rfl ?_
  refine rm_iload_n hc dX8_set_47 rfl rfl ?_
  refine rm_iload_n hc dX8_set_48 rfl rfl ?_
  refine rm_callvV (As := [.int wv, .int vv]) (rest := []) hc dX8_set_49 (c_X4_change hI y_5 (k := 0) (by omega) wv vv) mv_X8_136 (dm_8 (by omega)) rfl rfl (hn := rfl) (hst := rfl) (hw := Nat.le_of_ble_eq_true rfl) (hR := ⟨⟨rfl, rfl⟩, Nat.le_of_ble_eq_true rfl, Nat.le_of_ble_eq_true rfl⟩) (hnc := ⟨Nat.zero_le _, Nat.zero_le _⟩) (fun y_7 h_7 => ?_)
  refine rm_iload_n hc dX8_set_52 rfl rfl ?_
  exact rm_iret hc dX8_set_53 ⟨by rw [e_6, h_5]; exact valS_kp, by subst_vars; rfl⟩




abbrev rm_X8_undo : Room := { frames := 7, cells := 0, slots := 0, locals := 110 }
set_option maxHeartbeats 4000000 in
set_option maxRecDepth 100000 in
theorem c_X8_undo {l : Launch} {D : va_G} {cy : Nat → ClassId} {ad : Ads} (hI : IJ ad) (x : Mem) {nq hl : Nat} (hn6 : nq < 6) (hnq : NXT x nq 1) (hF : ∀ b, b < 7 → FLG x b) (hhl : x 8 1 = nI hl) (hl0 : 0 < hl) (hl6 : hl ≤ 6) : Cti l yX8_undo cX8_undo 1 (some .int) rm_X8_undo D cy ad [.ref (ad 8 9 0)] x (fun r y => r = nI (hl - 1) ∧ y = rsM x nq) := by
  refine rm_entry (Qc := Qi D cy ad (fun r y => r = nI (hl - 1) ∧ y = rsM x nq)) hI (by decide) (Nat.le_of_ble_eq_true rfl) ?_
  intro p e s m args below meth c hc
  show RM _ _ _ _ _ _ _ _ _ _ _ _ _ _ _ _ _ [(0, .ref (ad 8 9 0))] []
  refine rm_aload_n hc dX8_undo_0 rfl rfl ?_
  refine rm_get hc dX8_undo_1 fl_X8_19 dm_9 rfl rfl ?_
  refine rm_geti hc dX8_undo_4 fl_X8_161 dm_10 rfl rfl (fun v_1 e_1 => ?_)
  obtain rfl : v_1 = nI hl := e_1.trans hhl
  refine rm_if_le (tgt := 14) hc dX8_undo_7 (by decide) (fun h => absurd h (fun h2 => absurd ((nI_leI (a := hl) (b := 0) (by omega) (by omega)).mp h2) (by omega))) (fun _ => ?_)
  refine rm_iconst (v := 1) hc dX8_undo_10 (by decide) ?_
  refine rm_goto (tgt := 15) hc dX8_undo_11 (by decide) ?_
  refine rm_callvS (As := [.int 1]) (rest := []) hc dX8_undo_15 (c_X8_needState hI x) ms_X8_69 (hn := rfl) (hst := rfl) (hw := Nat.le_of_ble_eq_true rfl) (hR := ⟨⟨rfl, rfl⟩, Nat.le_of_ble_eq_true rfl, Nat.le_of_ble_eq_true rfl⟩) (hnc := ⟨Nat.zero_le _, Nat.zero_le _⟩) (fun y_3 h_3 => ?_)
  obtain rfl := h_3.symm
  refine rm_aload_n hc dX8_undo_18 rfl rfl ?_
  refine rm_get hc dX8_undo_19 fl_X8_19 dm_9 rfl rfl ?_
  refine rm_aload_n hc dX8_undo_22 rfl rfl ?_
  refine rm_get hc dX8_undo_23 fl_X8_10 dm_9 rfl rfl ?_
  refine rm_callvV (As := [.ref (ad 0 0 0)]) (rest := []) hc dX8_undo_26 (c_X3_restore hI x (nq := nq) (hl := hl) hn6 hnq hhl hl0 hl6 hF) mv_X8_162 dm_10 rfl rfl (hn := rfl) (hst := rfl) (hw := Nat.le_of_ble_eq_true rfl) (hR := ⟨⟨rfl, rfl⟩, Nat.le_of_ble_eq_true rfl, Nat.le_of_ble_eq_true rfl⟩) (hnc := ⟨Nat.zero_le _, Nat.zero_le _⟩) (fun y_4 h_4 => ?_)
  refine rm_aload_n hc dX8_undo_29 rfl rfl ?_
  refine rm_get hc dX8_undo_30 fl_X8_19 dm_9 rfl rfl ?_
  refine rm_geti hc dX8_undo_33 fl_X8_161 dm_10 rfl rfl (fun v_5 e_5 => ?_)
  exact rm_iret hc dX8_undo_36 ⟨by subst_vars; unfold rsM; rw [cpS_b (by omega), up_s, hhl]; exact pk_sub (a := hl) (b := 1) (by omega), by subst_vars; rfl⟩

abbrev rm_X8_fob : Room := { frames := 8, cells := 0, slots := 0, locals := 132 }
set_option maxHeartbeats 4000000 in
set_option maxRecDepth 100000 in
theorem c_X8_fob {l : Launch} {D : va_G} {cy : Nat → ClassId} {ad : Ads} (hI : IJ ad) (x : Mem) {j : Nat} (hj : j < 4) (wv : Int32) (hw1 : ¬ wv < 0) (hw2 : ¬ 4 < wv) : Cti l yX8_fob cX8_fob 3 (some .int) rm_X8_fob D cy ad [.ref (ad 8 9 0), .int (nI (j)), .int wv] x (fun r y => r = lookFob x 0 j wv ∧ y = x) := by
  refine rm_entry (Qc := Qi D cy ad (fun r y => r = lookFob x 0 j wv ∧ y = x)) hI (by decide) (Nat.le_of_ble_eq_true rfl) ?_
  intro p e s m args below meth c hc
  show RM _ _ _ _ _ _ _ _ _ _ _ _ _ _ _ _ _ [(0, .ref (ad 8 9 0)), (1, .int (nI (j))), (2, .int wv)] []
  refine rm_iload_n hc dX8_fob_0 rfl rfl ?_
  refine rm_iconst (v := 4) hc dX8_fob_1 (by decide) ?_
  refine rm_callvS (As := [.int (nI (j)), .int 4]) (rest := []) hc dX8_fob_2 (c_X8_needIndex hI x (nI (j)) 4 (nI_pos (n := j) (by omega)) (nI_lt (a := j) (b := 4) (by omega) (by omega))) ms_X8_37 (hn := rfl) (hst := rfl) (hw := Nat.le_of_ble_eq_true rfl) (hR := ⟨⟨rfl, rfl⟩, Nat.le_of_ble_eq_true rfl, Nat.le_of_ble_eq_true rfl⟩) (hnc := ⟨Nat.zero_le _, Nat.zero_le _⟩) (fun y_1 h_1 => ?_)
  obtain rfl := h_1.symm
  refine rm_iload_n hc dX8_fob_5 rfl rfl ?_
  refine rm_iconst (v := 0) hc dX8_fob_6 (by decide) ?_
  refine rm_iconst (v := 4) hc dX8_fob_7 (by decide) ?_
  refine rm_callvS (As := [.int wv, .int 0, .int 4]) (rest := []) hc dX8_fob_8 (c_X8_needRange hI x wv 0 4 hw1 hw2) ms_X8_41 (hn := rfl) (hst := rfl) (hw := Nat.le_of_ble_eq_true rfl) (hR := ⟨⟨rfl, rfl⟩, Nat.le_of_ble_eq_true rfl, Nat.le_of_ble_eq_true rfl⟩) (hnc := ⟨Nat.zero_le _, Nat.zero_le _⟩) (fun y_2 h_2 => ?_)
  obtain rfl := h_2.symm
  refine rm_aload_n hc dX8_fob_11 rfl rfl ?_
  refine rm_get hc dX8_fob_12 fl_X8_10 dm_9 rfl rfl ?_
  refine rm_get hc dX8_fob_15 fl_X8_49 (dm_0 (by omega)) rfl rfl ?_
  refine rm_iload_n hc dX8_fob_18 rfl rfl ?_
  refine rm_aald (t0 := 1) (i := j) (v := .ref (ad 0 2 j)) hc dX8_fob_19 (dm_1 (by omega)) rfl rfl (by omega) (by decide) rfl rfl ?_
  refine rm_iload_n hc dX8_fob_20 rfl rfl ?_
  refine rm_calliV (As := [.int wv]) (rest := []) hc dX8_fob_21 (c_X2_look hI x (k := 0) (j := j) (by omega) (by omega) wv) mv_X8_165 (dm_2 (by omega) (by omega)) rfl rfl (hn := rfl) (hst := rfl) (hw := Nat.le_of_ble_eq_true rfl) (hR := ⟨⟨rfl, rfl⟩, Nat.le_of_ble_eq_true rfl, Nat.le_of_ble_eq_true rfl⟩) (hnc := ⟨Nat.zero_le _, Nat.zero_le _⟩) (fun r_3 y_3 h_3 => ?_)
  obtain ⟨e_3, ey_3⟩ := h_3
  obtain rfl := ey_3.symm
  exact rm_iret hc dX8_fob_24 ⟨by subst_vars; rfl, rfl⟩

abbrev rm_X8_slot : Room := { frames := 8, cells := 0, slots := 0, locals := 132 }
set_option maxHeartbeats 4000000 in
set_option maxRecDepth 100000 in
theorem c_X8_slot {l : Launch} {D : va_G} {cy : Nat → ClassId} {ad : Ads} (hI : IJ ad) (x : Mem) {d s0 : Nat} (hd3 : d < 3) (hs : s0 < 4) (wv : Int32) (hw1 : ¬ wv < 0) (hw2 : ¬ 3 < wv) : Cti l yX8_slot cX8_slot 4 (some .int) rm_X8_slot D cy ad [.ref (ad 8 9 0), .int (nI (d)), .int (nI (s0)), .int wv] x (fun r y => r = lookSlot x 0 d s0 wv ∧ y = x) := by
  refine rm_entry (Qc := Qi D cy ad (fun r y => r = lookSlot x 0 d s0 wv ∧ y = x)) hI (by decide) (Nat.le_of_ble_eq_true rfl) ?_
  intro p e s m args below meth c hc
  show RM _ _ _ _ _ _ _ _ _ _ _ _ _ _ _ _ _ [(0, .ref (ad 8 9 0)), (1, .int (nI (d))), (2, .int (nI (s0))), (3, .int wv)] []
  refine rm_iload_n hc dX8_slot_0 rfl rfl ?_
  refine rm_iconst (v := 3) hc dX8_slot_1 (by decide) ?_
  refine rm_callvS (As := [.int (nI (d)), .int 3]) (rest := []) hc dX8_slot_2 (c_X8_needIndex hI x (nI (d)) 3 (nI_pos (n := d) (by omega)) (nI_lt (a := d) (b := 3) (by omega) (by omega))) ms_X8_37 (hn := rfl) (hst := rfl) (hw := Nat.le_of_ble_eq_true rfl) (hR := ⟨⟨rfl, rfl⟩, Nat.le_of_ble_eq_true rfl, Nat.le_of_ble_eq_true rfl⟩) (hnc := ⟨Nat.zero_le _, Nat.zero_le _⟩) (fun y_1 h_1 => ?_)
  obtain rfl := h_1.symm
  refine rm_iload_n hc dX8_slot_5 rfl rfl ?_
  refine rm_iconst (v := 4) hc dX8_slot_6 (by decide) ?_
  refine rm_callvS (As := [.int (nI (s0)), .int 4]) (rest := []) hc dX8_slot_7 (c_X8_needIndex hI x (nI (s0)) 4 (nI_pos (n := s0) (by omega)) (nI_lt (a := s0) (b := 4) (by omega) (by omega))) ms_X8_37 (hn := rfl) (hst := rfl) (hw := Nat.le_of_ble_eq_true rfl) (hR := ⟨⟨rfl, rfl⟩, Nat.le_of_ble_eq_true rfl, Nat.le_of_ble_eq_true rfl⟩) (hnc := ⟨Nat.zero_le _, Nat.zero_le _⟩) (fun y_2 h_2 => ?_)
  obtain rfl := h_2.symm
  refine rm_iload_n hc dX8_slot_10 rfl rfl ?_
  refine rm_iconst (v := 0) hc dX8_slot_11 (by decide) ?_
  refine rm_iconst (v := 3) hc dX8_slot_12 (by decide) ?_
  refine rm_callvS (As := [.int wv, .int 0, .int 3]) (rest := []) hc dX8_slot_13 (c_X8_needRange hI x wv 0 3 hw1 hw2) ms_X8_41 (hn := rfl) (hst := rfl) (hw := Nat.le_of_ble_eq_true rfl) (hR := ⟨⟨rfl, rfl⟩, Nat.le_of_ble_eq_true rfl, Nat.le_of_ble_eq_true rfl⟩) (hnc := ⟨Nat.zero_le _, Nat.zero_le _⟩) (fun y_3 h_3 => ?_)
  obtain rfl := h_3.symm
  refine rm_aload_n hc dX8_slot_16 rfl rfl ?_
  refine rm_get hc dX8_slot_17 fl_X8_10 dm_9 rfl rfl ?_
  refine rm_get hc dX8_slot_20 fl_X8_89 (dm_0 (by omega)) rfl rfl ?_
  refine rm_iload_n hc dX8_slot_23 rfl rfl ?_
  refine rm_aald (t0 := 2) (i := d) (v := .ref (ad 0 4 d)) hc dX8_slot_24 (dm_3 (by omega)) rfl rfl (by omega) (by decide) rfl rfl ?_
  refine rm_get hc dX8_slot_25 fl_X8_93 (dm_4 (by omega) (by omega) (by omega)) rfl rfl ?_
  refine rm_iload_n hc dX8_slot_28 rfl rfl ?_
  refine rm_aald (t0 := 3) (i := s0) (v := .ref (ad 0 (d + 20) s0)) hc dX8_slot_29 (dm_5 (by omega) (by omega) (by omega)) rfl rfl (by omega) (by decide) rfl rfl ?_
  refine rm_iload_n hc dX8_slot_30 rfl rfl ?_
  refine rm_calliV (As := [.int wv]) (rest := []) hc dX8_slot_31 (c_X5_look hI x (k := 0) (d := d) (s0 := s0) (by omega) (by omega) (by omega) (by omega) wv) mv_X8_168 (dm_s (d := d) (by omega) (by omega) (by omega) (by omega)) rfl rfl (hn := rfl) (hst := rfl) (hw := Nat.le_of_ble_eq_true rfl) (hR := ⟨⟨rfl, rfl⟩, Nat.le_of_ble_eq_true rfl, Nat.le_of_ble_eq_true rfl⟩) (hnc := ⟨Nat.zero_le _, Nat.zero_le _⟩) (fun r_4 y_4 h_4 => ?_)
  obtain ⟨e_4, ey_4⟩ := h_4
  obtain rfl := ey_4.symm
  exact rm_iret hc dX8_slot_34 ⟨by subst_vars; rfl, rfl⟩

abbrev rm_X8_door : Room := { frames := 8, cells := 0, slots := 0, locals := 132 }
set_option maxHeartbeats 4000000 in
set_option maxRecDepth 100000 in
theorem c_X8_door {l : Launch} {D : va_G} {cy : Nat → ClassId} {ad : Ads} (hI : IJ ad) (x : Mem) {d : Nat} (hd3 : d < 3) (wv : Int32) (hw1 : ¬ wv < 0) (hw2 : ¬ 7 < wv) : Cti l yX8_door cX8_door 3 (some .int) rm_X8_door D cy ad [.ref (ad 8 9 0), .int (nI (d)), .int wv] x (fun r y => r = lookDoor x 0 d (x 0 2) wv ∧ y = x) := by
  refine rm_entry (Qc := Qi D cy ad (fun r y => r = lookDoor x 0 d (x 0 2) wv ∧ y = x)) hI (by decide) (Nat.le_of_ble_eq_true rfl) ?_
  intro p e s m args below meth c hc
  show RM _ _ _ _ _ _ _ _ _ _ _ _ _ _ _ _ _ [(0, .ref (ad 8 9 0)), (1, .int (nI (d))), (2, .int wv)] []
  refine rm_iload_n hc dX8_door_0 rfl rfl ?_
  refine rm_iconst (v := 3) hc dX8_door_1 (by decide) ?_
  refine rm_callvS (As := [.int (nI (d)), .int 3]) (rest := []) hc dX8_door_2 (c_X8_needIndex hI x (nI (d)) 3 (nI_pos (n := d) (by omega)) (nI_lt (a := d) (b := 3) (by omega) (by omega))) ms_X8_37 (hn := rfl) (hst := rfl) (hw := Nat.le_of_ble_eq_true rfl) (hR := ⟨⟨rfl, rfl⟩, Nat.le_of_ble_eq_true rfl, Nat.le_of_ble_eq_true rfl⟩) (hnc := ⟨Nat.zero_le _, Nat.zero_le _⟩) (fun y_1 h_1 => ?_)
  obtain rfl := h_1.symm
  refine rm_iload_n hc dX8_door_5 rfl rfl ?_
  refine rm_iconst (v := 0) hc dX8_door_6 (by decide) ?_
  refine rm_bipush (v := 7) hc dX8_door_7 (by decide) ?_
  refine rm_callvS (As := [.int wv, .int 0, .int 7]) (rest := []) hc dX8_door_9 (c_X8_needRange hI x wv 0 7 hw1 hw2) ms_X8_41 (hn := rfl) (hst := rfl) (hw := Nat.le_of_ble_eq_true rfl) (hR := ⟨⟨rfl, rfl⟩, Nat.le_of_ble_eq_true rfl, Nat.le_of_ble_eq_true rfl⟩) (hnc := ⟨Nat.zero_le _, Nat.zero_le _⟩) (fun y_2 h_2 => ?_)
  obtain rfl := h_2.symm
  refine rm_aload_n hc dX8_door_12 rfl rfl ?_
  refine rm_get hc dX8_door_13 fl_X8_10 dm_9 rfl rfl ?_
  refine rm_get hc dX8_door_16 fl_X8_89 (dm_0 (by omega)) rfl rfl ?_
  refine rm_iload_n hc dX8_door_19 rfl rfl ?_
  refine rm_aald (t0 := 2) (i := d) (v := .ref (ad 0 4 d)) hc dX8_door_20 (dm_3 (by omega)) rfl rfl (by omega) (by decide) rfl rfl ?_
  refine rm_iload_n hc dX8_door_21 rfl rfl ?_
  refine rm_aload_n hc dX8_door_22 rfl rfl ?_
  refine rm_get hc dX8_door_23 fl_X8_10 dm_9 rfl rfl ?_
  refine rm_get hc dX8_door_26 fl_X8_129 (dm_0 (by omega)) rfl rfl ?_
  refine rm_calliV (As := [.int wv, .ref (ad 0 8 0)]) (rest := []) hc dX8_door_29 (c_X1_look hI x (k := 0) (d := d) (k2 := 0) (by omega) (by omega) (by omega) (by omega) wv) mv_X8_169 (dm_4 (by omega) (by omega) (by omega)) rfl rfl (hn := rfl) (hst := rfl) (hw := Nat.le_of_ble_eq_true rfl) (hR := ⟨⟨rfl, rfl⟩, Nat.le_of_ble_eq_true rfl, Nat.le_of_ble_eq_true rfl⟩) (hnc := ⟨Nat.zero_le _, Nat.zero_le _⟩) (fun r_3 y_3 h_3 => ?_)
  obtain ⟨e_3, ey_3⟩ := h_3
  obtain rfl := ey_3.symm
  exact rm_iret hc dX8_door_32 ⟨by subst_vars; rfl, rfl⟩

abbrev rm_X8_air : Room := { frames := 7, cells := 0, slots := 0, locals := 110 }
set_option maxHeartbeats 4000000 in
set_option maxRecDepth 100000 in
theorem c_X8_air {l : Launch} {D : va_G} {cy : Nat → ClassId} {ad : Ads} (hI : IJ ad) (x : Mem) (wv : Int32) (hw1 : ¬ wv < 0) : Cti l yX8_air cX8_air 2 (some .int) rm_X8_air D cy ad [.ref (ad 8 9 0), .int wv] x (fun r y => r = numA x 0 wv ∧ y = x) := by
  refine rm_entry (Qc := Qi D cy ad (fun r y => r = numA x 0 wv ∧ y = x)) hI (by decide) (Nat.le_of_ble_eq_true rfl) ?_
  intro p e s m args below meth c hc
  show RM _ _ _ _ _ _ _ _ _ _ _ _ _ _ _ _ _ [(0, .ref (ad 8 9 0)), (1, .int wv)] []
  refine rm_iload_n hc dX8_air_0 rfl rfl ?_
  refine rm_if_lt (tgt := 8) hc dX8_air_1 (by decide) (fun h => absurd h hw1) (fun _ => ?_)
  refine rm_iconst (v := 1) hc dX8_air_4 (by decide) ?_
  refine rm_goto (tgt := 9) hc dX8_air_5 (by decide) ?_
  refine rm_callvS (As := [.int 1]) (rest := []) hc dX8_air_9 (c_X8_needArgument hI x) ms_X8_151 (hn := rfl) (hst := rfl) (hw := Nat.le_of_ble_eq_true rfl) (hR := ⟨⟨rfl, rfl⟩, Nat.le_of_ble_eq_true rfl, Nat.le_of_ble_eq_true rfl⟩) (hnc := ⟨Nat.zero_le _, Nat.zero_le _⟩) (fun y_2 h_2 => ?_)
  obtain rfl := h_2.symm
  refine rm_aload_n hc dX8_air_12 rfl rfl ?_
  refine rm_get hc dX8_air_13 fl_X8_10 dm_9 rfl rfl ?_
  refine rm_get hc dX8_air_16 fl_X8_77 (dm_0 (by omega)) rfl rfl ?_
  refine rm_iload_n hc dX8_air_19 rfl rfl ?_
  refine rm_calliV (As := [.int wv]) (rest := []) hc dX8_air_20 (c_X0_number hI x (k := 0) (by omega) wv) mv_X8_172 (dm_6 (by omega)) rfl rfl (hn := rfl) (hst := rfl) (hw := Nat.le_of_ble_eq_true rfl) (hR := ⟨⟨rfl, rfl⟩, Nat.le_of_ble_eq_true rfl, Nat.le_of_ble_eq_true rfl⟩) (hnc := ⟨Nat.zero_le _, Nat.zero_le _⟩) (fun r_3 y_3 h_3 => ?_)
  obtain ⟨e_3, ey_3⟩ := h_3
  obtain rfl := ey_3.symm
  exact rm_iret hc dX8_air_23 ⟨by subst_vars; rfl, rfl⟩

abbrev rm_X8_count : Room := { frames := 8, cells := 0, slots := 0, locals := 132 }
set_option maxHeartbeats 4000000 in
set_option maxRecDepth 100000 in
theorem c_X8_count {l : Launch} {D : va_G} {cy : Nat → ClassId} {ad : Ads} (hI : IJ ad) (x : Mem) (wv : Int32) (hw1 : ¬ wv < 0) (hw2 : ¬ 7 < wv) : Cti l yX8_count cX8_count 2 (some .int) rm_X8_count D cy ad [.ref (ad 8 9 0), .int wv] x (fun r y => r = cntS x wv ∧ y = x) := by
  refine rm_entry (Qc := Qi D cy ad (fun r y => r = cntS x wv ∧ y = x)) hI (by decide) (Nat.le_of_ble_eq_true rfl) ?_
  intro p e s m args below meth c hc
  show RM _ _ _ _ _ _ _ _ _ _ _ _ _ _ _ _ _ [(0, .ref (ad 8 9 0)), (1, .int wv)] []
  refine rm_iload_n hc dX8_count_0 rfl rfl ?_
  refine rm_iconst (v := 0) hc dX8_count_1 (by decide) ?_
  refine rm_bipush (v := 7) hc dX8_count_2 (by decide) ?_
  refine rm_callvS (As := [.int wv, .int 0, .int 7]) (rest := []) hc dX8_count_4 (c_X8_needRange hI x wv 0 7 hw1 hw2) ms_X8_41 (hn := rfl) (hst := rfl) (hw := Nat.le_of_ble_eq_true rfl) (hR := ⟨⟨rfl, rfl⟩, Nat.le_of_ble_eq_true rfl, Nat.le_of_ble_eq_true rfl⟩) (hnc := ⟨Nat.zero_le _, Nat.zero_le _⟩) (fun y_1 h_1 => ?_)
  obtain rfl := h_1.symm
  refine rm_aload_n hc dX8_count_7 rfl rfl ?_
  refine rm_iload_n hc dX8_count_8 rfl rfl ?_
  refine rm_calliV (As := [.int wv]) (rest := []) hc dX8_count_9 (c_X8_counted hI x wv) mv_X8_175 dm_9 rfl rfl (hn := rfl) (hst := rfl) (hw := Nat.le_of_ble_eq_true rfl) (hR := ⟨⟨rfl, rfl⟩, Nat.le_of_ble_eq_true rfl, Nat.le_of_ble_eq_true rfl⟩) (hnc := ⟨Nat.zero_le _, Nat.zero_le _⟩) (fun r_2 y_2 h_2 => ?_)
  obtain ⟨e_2, ey_2⟩ := h_2
  obtain rfl := ey_2.symm
  exact rm_iret hc dX8_count_12 ⟨by subst_vars; rfl, rfl⟩

abbrev rm_X8_setting : Room := { frames := 7, cells := 0, slots := 0, locals := 111 }
set_option maxHeartbeats 4000000 in
set_option maxRecDepth 100000 in
theorem c_X8_setting {l : Launch} {D : va_G} {cy : Nat → ClassId} {ad : Ads} (hI : IJ ad) (x : Mem) (wv : Int32) (hw1 : ¬ wv < 0) (hw2 : wv < 3) : Cti l yX8_setting cX8_setting 2 (some .int) rm_X8_setting D cy ad [.ref (ad 8 9 0), .int wv] x (fun r y => r = valS x 0 wv ∧ y = x) := by
  refine rm_entry (Qc := Qi D cy ad (fun r y => r = valS x 0 wv ∧ y = x)) hI (by decide) (Nat.le_of_ble_eq_true rfl) ?_
  intro p e s m args below meth c hc
  show RM _ _ _ _ _ _ _ _ _ _ _ _ _ _ _ _ _ [(0, .ref (ad 8 9 0)), (1, .int wv)] []
  refine rm_iload_n hc dX8_setting_0 rfl rfl ?_
  refine rm_iconst (v := 3) hc dX8_setting_1 (by decide) ?_
  refine rm_callvS (As := [.int wv, .int 3]) (rest := []) hc dX8_setting_2 (c_X8_needIndex hI x wv 3 hw1 hw2) ms_X8_37 (hn := rfl) (hst := rfl) (hw := Nat.le_of_ble_eq_true rfl) (hR := ⟨⟨rfl, rfl⟩, Nat.le_of_ble_eq_true rfl, Nat.le_of_ble_eq_true rfl⟩) (hnc := ⟨Nat.zero_le _, Nat.zero_le _⟩) (fun y_1 h_1 => ?_)
  obtain rfl := h_1.symm
  refine rm_aload_n hc dX8_setting_5 rfl rfl ?_
  refine rm_get hc dX8_setting_6 fl_X8_10 dm_9 rfl rfl ?_
  refine rm_get hc dX8_setting_9 fl_X8_129 (dm_0 (by omega)) rfl rfl ?_
  refine rm_iload_n hc dX8_setting_12 rfl rfl ?_
  refine rm_calliV (As := [.int wv]) (rest := []) hc dX8_setting_13 (c_X4_value hI x (k := 0) (by omega) wv) mv_X8_133 (dm_8 (by omega)) rfl rfl (hn := rfl) (hst := rfl) (hw := Nat.le_of_ble_eq_true rfl) (hR := ⟨⟨rfl, rfl⟩, Nat.le_of_ble_eq_true rfl, Nat.le_of_ble_eq_true rfl⟩) (hnc := ⟨Nat.zero_le _, Nat.zero_le _⟩) (fun r_2 y_2 h_2 => ?_)
  obtain ⟨e_2, ey_2⟩ := h_2
  obtain rfl := ey_2.symm
  exact rm_iret hc dX8_setting_16 ⟨by subst_vars; rfl, rfl⟩

abbrev rm_X8_ifHeard : Room := { frames := 8, cells := 0, slots := 0, locals := 132 }
set_option maxHeartbeats 4000000 in
set_option maxRecDepth 100000 in
theorem c_X8_ifHeard {l : Launch} {D : va_G} {cy : Nat → ClassId} {ad : Ads} (hI : IJ ad) (x : Mem) {d : Nat} (hd3 : d < 3) (mm : Nat) (hmm : mm < 2 ^ 30) (hw : x 0 1 = nI mm) (hF : FLG x 0) (num : Int32) (hm1 : ¬ num < 0) (hm2 : ¬ 65535 < num) : Cti l yX8_ifHeard cX8_ifHeard 3 (some .int) rm_X8_ifHeard D cy ad [.ref (ad 8 9 0), .int (nI (d)), .int num] x (fun r y => r = hrR x 0 d 0 num mm ∧ E7 x y) := by
  refine rm_entry (Qc := Qi D cy ad (fun r y => r = hrR x 0 d 0 num mm ∧ E7 x y)) hI (by decide) (Nat.le_of_ble_eq_true rfl) ?_
  intro p e s m args below meth c hc
  show RM _ _ _ _ _ _ _ _ _ _ _ _ _ _ _ _ _ [(0, .ref (ad 8 9 0)), (1, .int (nI (d))), (2, .int num)] []
  refine rm_iload_n hc dX8_ifHeard_0 rfl rfl ?_
  refine rm_iconst (v := 3) hc dX8_ifHeard_1 (by decide) ?_
  refine rm_callvS (As := [.int (nI (d)), .int 3]) (rest := []) hc dX8_ifHeard_2 (c_X8_needIndex hI x (nI (d)) 3 (nI_pos (n := d) (by omega)) (nI_lt (a := d) (b := 3) (by omega) (by omega))) ms_X8_37 (hn := rfl) (hst := rfl) (hw := Nat.le_of_ble_eq_true rfl) (hR := ⟨⟨rfl, rfl⟩, Nat.le_of_ble_eq_true rfl, Nat.le_of_ble_eq_true rfl⟩) (hnc := ⟨Nat.zero_le _, Nat.zero_le _⟩) (fun y_1 h_1 => ?_)
  obtain rfl := h_1.symm
  refine rm_iload_n hc dX8_ifHeard_5 rfl rfl ?_
  refine rm_iconst (v := 0) hc dX8_ifHeard_6 (by decide) ?_
  refine rm_ldc hc dX8_ifHeard_7 kc_X8_178 ?_
  refine rm_callvS (As := [.int num, .int 0, .int 65535]) (rest := []) hc dX8_ifHeard_9 (c_X8_needRange hI x num 0 65535 hm1 hm2) ms_X8_41 (hn := rfl) (hst := rfl) (hw := Nat.le_of_ble_eq_true rfl) (hR := ⟨⟨rfl, rfl⟩, Nat.le_of_ble_eq_true rfl, Nat.le_of_ble_eq_true rfl⟩) (hnc := ⟨Nat.zero_le _, Nat.zero_le _⟩) (fun y_2 h_2 => ?_)
  obtain rfl := h_2.symm
  refine rm_aload_n hc dX8_ifHeard_12 rfl rfl ?_
  refine rm_aload_n hc dX8_ifHeard_13 rfl rfl ?_
  refine rm_get hc dX8_ifHeard_14 fl_X8_10 dm_9 rfl rfl ?_
  refine rm_get hc dX8_ifHeard_17 fl_X8_89 (dm_0 (by omega)) rfl rfl ?_
  refine rm_iload_n hc dX8_ifHeard_20 rfl rfl ?_
  refine rm_aald (t0 := 2) (i := d) (v := .ref (ad 0 4 d)) hc dX8_ifHeard_21 (dm_3 (by omega)) rfl rfl (by omega) (by decide) rfl rfl ?_
  refine rm_iload_n hc dX8_ifHeard_22 rfl rfl ?_
  refine rm_calliV (As := [.ref (ad 0 4 d), .int num]) (rest := []) hc dX8_ifHeard_23 (c_X8_tryNumber hI x (d := d) (by omega) mm (by omega) hw hF num) mv_X8_179 dm_9 rfl rfl (hn := rfl) (hst := rfl) (hw := Nat.le_of_ble_eq_true rfl) (hR := ⟨⟨rfl, rfl⟩, Nat.le_of_ble_eq_true rfl, Nat.le_of_ble_eq_true rfl⟩) (hnc := ⟨Nat.zero_le _, Nat.zero_le _⟩) (fun r_3 y_3 h_3 => ?_)
  obtain ⟨e_3, ey_3⟩ := h_3
  exact rm_iret hc dX8_ifHeard_26 ⟨e_3, ey_3⟩

abbrev rm_X8_opensIn : Room := { frames := 7, cells := 0, slots := 0, locals := 111 }
set_option maxHeartbeats 4000000 in
set_option maxRecDepth 100000 in
theorem c_X8_opensIn {l : Launch} {D : va_G} {cy : Nat → ClassId} {ad : Ads} (hI : IJ ad) (x : Mem) {j d nb : Nat} (hj : j < 4) (hd3 : d < 3) (mm : Nat) (hmm : mm < 2 ^ 30) (hw : x 0 1 = nI mm) (hF : FLG x 0) (hnb : x 0 (16 + 4 * j) = nI nb) (hb9 : nb ≤ 999) : Cti l yX8_opensIn cX8_opensIn 3 (some .int) rm_X8_opensIn D cy ad [.ref (ad 8 9 0), .int (nI (j)), .int (nI (d))] x (fun r y => r = ptoS (x 0 (14 + 4 * j)) mm (if nb < 50 then nb else 50) (triM x d) (x 0 (15 + 4 * j)) 0 ∧ E7 x y) := by
  refine rm_entry (Qc := Qi D cy ad (fun r y => r = ptoS (x 0 (14 + 4 * j)) mm (if nb < 50 then nb else 50) (triM x d) (x 0 (15 + 4 * j)) 0 ∧ E7 x y)) hI (by decide) (Nat.le_of_ble_eq_true rfl) ?_
  intro p e s m args below meth c hc
  show RM _ _ _ _ _ _ _ _ _ _ _ _ _ _ _ _ _ [(0, .ref (ad 8 9 0)), (1, .int (nI (j))), (2, .int (nI (d)))] []
  refine rm_iload_n hc dX8_opensIn_0 rfl rfl ?_
  refine rm_iconst (v := 4) hc dX8_opensIn_1 (by decide) ?_
  refine rm_callvS (As := [.int (nI (j)), .int 4]) (rest := []) hc dX8_opensIn_2 (c_X8_needIndex hI x (nI (j)) 4 (nI_pos (n := j) (by omega)) (nI_lt (a := j) (b := 4) (by omega) (by omega))) ms_X8_37 (hn := rfl) (hst := rfl) (hw := Nat.le_of_ble_eq_true rfl) (hR := ⟨⟨rfl, rfl⟩, Nat.le_of_ble_eq_true rfl, Nat.le_of_ble_eq_true rfl⟩) (hnc := ⟨Nat.zero_le _, Nat.zero_le _⟩) (fun y_1 h_1 => ?_)
  obtain rfl := h_1.symm
  refine rm_iload_n hc dX8_opensIn_5 rfl rfl ?_
  refine rm_iconst (v := 3) hc dX8_opensIn_6 (by decide) ?_
  refine rm_callvS (As := [.int (nI (d)), .int 3]) (rest := []) hc dX8_opensIn_7 (c_X8_needIndex hI x (nI (d)) 3 (nI_pos (n := d) (by omega)) (nI_lt (a := d) (b := 3) (by omega) (by omega))) ms_X8_37 (hn := rfl) (hst := rfl) (hw := Nat.le_of_ble_eq_true rfl) (hR := ⟨⟨rfl, rfl⟩, Nat.le_of_ble_eq_true rfl, Nat.le_of_ble_eq_true rfl⟩) (hnc := ⟨Nat.zero_le _, Nat.zero_le _⟩) (fun y_2 h_2 => ?_)
  obtain rfl := h_2.symm
  refine rm_aload_n hc dX8_opensIn_10 rfl rfl ?_
  refine rm_aload_n hc dX8_opensIn_11 rfl rfl ?_
  refine rm_get hc dX8_opensIn_12 fl_X8_10 dm_9 rfl rfl ?_
  refine rm_get hc dX8_opensIn_15 fl_X8_49 (dm_0 (by omega)) rfl rfl ?_
  refine rm_iload_n hc dX8_opensIn_18 rfl rfl ?_
  refine rm_aald (t0 := 1) (i := j) (v := .ref (ad 0 2 j)) hc dX8_opensIn_19 (dm_1 (by omega)) rfl rfl (by omega) (by decide) rfl rfl ?_
  refine rm_aload_n hc dX8_opensIn_20 rfl rfl ?_
  refine rm_get hc dX8_opensIn_21 fl_X8_10 dm_9 rfl rfl ?_
  refine rm_get hc dX8_opensIn_24 fl_X8_89 (dm_0 (by omega)) rfl rfl ?_
  refine rm_iload_n hc dX8_opensIn_27 rfl rfl ?_
  refine rm_aald (t0 := 2) (i := d) (v := .ref (ad 0 4 d)) hc dX8_opensIn_28 (dm_3 (by omega)) rfl rfl (by omega) (by decide) rfl rfl ?_
  refine rm_calliV (As := [.ref (ad 0 2 j), .ref (ad 0 4 d)]) (rest := []) hc dX8_opensIn_29 (c_X8_pressesToOpen hI x (j := j) (d := d) (nb := nb) (by omega) (by omega) mm (by omega) hw hF hnb (by omega)) mv_X8_183 dm_9 rfl rfl (hn := rfl) (hst := rfl) (hw := Nat.le_of_ble_eq_true rfl) (hR := ⟨⟨rfl, rfl⟩, Nat.le_of_ble_eq_true rfl, Nat.le_of_ble_eq_true rfl⟩) (hnc := ⟨Nat.zero_le _, Nat.zero_le _⟩) (fun r_3 y_3 h_3 => ?_)
  obtain ⟨e_3, ey_3⟩ := h_3
  exact rm_iret hc dX8_opensIn_32 ⟨e_3, ey_3⟩

abbrev rm_X8_unheard : Room := { frames := 7, cells := 0, slots := 0, locals := 119 }
set_option maxHeartbeats 4000000 in
set_option maxRecDepth 100000 in
theorem c_X8_unheard {l : Launch} {D : va_G} {cy : Nat → ClassId} {ad : Ads} (hI : IJ ad) (x : Mem) {j d : Nat} (hj : j < 4) (hd3 : d < 3) (mm : Nat) (hmm : mm < 2 ^ 30) (hw : x 0 1 = nI mm) (hF : FLG x 0) : Cti l yX8_unheard cX8_unheard 3 (some .int) rm_X8_unheard D cy ad [.ref (ad 8 9 0), .int (nI (j)), .int (nI (d))] x (fun r y => r = munS x d (x 0 (14 + 4 * j)) mm 100 (x 0 (15 + 4 * j)) 0 (-1) ∧ E7 x y) := by
  refine rm_entry (Qc := Qi D cy ad (fun r y => r = munS x d (x 0 (14 + 4 * j)) mm 100 (x 0 (15 + 4 * j)) 0 (-1) ∧ E7 x y)) hI (by decide) (Nat.le_of_ble_eq_true rfl) ?_
  intro p e s m args below meth c hc
  show RM _ _ _ _ _ _ _ _ _ _ _ _ _ _ _ _ _ [(0, .ref (ad 8 9 0)), (1, .int (nI (j))), (2, .int (nI (d)))] []
  refine rm_iload_n hc dX8_unheard_0 rfl rfl ?_
  refine rm_iconst (v := 4) hc dX8_unheard_1 (by decide) ?_
  refine rm_callvS (As := [.int (nI (j)), .int 4]) (rest := []) hc dX8_unheard_2 (c_X8_needIndex hI x (nI (j)) 4 (nI_pos (n := j) (by omega)) (nI_lt (a := j) (b := 4) (by omega) (by omega))) ms_X8_37 (hn := rfl) (hst := rfl) (hw := Nat.le_of_ble_eq_true rfl) (hR := ⟨⟨rfl, rfl⟩, Nat.le_of_ble_eq_true rfl, Nat.le_of_ble_eq_true rfl⟩) (hnc := ⟨Nat.zero_le _, Nat.zero_le _⟩) (fun y_1 h_1 => ?_)
  obtain rfl := h_1.symm
  refine rm_iload_n hc dX8_unheard_5 rfl rfl ?_
  refine rm_iconst (v := 3) hc dX8_unheard_6 (by decide) ?_
  refine rm_callvS (As := [.int (nI (d)), .int 3]) (rest := []) hc dX8_unheard_7 (c_X8_needIndex hI x (nI (d)) 3 (nI_pos (n := d) (by omega)) (nI_lt (a := d) (b := 3) (by omega) (by omega))) ms_X8_37 (hn := rfl) (hst := rfl) (hw := Nat.le_of_ble_eq_true rfl) (hR := ⟨⟨rfl, rfl⟩, Nat.le_of_ble_eq_true rfl, Nat.le_of_ble_eq_true rfl⟩) (hnc := ⟨Nat.zero_le _, Nat.zero_le _⟩) (fun y_2 h_2 => ?_)
  obtain rfl := h_2.symm
  refine rm_aload_n hc dX8_unheard_10 rfl rfl ?_
  refine rm_aload_n hc dX8_unheard_11 rfl rfl ?_
  refine rm_get hc dX8_unheard_12 fl_X8_10 dm_9 rfl rfl ?_
  refine rm_get hc dX8_unheard_15 fl_X8_49 (dm_0 (by omega)) rfl rfl ?_
  refine rm_iload_n hc dX8_unheard_18 rfl rfl ?_
  refine rm_aald (t0 := 1) (i := j) (v := .ref (ad 0 2 j)) hc dX8_unheard_19 (dm_1 (by omega)) rfl rfl (by omega) (by decide) rfl rfl ?_
  refine rm_aload_n hc dX8_unheard_20 rfl rfl ?_
  refine rm_get hc dX8_unheard_21 fl_X8_10 dm_9 rfl rfl ?_
  refine rm_get hc dX8_unheard_24 fl_X8_89 (dm_0 (by omega)) rfl rfl ?_
  refine rm_iload_n hc dX8_unheard_27 rfl rfl ?_
  refine rm_aald (t0 := 2) (i := d) (v := .ref (ad 0 4 d)) hc dX8_unheard_28 (dm_3 (by omega)) rfl rfl (by omega) (by decide) rfl rfl ?_
  refine rm_calliV (As := [.ref (ad 0 2 j), .ref (ad 0 4 d)]) (rest := []) hc dX8_unheard_29 (c_X8_mostUnheard hI x (j := j) (d := d) (by omega) (by omega) mm (by omega) hw hF) mv_X8_187 dm_9 rfl rfl (hn := rfl) (hst := rfl) (hw := Nat.le_of_ble_eq_true rfl) (hR := ⟨⟨rfl, rfl⟩, Nat.le_of_ble_eq_true rfl, Nat.le_of_ble_eq_true rfl⟩) (hnc := ⟨Nat.zero_le _, Nat.zero_le _⟩) (fun r_3 y_3 h_3 => ?_)
  obtain ⟨e_3, ey_3⟩ := h_3
  exact rm_iret hc dX8_unheard_32 ⟨e_3, ey_3⟩

abbrev rm_X8_useful : Room := { frames := 7, cells := 0, slots := 0, locals := 116 }
set_option maxHeartbeats 4000000 in
set_option maxRecDepth 100000 in
theorem c_X8_useful {l : Launch} {D : va_G} {cy : Nat → ClassId} {ad : Ads} (hI : IJ ad) (x : Mem) {d nr : Nat} (hd3 : d < 3) (mm : Nat) (hmm : mm < 2 ^ 30) (hw : x 0 1 = nI mm) (hF : FLG x 0) (hnr : x 0 5 = nI nr) (hr8 : nr ≤ 8) : Cti l yX8_useful cX8_useful 2 (some .int) rm_X8_useful D cy ad [.ref (ad 8 9 0), .int (nI (d))] x (fun r y => r = fusS x d mm nr 0 ∧ E7 x y) := by
  refine rm_entry (Qc := Qi D cy ad (fun r y => r = fusS x d mm nr 0 ∧ E7 x y)) hI (by decide) (Nat.le_of_ble_eq_true rfl) ?_
  intro p e s m args below meth c hc
  show RM _ _ _ _ _ _ _ _ _ _ _ _ _ _ _ _ _ [(0, .ref (ad 8 9 0)), (1, .int (nI (d)))] []
  refine rm_iload_n hc dX8_useful_0 rfl rfl ?_
  refine rm_iconst (v := 3) hc dX8_useful_1 (by decide) ?_
  refine rm_callvS (As := [.int (nI (d)), .int 3]) (rest := []) hc dX8_useful_2 (c_X8_needIndex hI x (nI (d)) 3 (nI_pos (n := d) (by omega)) (nI_lt (a := d) (b := 3) (by omega) (by omega))) ms_X8_37 (hn := rfl) (hst := rfl) (hw := Nat.le_of_ble_eq_true rfl) (hR := ⟨⟨rfl, rfl⟩, Nat.le_of_ble_eq_true rfl, Nat.le_of_ble_eq_true rfl⟩) (hnc := ⟨Nat.zero_le _, Nat.zero_le _⟩) (fun y_1 h_1 => ?_)
  obtain rfl := h_1.symm
  refine rm_aload_n hc dX8_useful_5 rfl rfl ?_
  refine rm_aload_n hc dX8_useful_6 rfl rfl ?_
  refine rm_get hc dX8_useful_7 fl_X8_10 dm_9 rfl rfl ?_
  refine rm_get hc dX8_useful_10 fl_X8_89 (dm_0 (by omega)) rfl rfl ?_
  refine rm_iload_n hc dX8_useful_13 rfl rfl ?_
  refine rm_aald (t0 := 2) (i := d) (v := .ref (ad 0 4 d)) hc dX8_useful_14 (dm_3 (by omega)) rfl rfl (by omega) (by decide) rfl rfl ?_
  refine rm_calliV (As := [.ref (ad 0 4 d)]) (rest := []) hc dX8_useful_15 (c_X8_firstUseful hI x (d := d) (nr := nr) (by omega) mm (by omega) hw hF hnr (by omega)) mv_X8_190 dm_9 rfl rfl (hn := rfl) (hst := rfl) (hw := Nat.le_of_ble_eq_true rfl) (hR := ⟨⟨rfl, rfl⟩, Nat.le_of_ble_eq_true rfl, Nat.le_of_ble_eq_true rfl⟩) (hnc := ⟨Nat.zero_le _, Nat.zero_le _⟩) (fun r_2 y_2 h_2 => ?_)
  obtain ⟨e_2, ey_2⟩ := h_2
  exact rm_iret hc dX8_useful_18 ⟨e_2, ey_2⟩
end
section
/-! ===== rows on blocks of the state ===== -/
theorem nI_nm1 {n : Nat} (h : n < 2 ^ 31) : ¬ nI n = -1 := fun q => by
  have h1 := nI_toInt h
  rw [q] at h1
  have h2 : (-1 : Int32).toInt = -1 := by decide
  omega
theorem irem10k {n : Nat} (h : n < 2 ^ 31) : nI n - nI n / 10000 * 10000 = nI (n % 10000) := pk_rem (d := 10000) h (by omega) (by omega)
theorem ctr_n {a t : Nat} (ha : a < 10000) (ht : t < 10000) : ctr (nI a) (nI t) = nI ((a + t) % 10000) := by
  unfold ctr
  rw [nI_add]
  exact irem10k (by omega)
theorem nx_n {a : Nat} (ha : a < 10000) : nx (nI a) = nI ((a + 1) % 10000) := by
  unfold nx
  have h : (9999 : Int32) ≤ nI a ↔ 9999 ≤ a := nI_leI (a := 9999) (b := a) (by omega) (by omega)
  by_cases h9 : 9999 ≤ a
  · have : a = 9999 := by omega
    rw [if_pos (h.mpr h9), this]
    rfl
  · rw [if_neg (fun q => h9 (h.mp q)), nI_1, Nat.mod_eq_of_lt (by omega)]
theorem mt_or {x : Mem} {k d mm : Nat} {num : Int32} : ∀ f s, s + f = 4 → mt x k d num mm f s = (4, 0) ∨ ∃ s' t, s' < 4 ∧ 1 ≤ t ∧ t ≤ mm ∧ mt x k d num mm f s = (s', t) ∧ x k (36 + 22 * d + 4 * s') ≠ 0
  | 0, _, _ => Or.inl rfl
  | f + 1, s, h => by
    unfold mt
    split
    · exact mt_or f (s + 1) (by omega)
    · rename_i h0
      refine Or.inr ⟨s, stpS x k d s num mm, by omega, by omega, stpS_le, rfl, fun q => h0 ?_⟩
      unfold stpS
      rw [if_pos q]
theorem mean_or (x : Mem) (k d mm : Nat) (num : Int32) : mean x k d num mm = (4, 0) ∨ ∃ s t, s < 4 ∧ 1 ≤ t ∧ t ≤ mm ∧ mean x k d num mm = (s, t) ∧ x k (36 + 22 * d + 4 * s) ≠ 0 := mt_or 4 0 rfl
def Sl (v : Nat → Int32) (d s : Nat) : Prop := v (36 + 22 * d + 4 * s) = 0 ∨ (v (36 + 22 * d + 4 * s) = 1 ∧ ∃ a b : Nat, a < 10000 ∧ b < 10000 ∧ v (37 + 22 * d + 4 * s) = nI a ∧ v (38 + 22 * d + 4 * s) = nI b ∧ (v (39 + 22 * d + 4 * s) = -1 ∨ ∃ c : Nat, c < 10000 ∧ v (39 + 22 * d + 4 * s) = nI c))
def RS (v : Nat → Int32) : Prop := ∀ d, d < 3 → ∀ s, s < 4 → Sl v d s
def RF (v : Nat → Int32) : Prop := ∀ j, j < 4 → ∃ a b : Nat, a < 10000 ∧ b < 10000 ∧ v (14 + 4 * j) = nI a ∧ v (15 + 4 * j) = nI b
theorem Sl.cg {u v : Nat → Int32} {d s : Nat} (h : Sl u d s) (e : ∀ i, i < 4 → v (36 + 22 * d + 4 * s + i) = u (36 + 22 * d + 4 * s + i)) : Sl v d s := by
  have e0 := e 0 (by omega)
  have e1 := e 1 (by omega)
  have e2 := e 2 (by omega)
  have e3 := e 3 (by omega)
  rw [show 36 + 22 * d + 4 * s + 1 = 37 + 22 * d + 4 * s by omega] at e1
  rw [show 36 + 22 * d + 4 * s + 2 = 38 + 22 * d + 4 * s by omega] at e2
  rw [show 36 + 22 * d + 4 * s + 3 = 39 + 22 * d + 4 * s by omega] at e3
  unfold Sl at h ⊢
  rw [e1, e2, e3, show v (36 + 22 * d + 4 * s) = u (36 + 22 * d + 4 * s) from e0]
  exact h
theorem hr_or (x : Mem) (k d mm : Nat) (num : Int32) :
    (¬ lockS (x k 2) (x k (31 + 22 * d)) = 0 ∧ hrR x k d k num mm = 3 ∧ hrM x k d k num mm = up x k (35 + 22 * d) (x k (35 + 22 * d) + 1)) ∨
    (lockS (x k 2) (x k (31 + 22 * d)) = 0 ∧ ((mean x k d num mm = (4, 0) ∧ hrR x k d k num mm = 2 ∧ hrM x k d k num mm = up (up x k (31 + 22 * d) (x k (31 + 22 * d) + 1)) k (34 + 22 * d) (x k (34 + 22 * d) + 1)) ∨
      ∃ s t, s < 4 ∧ 1 ≤ t ∧ t ≤ mm ∧ mean x k d num mm = (s, t) ∧ x k (36 + 22 * d + 4 * s) ≠ 0 ∧
        ((takS x k d s (nI t) (x k 0) ∧ hrR x k d k num mm = 0 ∧ hrM x k d k num mm = opnM (tak1 x k d s (nI t)) k d) ∨
         (¬ takS x k d s (nI t) (x k 0) ∧ hrR x k d k num mm = 1 ∧ hrM x k d k num mm = up (tak0 x k d s (nI t)) k (33 + 22 * d) (x k (33 + 22 * d) + 1))))) := by
  by_cases hL : lockS (x k 2) (x k (31 + 22 * d)) = 0
  · refine Or.inr ⟨hL, ?_⟩
    rcases mean_or x k d mm num with h | ⟨s, t, h1, h2, h3, h4, h5⟩
    · exact Or.inl ⟨h, hr_2 hL h⟩
    · refine Or.inr ⟨s, t, h1, h2, h3, h4, h5, ?_⟩
      by_cases hT : takS x k d s (nI t) (x k 0)
      · exact Or.inl ⟨hT, hr_0 hL h4 h1 hT⟩
      · exact Or.inr ⟨hT, hr_1 hL h4 h1 hT⟩
  · exact Or.inl ⟨hL, hr_3 hL⟩
theorem RS.up {x : Mem} {k p : Nat} {v : Int32} (h : RS (x k)) (hp : ∀ d s i, d < 3 → s < 4 → i < 4 → p ≠ 36 + 22 * d + 4 * s + i) : RS (up x k p v k) := fun d hd s hs =>
  (h d hd s hs).cg fun i hi => up_n _ _ (fun q => hp d s i hd hs hi q.symm)
theorem dp_ne {d d' s' i : Nat} (f : Nat) (hd : d < 3) (hd' : d' < 3) (hs : s' < 4) (hi : i < 4) (hf : f < 6) : 30 + f + 22 * d ≠ 36 + 22 * d' + 4 * s' + i := by
  rcases (show d = 0 ∨ d = 1 ∨ d = 2 by omega) with rfl | rfl | rfl <;> rcases (show d' = 0 ∨ d' = 1 ∨ d' = 2 by omega) with rfl | rfl | rfl <;> omega
theorem sl_ne {d d' s s' i : Nat} (f : Nat) (hd : d < 3) (hd' : d' < 3) (hs : s < 4) (hs' : s' < 4) (hi : i < 4) (hf : f < 4) (h : ¬ (d' = d ∧ s' = s)) : 36 + 22 * d' + 4 * s' + i ≠ 36 + f + 22 * d + 4 * s := by
  rcases (show d = 0 ∨ d = 1 ∨ d = 2 by omega) with rfl | rfl | rfl <;> rcases (show d' = 0 ∨ d' = 1 ∨ d' = 2 by omega) with rfl | rfl | rfl <;> omega
theorem RS.hr {x : Mem} {k d mm : Nat} {num : Int32} (h : RS (x k)) (hd : d < 3) (hm : mm ≤ 500) : RS (hrM x k d k num mm k) := by
  rcases hr_or x k d mm num with ⟨-, -, e⟩ | ⟨-, ⟨-, -, e⟩ | ⟨s, t, hs, h1, ht, -, hne, ⟨-, -, e⟩ | ⟨-, -, e⟩⟩⟩ <;> rw [e]
  · exact h.up (fun d' s' i h1 h2 h3 => dp_ne 5 hd h1 h2 h3 (by omega))
  · exact RS.up (h.up (fun d' s' i h1 h2 h3 => dp_ne 1 hd h1 h2 h3 (by omega))) (fun d' s' i h1 h2 h3 => dp_ne 4 hd h1 h2 h3 (by omega))
  · unfold opnM
    refine RS.up (RS.up (RS.up ?_ (fun d' s' i h1 h2 h3 => dp_ne 0 hd h1 h2 h3 (by omega))) (fun d' s' i h1 h2 h3 => dp_ne 2 hd h1 h2 h3 (by omega))) (fun d' s' i h1 h2 h3 => dp_ne 1 hd h1 h2 h3 (by omega))
    rcases h d hd s hs with h0 | ⟨h0, a, b, ha, hb, h7, h8, h9⟩
    · exact absurd h0 hne
    intro d' hd' s' hs'
    by_cases hq : d' = d ∧ s' = s
    · obtain ⟨rfl, rfl⟩ := hq
      refine Or.inr ⟨?_, a, (b + t) % 10000, ha, Nat.mod_lt _ (by omega), ?_, ?_, Or.inl ?_⟩ <;> unfold tak1
      · rw [up_n _ _ (by omega), up_n _ _ (by omega)]; exact h0
      · rw [up_n _ _ (by omega), up_n _ _ (by omega)]; exact h7
      · rw [up_n _ _ (by omega), up_s, h8, ctr_n hb (by omega)]
      · rw [up_s]
    · refine (h d' hd' s' hs').cg fun i hi => ?_
      unfold tak1
      rw [up_n _ _ (sl_ne 3 hd hd' hs hs' hi (by omega) hq), up_n _ _ (sl_ne 2 hd hd' hs hs' hi (by omega) hq)]
  · refine RS.up ?_ (fun d' s' i h1 h2 h3 => dp_ne 3 hd h1 h2 h3 (by omega))
    rcases h d hd s hs with h0 | ⟨h0, a, b, ha, hb, h7, h8, h9⟩
    · exact absurd h0 hne
    intro d' hd' s' hs'
    by_cases hq : d' = d ∧ s' = s
    · obtain ⟨rfl, rfl⟩ := hq
      refine Or.inr ⟨?_, a, b, ha, hb, ?_, ?_, Or.inr ⟨(b + t) % 10000, Nat.mod_lt _ (by omega), ?_⟩⟩ <;> unfold tak0
      · rw [up_n _ _ (by omega)]; exact h0
      · rw [up_n _ _ (by omega)]; exact h7
      · rw [up_n _ _ (by omega)]; exact h8
      · rw [up_s, h8, ctr_n hb (by omega)]
    · refine (h d' hd' s' hs').cg fun i hi => ?_
      unfold tak0
      rw [up_n _ _ (sl_ne 3 hd hd' hs hs' hi (by omega) hq)]
theorem RS.snd {x : Mem} {k mm : Nat} {msk num : Int32} (h : RS (x k)) (hm : mm ≤ 500) : ∀ d, d ≤ 3 → RS ((sendS x k msk num mm d).2 k)
  | 0, _ => h
  | d + 1, hd => by
    unfold sendS
    split
    · exact (RS.snd h hm d (by omega)).hr (by omega) hm
    · exact RS.snd h hm d (by omega)
theorem RF.up {x : Mem} {k p : Nat} {v : Int32} (h : RF (x k)) (hp : ∀ j, j < 4 → p ≠ 14 + 4 * j ∧ p ≠ 15 + 4 * j) : RF (up x k p v k) := fun j hj => by
  obtain ⟨a, b, ha, hb, h1, h2⟩ := h j hj
  exact ⟨a, b, ha, hb, (up_n _ _ (fun q => (hp j hj).1 q.symm)).trans h1, (up_n _ _ (fun q => (hp j hj).2 q.symm)).trans h2⟩
theorem RS.rec {x : Mem} {k : Nat} {v : Int32} (h : RS (x k)) : RS (recF x k v k) := fun d hd s hs => (h d hd s hs).cg fun i hi => by
  unfold recF shA
  rw [up_n _ _ (by omega), up_n _ _ (by omega), if_neg (by omega)]
theorem RS.sF {x : Mem} {k j : Nat} (h : RS (x k)) (hj : j < 4) : RS (sndF x k j k) := fun d hd s hs => (h d hd s hs).cg fun i hi => by
  unfold sndF
  rw [up_n _ _ (by omega), up_n _ _ (by omega), up_n _ _ (by omega)]
theorem dec_n {i : Nat} (h : 0 < i) : nI i + Int32.ofInt (-1) = nI (i - 1) := by
  obtain ⟨n, rfl⟩ : ∃ n, i = n + 1 := ⟨i - 1, by omega⟩
  exact pk_m1 n
theorem RF.prs {x : Mem} {k j mm : Nat} {msk : Int32} (h : RF (x k)) (hj : j < 4) : RF ((prsS x k j msk mm).2 k) := fun i hi => by
  obtain ⟨a, b, ha, hb, h1, h2⟩ := h i hi
  unfold prsS
  by_cases e : i = j
  · subst e
    refine ⟨a, (b + 1) % 10000, ha, Nat.mod_lt _ (by omega), ?_, ?_⟩
    · rw [sendS_lo (by omega)]
      unfold recF shA sndF
      rw [up_n _ _ (by omega), up_n _ _ (by omega), if_neg (by omega), up_n _ _ (by omega), up_n _ _ (by omega), up_n _ _ (by omega)]
      exact h1
    · rw [sendS_lo (by omega)]
      unfold recF shA sndF
      rw [up_n _ _ (by omega), up_n _ _ (by omega), if_neg (by omega), up_s, h2, nx_n hb]
  · refine ⟨a, b, ha, hb, ?_, ?_⟩
    · rw [sendS_lo (by omega)]
      unfold recF shA sndF
      rw [up_n _ _ (by omega), up_n _ _ (by omega), if_neg (by omega), up_n _ _ (by omega), up_n _ _ (by omega), up_n _ _ (by omega)]
      exact h1
    · rw [sendS_lo (by omega)]
      unfold recF shA sndF
      rw [up_n _ _ (by omega), up_n _ _ (by omega), if_neg (by omega), up_n _ _ (by omega), up_n _ _ (by omega), up_n _ _ (by omega)]
      exact h2
theorem RS.prs {x : Mem} {k j mm : Nat} {msk : Int32} (h : RS (x k)) (hj : j < 4) (hm : mm ≤ 500) : RS ((prsS x k j msk mm).2 k) := RS.snd ((h.sF hj).rec) hm 3 (by omega)
theorem RS.c96 {u v : Nat → Int32} (h : RS u) (e : ∀ n, n < 96 → v n = u n) : RS v := fun d hd s hs => (h d hd s hs).cg fun i hi => e _ (by omega)
theorem RF.c96 {u v : Nat → Int32} (h : RF u) (e : ∀ n, n < 96 → v n = u n) : RF v := fun j hj => by
  obtain ⟨a, b, ha, hb, h1, h2⟩ := h j hj
  exact ⟨a, b, ha, hb, (e _ (by omega)).trans h1, (e _ (by omega)).trans h2⟩
theorem hrM_o {x : Mem} {k d k2 n mm : Nat} {num : Int32} (hn : n < 30 + 22 * d ∨ 52 + 22 * d ≤ n) : hrM x k d k2 num mm k n = x k n := by
  by_cases hL : lockS (x k2 2) (x k (31 + 22 * d)) = 0
  · rcases mean_or x k d mm num with hM | ⟨s, t, hs, h1, ht, hM, hne⟩
    · rw [(hr_2 hL hM).2, up_n _ _ (by omega), up_n _ _ (by omega)]
    · by_cases hT : takS x k d s (nI t) (x k2 0)
      · rw [(hr_0 hL hM hs hT).2]
        unfold opnM tak1
        rw [up_n _ _ (by omega), up_n _ _ (by omega), up_n _ _ (by omega), up_n _ _ (by omega), up_n _ _ (by omega)]
      · rw [(hr_1 hL hM hs hT).2]
        unfold tak0
        rw [up_n _ _ (by omega), up_n _ _ (by omega)]
  · rw [(hr_3 hL).2, up_n _ _ (by omega)]
theorem num_n {x : Mem} {k ii nr : Nat} (hi : ii < nr) (h8 : nr ≤ 8) (hnr : x k 5 = nI nr) : numA x k (nI ii) = x k (6 + ii) := by
  unfold numA
  rw [hnr, if_neg (show ¬ nI ii < 0 from fun q => absurd ((nI_ltI (a := ii) (b := 0) (by omega) (by omega)).mp q) (by omega)), if_neg (fun q => absurd ((nI_leI (by omega) (by omega)).mp q) (by omega)), if_neg (show ¬ 8 ≤ nI ii from fun q => absurd ((nI_leI (a := 8) (b := ii) (by omega) (by omega)).mp q) (by omega)), nI_clamp (by omega)]
theorem num_o {x : Mem} {k ii nr : Nat} (hi : ¬ ii < nr) (h8 : nr ≤ 8) (hnr : x k 5 = nI nr) (h31 : ii < 2 ^ 31) : numA x k (nI ii) = -1 := by
  unfold numA
  rw [hnr, if_neg (show ¬ nI ii < 0 from fun q => absurd ((nI_ltI (a := ii) (b := 0) (by omega) (by omega)).mp q) (by omega)), if_pos ((nI_leI (by omega) (by omega)).mpr (by omega))]
def DF (v : Nat → Int32) : Prop := ∀ d, d < 3 → isFlag (v (30 + 22 * d))
theorem b2_f {v : Int32} (h : isFlag v) : b2 v = v := by
  rcases h with h | h <;> rw [h] <;> rfl
theorem rs_hi {x : Mem} {k j n : Nat} {num : Int32} (hj : j < 4) (hn : 30 ≤ n) : recF (sndF x k j) k num k n = x k n := by
  unfold recF sndF
  rw [up_n _ _ (by omega), up_n _ _ (by omega)]
  unfold shA
  rw [if_neg (by omega), up_n _ _ (by omega), up_n _ _ (by omega), up_n _ _ (by omega)]
theorem rs_lo {x : Mem} {k j n : Nat} {num : Int32} (h : n < 5) : recF (sndF x k j) k num k n = x k n := by
  unfold recF sndF
  rw [up_n _ _ (by omega), up_n _ _ (by omega)]
  unfold shA
  rw [if_neg (by omega), up_n _ _ (by omega), up_n _ _ (by omega), up_n _ _ (by omega)]
theorem rs_f {x : Mem} {k j i : Nat} {num : Int32} (hj : j < 4) (hi : i < 4) : recF (sndF x k j) k num k (14 + i + 4 * j) = if i = 1 then nx (x k (15 + 4 * j)) else if i = 2 then x k (16 + 4 * j) - 1 else if i = 3 then x k (17 + 4 * j) + 1 else x k (14 + 4 * j) := by
  unfold recF sndF
  rw [up_n _ _ (by omega), up_n _ _ (by omega)]
  unfold shA
  rw [if_neg (by omega)]
  rcases (show i = 0 ∨ i = 1 ∨ i = 2 ∨ i = 3 by omega) with e | e | e | e <;> subst e
  · rw [up_n _ _ (by omega), up_n _ _ (by omega), up_n _ _ (by omega)]
    rfl
  · exact up_s _ k (15 + 4 * j) _
  · rw [up_n _ _ (by omega), up_n _ _ (by omega)]
    exact up_s _ k (16 + 4 * j) _
  · rw [up_n _ _ (by omega)]
    exact up_s _ k (17 + 4 * j) _
def BT (v : Nat → Int32) : Prop := ∀ j, j < 4 → ∃ nb : Nat, nb ≤ 999 ∧ v (16 + 4 * j) = nI nb
theorem DF.hr {x : Mem} {k d mm : Nat} {num : Int32} (h : DF (x k)) (hd : d < 3) : DF (hrM x k d k num mm k) := fun d' hd' => by
  have ho : d' < d ∨ d' = d ∨ d < d' := by omega
  rcases hr_or x k d mm num with ⟨-, -, e⟩ | ⟨-, ⟨-, -, e⟩ | ⟨s, t, hs, h1, ht, -, hne, ⟨-, -, e⟩ | ⟨-, -, e⟩⟩⟩ <;> rw [e]
  · rw [up_n _ _ (by omega)]
    exact h d' hd'
  · rw [up_n _ _ (by omega), up_n _ _ (by omega)]
    exact h d' hd'
  · unfold opnM tak1
    rw [up_n _ _ (by omega), up_n _ _ (by omega)]
    rcases ho with q | q | q
    · rw [up_n _ _ (by omega), up_n _ _ (by omega), up_n _ _ (by omega)]
      exact h d' hd'
    · rw [q, up_s]
      exact Or.inr rfl
    · rw [up_n _ _ (by omega), up_n _ _ (by omega), up_n _ _ (by omega)]
      exact h d' hd'
  · unfold tak0
    rw [up_n _ _ (by omega), up_n _ _ (by omega)]
    exact h d' hd'
theorem DF.fr {u v : Nat → Int32} (h : DF u) (e : ∀ n, 30 ≤ n → n < 96 → v n = u n) : DF v := fun d hd => by
  rw [e _ (by omega) (by omega)]
  exact h d hd
theorem recF_b {x : Mem} {k b n : Nat} {v : Int32} (h : b ≠ k) : recF x k v b n = x b n := by
  unfold recF shA
  rw [up_b _ _ _ h, up_b _ _ _ h]
  simp [h]
theorem sndF_b {x : Mem} {k j b n : Nat} (h : b ≠ k) : sndF x k j b n = x b n := by
  unfold sndF
  rw [up_b _ _ _ h, up_b _ _ _ h, up_b _ _ _ h]
theorem sndF_lo {x : Mem} {k j n : Nat} (h : n < 14) : sndF x k j k n = x k n := by
  unfold sndF
  rw [up_n _ _ (by omega), up_n _ _ (by omega), up_n _ _ (by omega)]
theorem prsS_b {x : Mem} {k j b n : Nat} {msk : Int32} {mm : Nat} (h : b ≠ k) : (prsS x k j msk mm).2 b n = x b n := by
  unfold prsS
  rw [sendS_b h, recF_b h, sndF_b h]
theorem prsS_1 {x : Mem} {k j : Nat} {msk : Int32} {mm : Nat} : (prsS x k j msk mm).2 k 1 = x k 1 := by
  unfold prsS
  rw [sendS_lo (by omega), recF_1, sndF_1]
theorem agnS_b {x : Mem} {ii b n : Nat} {msk : Int32} {mm : Nat} (h : b ≠ 0) : (agnS x ii msk mm).2 b n = x b n := by
  show up _ 0 4 _ b n = _
  rw [up_b _ _ _ h, sendS_b h, up_b _ _ _ h]
theorem agnS_lo {x : Mem} {ii n : Nat} {msk : Int32} {mm : Nat} (h : n < 30) (h3 : n ≠ 3) (h4 : n ≠ 4) : (agnS x ii msk mm).2 0 n = x 0 n := by
  show up _ 0 4 _ 0 n = _
  rw [up_n _ _ h4, sendS_lo h, up_n _ _ h3]
def PT (z w0 : Mem) : Prop := (∀ n, n < 22 → z 7 (30 + n) = w0 7 (30 + n)) ∧ z 0 0 = w0 0 0 ∧ z 0 2 = w0 0 2
theorem PT.upq {z w0 : Mem} {i : Nat} {v v' : Int32} (h : PT z w0) (hv : v = v') : PT (up z 7 i v) (up w0 7 i v') := by
  subst hv
  refine ⟨fun n hn => ?_, ?_, ?_⟩
  · by_cases hi : 30 + n = i
    · rw [hi, up_s, up_s]
    · rw [up_n _ _ hi, up_n _ _ hi]; exact h.1 n hn
  · rw [up_b _ _ _ (by omega), up_b _ _ _ (by omega)]; exact h.2.1
  · rw [up_b _ _ _ (by omega), up_b _ _ _ (by omega)]; exact h.2.2
theorem PT.a {z w0 : Mem} (h : PT z w0) {n : Nat} (h1 : 30 ≤ n) (h2 : n < 52) : z 7 n = w0 7 n := by
  have := h.1 (n - 30) (by omega)
  rwa [show 30 + (n - 30) = n by omega] at this
theorem PT.hrq {z w0 : Mem} {num : Int32} {mm : Nat} (h : PT z w0) : hrR z 7 0 0 num mm = hrR w0 7 0 0 num mm :=
  E7.hr (fun n hn => by rw [show 30 + 22 * 0 + n = 30 + n by omega]; exact h.1 n hn) h.2.2 h.2.1
theorem PT.mnq {z w0 : Mem} {num : Int32} {mm : Nat} (h : PT z w0) : mean z 7 0 num mm = mean w0 7 0 num mm := by
  have st : ∀ s, s < 4 → stpS z 7 0 s num mm = stpS w0 7 0 s num mm := fun s hs => by
    unfold stpS
    rw [h.a (n := 36 + 22 * 0 + 4 * s) (by omega) (by omega), h.a (n := 37 + 22 * 0 + 4 * s) (by omega) (by omega), h.a (n := 38 + 22 * 0 + 4 * s) (by omega) (by omega)]
  unfold mean mt mt mt mt mt
  rw [st 0 (by omega), st 1 (by omega), st 2 (by omega), st 3 (by omega)]
theorem mean_lt {x : Mem} {k d : Nat} {num : Int32} {mm : Nat} (h4 : ¬ (mean x k d num mm).1 = 4) : (mean x k d num mm).1 < 4 := by
  unfold mean mt mt mt mt mt at h4 ⊢
  repeat' split <;> first | omega | simp_all
theorem PT.hMq {z w0 : Mem} {num : Int32} {mm : Nat} (h : PT z w0) : PT (hrM z 7 0 0 num mm) (hrM w0 7 0 0 num mm) := by
  unfold hrM
  rw [h.mnq, h.2.2, h.a (n := 31 + 22 * 0) (by omega) (by omega)]
  split
  · exact h.upq (by rw [h.a (n := 35 + 22 * 0) (by omega) (by omega)])
  · split
    · exact (h.upq rfl).upq (by rw [h.a (n := 34 + 22 * 0) (by omega) (by omega)])
    · rename_i h4
      have hlt := mean_lt h4
      have e2 := h.a (n := 38 + 22 * 0 + 4 * (mean w0 7 0 num mm).1) (by omega) (by omega)
      have e3 := h.a (n := 39 + 22 * 0 + 4 * (mean w0 7 0 num mm).1) (by omega) (by omega)
      have ht : takS z 7 0 (mean w0 7 0 num mm).1 (nI (mean w0 7 0 num mm).2) (z 0 0) = takS w0 7 0 (mean w0 7 0 num mm).1 (nI (mean w0 7 0 num mm).2) (w0 0 0) := by
        unfold takS
        rw [e2, e3, h.2.1]
      by_cases h5 : takS w0 7 0 (mean w0 7 0 num mm).1 (nI (mean w0 7 0 num mm).2) (w0 0 0)
      · rw [if_pos h5, if_pos (by rw [ht]; exact h5)]
        have h6 : PT (tak1 z 7 0 (mean w0 7 0 num mm).1 (nI (mean w0 7 0 num mm).2)) (tak1 w0 7 0 (mean w0 7 0 num mm).1 (nI (mean w0 7 0 num mm).2)) := by
          unfold tak1
          exact (h.upq (by rw [e2])).upq rfl
        unfold opnM
        exact ((h6.upq rfl).upq (by rw [h6.a (n := 32 + 22 * 0) (by omega) (by omega)])).upq rfl
      · rw [if_neg h5, if_neg (by rw [ht]; exact h5)]
        unfold tak0
        exact (h.upq (by rw [e2])).upq (by rw [h.a (n := 33 + 22 * 0) (by omega) (by omega)])
theorem pto_congr {sc : Int32} {mm : Nat} : ∀ (f : Nat) (z w0 : Mem) (c : Int32) (i : Nat), PT z w0 → ptoS sc mm f z c i = ptoS sc mm f w0 c i
  | 0, _, _, _, _, _ => rfl
  | f + 1, z, w0, c, i, h => by
    unfold ptoS
    rw [h.hrq, pto_congr f _ _ (nx c) (i + 1) h.hMq]
theorem E7.PT {x y : Mem} (h : E7 x y) {d : Nat} : PT (triM y d) (triM x d) := by
  refine ⟨fun n hn => ?_, ?_, ?_⟩
  · unfold triM
    rw [cpS_in (by omega) (by omega), cpS_in (by omega) (by omega)]
    exact h.at (by omega)
  · unfold triM
    rw [cpS_b (by omega), cpS_b (by omega)]
    exact h.at (by omega)
  · unfold triM
    rw [cpS_b (by omega), cpS_b (by omega)]
    exact h.at (by omega)
theorem E7.pto {x y : Mem} (h : E7 x y) {d mm f i a b : Nat} : ptoS (y 0 a) mm f (triM y d) (y 0 b) i = ptoS (x 0 a) mm f (triM x d) (x 0 b) i := by
  rw [h.at (b := 0) (by omega), h.at (b := 0) (by omega)]
  exact pto_congr f _ _ _ _ h.PT
theorem mun_congr {x y : Mem} (h : E7 x y) {d mm : Nat} {sc : Int32} : ∀ (f : Nat) (c : Int32) (i : Nat) (r : Int32), munS y d sc mm f c i r = munS x d sc mm f c i r
  | 0, _, _, _ => rfl
  | f + 1, c, i, r => by
    unfold munS
    rw [h.hrd, mun_congr h f]
theorem E7.mun {x y : Mem} (h : E7 x y) {d mm f i a b : Nat} {r : Int32} : munS y d (y 0 a) mm f (y 0 b) i r = munS x d (x 0 a) mm f (x 0 b) i r := by
  rw [h.at (b := 0) (by omega), h.at (b := 0) (by omega)]
  exact mun_congr h f _ _ _
theorem fus_congr {x y : Mem} (h : E7 x y) {d mm : Nat} : ∀ (f i : Nat), fusS y d mm f i = fusS x d mm f i
  | 0, _ => rfl
  | f + 1, i => by
    unfold fusS
    rw [h.hrd, h.num, fus_congr h f]
def ptoX (x : Mem) (j d mm nb : Nat) : Int32 := ptoS (x 0 (14 + 4 * j)) mm (if nb < 50 then nb else 50) (triM x d) (x 0 (15 + 4 * j)) 0
def munX (x : Mem) (j d mm : Nat) : Int32 := munS x d (x 0 (14 + 4 * j)) mm 100 (x 0 (15 + 4 * j)) 0 (-1)
end
section
/-! ===== what always holds of a block of the state ===== -/
def UN (v : Nat → Int32) : Prop := ∀ d, d < 3 → ∀ s, s < 4 → v (36 + 22 * d + 4 * s) = 0 → ∀ i, 0 < i → i < 4 → v (36 + 22 * d + 4 * s + i) = -1
def WRB (v : Nat → Int32) (B : Nat) : Prop := ∀ d, d < 3 → ∃ r : Nat, r ≤ B ∧ v (31 + 22 * d) = nI r
def AR (v : Nat → Int32) : Prop := ∃ nr : Nat, nr ≤ 8 ∧ v 5 = nI nr ∧ ∀ i, i < nr → ∃ q : Nat, q < 65536 ∧ v (6 + i) = nI q
def SE (v : Nat → Int32) (mm : Nat) : Prop := v 1 = nI mm ∧ mm ≤ 500 ∧ (∃ a : Nat, a ≤ 64 ∧ v 0 = nI a) ∧ ∃ b : Nat, b ≤ 20 ∧ v 2 = nI b
def OW (v : Nat → Int32) (B : Nat) (o w : Nat → Nat) : Prop := ∀ d, d < 3 → v (32 + 22 * d) = nI (o d) ∧ v (34 + 22 * d) = nI (w d) ∧ o d + w d ≤ B
/-- the block without its openings -/
def CW (v : Nat → Int32) (mm B : Nat) : Prop := RS v ∧ UN v ∧ RF v ∧ DF v ∧ BT v ∧ WRB v B ∧ AR v ∧ SE v mm
def CV (v : Nat → Int32) (mm B : Nat) : Prop := CW v mm B ∧ ∃ (o w : Nat → Nat) (a : Nat), OW v B o w ∧ v 4 = nI a ∧ a ≤ o 0 + o 1 + o 2
theorem CW.mk {v : Nat → Int32} {mm B : Nat} (h1 : RS v) (h2 : UN v) (h3 : RF v) (h4 : DF v) (h5 : BT v) (h6 : WRB v B) (h7 : AR v) (h8 : SE v mm) : CW v mm B := ⟨h1, h2, h3, h4, h5, h6, h7, h8⟩
theorem UN.cg {u v : Nat → Int32} (h : UN u) (e : ∀ d s i, d < 3 → s < 4 → i < 4 → v (36 + 22 * d + 4 * s + i) = u (36 + 22 * d + 4 * s + i)) : UN v := fun d hd s hs h0 i h1 h4 => by
  rw [e d s i hd hs h4]
  exact h d hd s hs (by rw [← h0]; exact (e d s 0 hd hs (by omega)).symm) i h1 h4
theorem WRB.cg {u v : Nat → Int32} {B : Nat} (h : WRB u B) (e : ∀ d, d < 3 → v (31 + 22 * d) = u (31 + 22 * d)) : WRB v B := fun d hd => by
  rw [e d hd]
  exact h d hd
theorem WRB.le {v : Nat → Int32} {B B' : Nat} (h : WRB v B) (hB : B ≤ B') : WRB v B' := fun d hd => by
  obtain ⟨r, h1, h2⟩ := h d hd
  exact ⟨r, by omega, h2⟩
theorem AR.cg {u v : Nat → Int32} (h : AR u) (e : ∀ n, 5 ≤ n → n < 14 → v n = u n) : AR v := by
  obtain ⟨nr, h1, h2, h3⟩ := h
  refine ⟨nr, h1, (e 5 (by omega) (by omega)).trans h2, fun i hi => ?_⟩
  rw [e (6 + i) (by omega) (by omega)]
  exact h3 i hi
theorem SE.cg {u v : Nat → Int32} {mm : Nat} (h : SE u mm) (e : ∀ n, n < 3 → v n = u n) : SE v mm := by
  obtain ⟨h1, h2, ⟨a, h3, h4⟩, b, h5, h6⟩ := h
  exact ⟨(e 1 (by omega)).trans h1, h2, ⟨a, h3, (e 0 (by omega)).trans h4⟩, b, h5, (e 2 (by omega)).trans h6⟩
theorem BT.cg {u v : Nat → Int32} (h : BT u) (e : ∀ j, j < 4 → v (16 + 4 * j) = u (16 + 4 * j)) : BT v := fun j hj => by
  rw [e j hj]
  exact h j hj
theorem OW.cg {u v : Nat → Int32} {B : Nat} {o w : Nat → Nat} (h : OW u B o w) (e : ∀ d, d < 3 → v (32 + 22 * d) = u (32 + 22 * d) ∧ v (34 + 22 * d) = u (34 + 22 * d)) : OW v B o w := fun d hd => by
  rw [(e d hd).1, (e d hd).2]
  exact h d hd
theorem OW.le {v : Nat → Int32} {B B' : Nat} {o w : Nat → Nat} (h : OW v B o w) (hB : B ≤ B') : OW v B' o w := fun d hd => by
  obtain ⟨h1, h2, h3⟩ := h d hd
  exact ⟨h1, h2, by omega⟩
theorem CW.le {v : Nat → Int32} {mm B B' : Nat} (h : CW v mm B) (hB : B ≤ B') : CW v mm B' := by
  obtain ⟨h1, h2, h3, h4, h5, h6, h7, h8⟩ := h
  exact ⟨h1, h2, h3, h4, h5, h6.le hB, h7, h8⟩
theorem CV.le {v : Nat → Int32} {mm B B' : Nat} (h : CV v mm B) (hB : B ≤ B') : CV v mm B' := by
  obtain ⟨h1, o, w, a, h2, h3, h4⟩ := h
  exact ⟨h1.le hB, o, w, a, h2.le hB, h3, h4⟩
theorem DF.cg {u v : Nat → Int32} (h : DF u) (e : ∀ d, d < 3 → v (30 + 22 * d) = u (30 + 22 * d)) : DF v := fun d hd => by
  rw [e d hd]
  exact h d hd
theorem RF.cg {u v : Nat → Int32} (h : RF u) (e : ∀ n, 14 ≤ n → n < 30 → v n = u n) : RF v := fun j hj => by
  rw [e _ (by omega) (by omega), e _ (by omega) (by omega)]
  exact h j hj
theorem RS.cg {u v : Nat → Int32} (h : RS u) (e : ∀ d s i, d < 3 → s < 4 → i < 4 → v (36 + 22 * d + 4 * s + i) = u (36 + 22 * d + 4 * s + i)) : RS v := fun d hd s hs => (h d hd s hs).cg fun i hi => e d s i hd hs hi
theorem CV.cg {u v : Nat → Int32} {mm B : Nat} (h : CV u mm B) (e : ∀ n, n < 96 → v n = u n) : CV v mm B := by
  obtain ⟨⟨h1, h2, h3, h4, h5, h6, h7, h8⟩, o, w, a, h9, h10, h11⟩ := h
  exact ⟨⟨h1.c96 e, h2.cg fun d s i _ _ _ => e _ (by omega), h3.c96 e, h4.cg fun d _ => e _ (by omega), h5.cg fun j _ => e _ (by omega), h6.cg fun d _ => e _ (by omega), h7.cg fun n _ _ => e _ (by omega), h8.cg fun n _ => e _ (by omega)⟩, o, w, a, h9.cg fun d _ => ⟨e _ (by omega), e _ (by omega)⟩, (e _ (by omega)).trans h10, h11⟩
theorem CV.flg {x : Mem} {k mm B : Nat} (h : CV (x k) mm B) : FLG x k := fun d hd => ⟨h.1.2.2.2.1 d hd, fun s hs => (h.1.1 d hd s hs).imp id fun q => q.1⟩
/-! ===== a door hears ===== -/
theorem hrM_36 {x : Mem} {k d d' s' mm : Nat} {num : Int32} (hd : d < 3) (hd' : d' < 3) (hs' : s' < 4) : hrM x k d k num mm k (36 + 22 * d' + 4 * s') = x k (36 + 22 * d' + 4 * s') := by
  have ne1 : ∀ f, f < 6 → 36 + 22 * d' + 4 * s' ≠ 30 + f + 22 * d := fun f hf q => dp_ne f hd hd' hs' (i := 0) (by omega) hf q.symm
  rcases hr_or x k d mm num with ⟨-, -, e⟩ | ⟨-, ⟨-, -, e⟩ | ⟨s, t, hs, h1, ht, -, hne, ⟨-, -, e⟩ | ⟨-, -, e⟩⟩⟩ <;> rw [e]
  · rw [up_n _ _ (ne1 5 (by omega))]
  · rw [up_n _ _ (ne1 4 (by omega)), up_n _ _ (ne1 1 (by omega))]
  · have ne2 : 36 + 22 * d' + 4 * s' ≠ 38 + 22 * d + 4 * s ∧ 36 + 22 * d' + 4 * s' ≠ 39 + 22 * d + 4 * s := by
      rcases (show d = 0 ∨ d = 1 ∨ d = 2 by omega) with rfl | rfl | rfl <;> rcases (show d' = 0 ∨ d' = 1 ∨ d' = 2 by omega) with rfl | rfl | rfl <;> omega
    unfold opnM tak1
    rw [up_n _ _ (ne1 1 (by omega)), up_n _ _ (ne1 2 (by omega)), up_n _ _ (ne1 0 (by omega)), up_n _ _ ne2.2, up_n _ _ ne2.1]
  · have ne2 : 36 + 22 * d' + 4 * s' ≠ 39 + 22 * d + 4 * s := by
      rcases (show d = 0 ∨ d = 1 ∨ d = 2 by omega) with rfl | rfl | rfl <;> rcases (show d' = 0 ∨ d' = 1 ∨ d' = 2 by omega) with rfl | rfl | rfl <;> omega
    unfold tak0
    rw [up_n _ _ (ne1 3 (by omega)), up_n _ _ ne2]
theorem hrM_un {x : Mem} {k d d' s' i mm : Nat} {num : Int32} (hd : d < 3) (hd' : d' < 3) (hs' : s' < 4) (hi : i < 4) (h0 : x k (36 + 22 * d' + 4 * s') = 0) : hrM x k d k num mm k (36 + 22 * d' + 4 * s' + i) = x k (36 + 22 * d' + 4 * s' + i) := by
  have ne1 : ∀ f, f < 6 → 36 + 22 * d' + 4 * s' + i ≠ 30 + f + 22 * d := fun f hf q => dp_ne f hd hd' hs' hi hf q.symm
  rcases hr_or x k d mm num with ⟨-, -, e⟩ | ⟨-, ⟨-, -, e⟩ | ⟨s, t, hs, h1, ht, -, hne, ⟨-, -, e⟩ | ⟨-, -, e⟩⟩⟩ <;> rw [e]
  · rw [up_n _ _ (ne1 5 (by omega))]
  · rw [up_n _ _ (ne1 4 (by omega)), up_n _ _ (ne1 1 (by omega))]
  · have hq : ¬ (d' = d ∧ s' = s) := fun q => hne (by rw [← q.1, ← q.2]; exact h0)
    unfold opnM tak1
    rw [up_n _ _ (ne1 1 (by omega)), up_n _ _ (ne1 2 (by omega)), up_n _ _ (ne1 0 (by omega)), up_n _ _ (sl_ne 3 hd hd' hs hs' hi (by omega) hq), up_n _ _ (sl_ne 2 hd hd' hs hs' hi (by omega) hq)]
  · have hq : ¬ (d' = d ∧ s' = s) := fun q => hne (by rw [← q.1, ← q.2]; exact h0)
    unfold tak0
    rw [up_n _ _ (ne1 3 (by omega)), up_n _ _ (sl_ne 3 hd hd' hs hs' hi (by omega) hq)]
theorem UN.hr {x : Mem} {k d mm : Nat} {num : Int32} (h : UN (x k)) (hd : d < 3) : UN (hrM x k d k num mm k) := fun d' hd' s' hs' h0 i h1 h4 => by
  rw [hrM_36 hd hd' hs'] at h0
  rw [hrM_un hd hd' hs' h4 h0]
  exact h d' hd' s' hs' h0 i h1 h4
theorem WRB.hr {x : Mem} {k d mm B : Nat} {num : Int32} (h : WRB (x k) B) (hd : d < 3) : WRB (hrM x k d k num mm k) (B + 1) := fun d' hd' => by
  obtain ⟨r, h1, h2⟩ := h d' hd'
  by_cases q : d' = d
  · subst q
    rcases hr_or x k d' mm num with ⟨-, -, e⟩ | ⟨-, ⟨-, -, e⟩ | ⟨s, t, hs, h1', ht, -, hne, ⟨-, -, e⟩ | ⟨-, -, e⟩⟩⟩ <;> rw [e]
    · exact ⟨r, by omega, (up_n _ _ (by omega)).trans h2⟩
    · refine ⟨r + 1, by omega, ?_⟩
      rw [up_n _ _ (by omega), up_s, h2]
      exact nI_1 r
    · refine ⟨0, by omega, ?_⟩
      unfold opnM
      exact up_s _ _ _ _
    · refine ⟨r, by omega, ?_⟩
      unfold tak0
      rw [up_n _ _ (by omega), up_n _ _ (by omega)]
      exact h2
  · rw [hrM_o (by omega)]
    exact ⟨r, by omega, h2⟩
theorem OW.hr {x : Mem} {k d mm B : Nat} {o w : Nat → Nat} {num : Int32} (h : OW (x k) B o w) (hd : d < 3) : ∃ o' w' : Nat → Nat, OW (hrM x k d k num mm k) (B + 1) o' w' ∧ o' 0 + o' 1 + o' 2 = o 0 + o 1 + o 2 + (if hrR x k d k num mm = 0 then 1 else 0) := by
  have ho : ∀ d', d' < 3 → d' ≠ d → hrM x k d k num mm k (32 + 22 * d') = x k (32 + 22 * d') ∧ hrM x k d k num mm k (34 + 22 * d') = x k (34 + 22 * d') := fun d' _ q => ⟨hrM_o (by omega), hrM_o (by omega)⟩
  have hh := h d hd
  obtain ⟨h1, h2, h3⟩ := hh
  have fin : ∀ a b : Nat, hrM x k d k num mm k (32 + 22 * d) = nI a → hrM x k d k num mm k (34 + 22 * d) = nI b → a + b ≤ B + 1 → OW (hrM x k d k num mm k) (B + 1) (fun e => if e = d then a else o e) (fun e => if e = d then b else w e) := fun a b e1 e2 e3 d' hd' => by
    by_cases q : d' = d
    · subst q
      dsimp only
      rw [if_pos rfl, if_pos rfl]
      exact ⟨e1, e2, e3⟩
    · dsimp only
      rw [if_neg q, if_neg q, (ho d' hd' q).1, (ho d' hd' q).2]
      obtain ⟨g1, g2, g3⟩ := h d' hd'
      exact ⟨g1, g2, by omega⟩
  have sm : ∀ a : Nat, (if 0 = d then a else o 0) + (if 1 = d then a else o 1) + (if 2 = d then a else o 2) + o d = o 0 + o 1 + o 2 + a := fun a => by
    rcases (show d = 0 ∨ d = 1 ∨ d = 2 by omega) with rfl | rfl | rfl <;> simp <;> omega
  rcases hr_or x k d mm num with ⟨-, r, e⟩ | ⟨-, ⟨-, r, e⟩ | ⟨s, t, hs, h1', ht, -, hne, ⟨-, r, e⟩ | ⟨-, r, e⟩⟩⟩
  · refine ⟨_, _, fin (o d) (w d) (by rw [e, up_n _ _ (by omega)]; exact h1) (by rw [e, up_n _ _ (by omega)]; exact h2) (by omega), ?_⟩
    have := sm (o d)
    rw [r, if_neg (show ¬ (3 : Int32) = 0 by decide)]
    show (if 0 = d then _ else _) + (if 1 = d then _ else _) + (if 2 = d then _ else _) = _
    omega
  · refine ⟨_, _, fin (o d) (w d + 1) (by rw [e, up_n _ _ (by omega), up_n _ _ (by omega)]; exact h1) (by rw [e, up_s, h2]; exact nI_1 _) (by omega), ?_⟩
    have := sm (o d)
    rw [r, if_neg (show ¬ (2 : Int32) = 0 by decide)]
    show (if 0 = d then _ else _) + (if 1 = d then _ else _) + (if 2 = d then _ else _) = _
    omega
  · refine ⟨_, _, fin (o d + 1) (w d) ?_ ?_ (by omega), ?_⟩
    · rw [e]
      unfold opnM tak1
      rw [up_n _ _ (by omega), up_s, up_n _ _ (by omega), up_n _ _ (by omega), h1]
      exact nI_1 _
    · rw [e]
      unfold opnM tak1
      rw [up_n _ _ (by omega), up_n _ _ (by omega), up_n _ _ (by omega), up_n _ _ (by omega), up_n _ _ (by omega)]
      exact h2
    · have := sm (o d + 1)
      rw [r, if_pos rfl]
      show (if 0 = d then _ else _) + (if 1 = d then _ else _) + (if 2 = d then _ else _) = _
      omega
  · refine ⟨_, _, fin (o d) (w d) ?_ ?_ (by omega), ?_⟩
    · rw [e]
      unfold tak0
      rw [up_n _ _ (by omega), up_n _ _ (by omega)]
      exact h1
    · rw [e]
      unfold tak0
      rw [up_n _ _ (by omega), up_n _ _ (by omega)]
      exact h2
    · have := sm (o d)
      rw [r, if_neg (show ¬ (1 : Int32) = 0 by decide)]
      show (if 0 = d then _ else _) + (if 1 = d then _ else _) + (if 2 = d then _ else _) = _
      omega
theorem CW.hr {x : Mem} {k d mm B : Nat} {num : Int32} (h : CW (x k) mm B) (hd : d < 3) : CW (hrM x k d k num mm k) mm (B + 1) := by
  obtain ⟨h1, h2, h3, h4, h5, h6, h7, h8⟩ := h
  exact ⟨h1.hr hd h8.2.1, h2.hr hd, h3.cg fun n _ hn => hrM_lo hn, h4.hr hd, h5.cg fun j _ => hrM_lo (by omega), h6.hr hd, h7.cg fun n _ _ => hrM_lo (by omega), h8.cg fun n _ => hrM_lo (by omega)⟩
/-! ===== a number is sent ===== -/
theorem or_bit : ∀ d, d < 3 → ∀ b, b < 2 ^ d → nI b ||| (1 <<< (nI d &&& 31)) = nI (b + 2 ^ d) ∧ ones3 (b + 2 ^ d) = ones3 b + 1 := by decide +kernel
theorem CW.snd {x : Mem} {k mm B : Nat} {o w : Nat → Nat} {msk num : Int32} (h : CW (x k) mm B) (hO : OW (x k) B o w) : ∀ d, d ≤ 3 → CW ((sendS x k msk num mm d).2 k) mm (B + d) ∧
    ∃ (b : Nat) (o' w' : Nat → Nat), b < 2 ^ d ∧ (sendS x k msk num mm d).1 = nI b ∧ OW ((sendS x k msk num mm d).2 k) (B + d) o' w' ∧ o' 0 + o' 1 + o' 2 = o 0 + o 1 + o 2 + ones3 b
  | 0, _ => ⟨h, 0, o, w, by omega, rfl, hO, rfl⟩
  | d + 1, hd => by
    obtain ⟨i1, b, o1, w1, i2, i3, i4, i5⟩ := CW.snd h hO (msk := msk) (num := num) d (by omega)
    have h2 : 2 ^ (d + 1) = 2 ^ d + 2 ^ d := by rw [Nat.pow_succ]; omega
    by_cases hm : (msk >>> (nI d &&& 31)) &&& 1 = 1
    · rw [sendS_y hm]
      obtain ⟨o2, w2, j1, j2⟩ := i4.hr (num := num) (mm := mm) (d := d) (by omega)
      refine ⟨i1.hr (by omega), ?_⟩
      by_cases hr : hrR (sendS x k msk num mm d).2 k d k num mm = 0
      · obtain ⟨q1, q2⟩ := or_bit d (by omega) b i2
        refine ⟨b + 2 ^ d, o2, w2, by omega, ?_, j1, ?_⟩
        · show (if _ then _ else _) = _
          rw [if_pos hr, i3]
          exact q1
        · rw [j2, if_pos hr, i5, q2]
          omega
      · refine ⟨b, o2, w2, by omega, ?_, j1, ?_⟩
        · show (if _ then _ else _) = _
          rw [if_neg hr]
          exact i3
        · rw [j2, if_neg hr, i5]
          omega
    · rw [sendS_n hm]
      exact ⟨i1.le (by omega), b, o1, w1, by omega, i3, i4.le (by omega), i5⟩
theorem CV.snd {x : Mem} {k mm B : Nat} {msk num : Int32} (h : CV (x k) mm B) : CV ((sendS x k msk num mm 3).2 k) mm (B + 3) := by
  obtain ⟨h1, o, w, a, h2, h3, h4⟩ := h
  obtain ⟨i1, b, o', w', -, -, i4, i5⟩ := CW.snd h1 h2 (msk := msk) (num := num) 3 (by omega)
  exact ⟨i1, o', w', a, i4, (sendS_lo (by omega) 3).trans h3, by omega⟩
/-- the doors that a number would open -/
def dueS (x : Mem) (num msk : Int32) (mm : Nat) : Nat → Int32
  | 0 => 0
  | d + 1 => dueS x num msk mm d ||| (if (msk >>> (nI d &&& 31)) &&& 1 = 1 then (if hrR x 0 d 0 num mm = 0 then 1 <<< (nI d &&& 31) else 0) else 0)
theorem sendS_o {x : Mem} {k n mm : Nat} {msk num : Int32} : ∀ d, (30 + 22 * d ≤ n) → (sendS x k msk num mm d).2 k n = x k n
  | 0, _ => rfl
  | d + 1, hn => by
    by_cases hm : (msk >>> (nI d &&& 31)) &&& 1 = 1
    · rw [sendS_y hm]
      exact (hrM_o (by omega)).trans (sendS_o d (by omega))
    · rw [sendS_n hm]
      exact sendS_o d (by omega)
theorem or_zr (v : Int32) : v ||| 0 = v := by simp
/-- what a number would do is what it does -/
theorem snd_due {x z : Mem} {mm : Nat} {msk num : Int32} (h0 : z 0 0 = x 0 0) (h2 : z 0 2 = x 0 2) (h30 : ∀ n, 30 ≤ n → n < 96 → z 0 n = x 0 n) : ∀ d, d ≤ 3 → (sendS z 0 msk num mm d).1 = dueS x num msk mm d
  | 0, _ => rfl
  | d + 1, hd => by
    have ih := snd_due h0 h2 h30 (msk := msk) (num := num) (mm := mm) d (by omega)
    have hr : hrR (sendS z 0 msk num mm d).2 0 d 0 num mm = hrR x 0 d 0 num mm := E7.hr (fun n hn => (sendS_o d (by omega)).trans (h30 _ (by omega) (by omega))) ((sendS_lo (by omega) d).trans h2) ((sendS_lo (by omega) d).trans h0)
    unfold dueS
    by_cases hm : (msk >>> (nI d &&& 31)) &&& 1 = 1
    · rw [sendS_y hm, if_pos hm]
      show (if _ then _ else _) = _
      rw [hr, ih]
      by_cases q : hrR x 0 d 0 num mm = 0
      · rw [if_pos q, if_pos q]
      · rw [if_neg q, if_neg q, or_zr]
    · rw [sendS_n hm, if_neg hm, or_zr]
      exact ih
theorem due_cg {x y : Mem} {num msk : Int32} {mm : Nat} (h : E7 x y) : ∀ d, dueS y num msk mm d = dueS x num msk mm d
  | 0 => rfl
  | d + 1 => by
    unfold dueS
    rw [due_cg h d, h.hrd]
/-! ===== the calls keep what always holds ===== -/
theorem nu_lt (a b : Int32) : ∃ q : Nat, q < 65536 ∧ nu a b = nI q := pk_andE _ 16 (by decide +kernel)
theorem AR.rec {x : Mem} {k q : Nat} (h : AR (x k)) (hq : q < 65536) : AR (recF x k (nI q) k) := by
  obtain ⟨nr, h1, h2, h3⟩ := h
  have h5 : recF x k (nI q) k 5 = nI (if nr + 1 ≤ 8 then nr + 1 else 8) := by
    unfold recF
    rw [up_s, h2, nI_1]
    by_cases h9 : nr + 1 ≤ 8
    · rw [if_pos h9]
      exact if_neg (fun q => absurd ((nI_ltI (a := 8) (b := nr + 1) (by omega) (by omega)).mp q) (by omega))
    · rw [if_neg h9]
      exact if_pos ((nI_ltI (a := 8) (b := nr + 1) (by omega) (by omega)).mpr (by omega))
  refine ⟨_, ?_, h5, fun i hi => ?_⟩
  · split <;> omega
  · have hi9 : i < nr + 1 ∧ i < 8 := by split at hi <;> omega
    unfold recF
    rw [up_n _ _ (by omega)]
    by_cases i0 : i = 0
    · rw [i0, up_s]
      exact ⟨q, hq, rfl⟩
    · rw [up_n _ _ (by omega)]
      unfold shA
      rw [if_pos ⟨rfl, by omega, by omega⟩, show 6 + i - 1 = 6 + (i - 1) by omega]
      exact h3 (i - 1) (by omega)
theorem CV.rs {x : Mem} {j mm B : Nat} (h : CV (x 0) mm B) (hj : j < 4) (hb : ¬ x 0 (16 + 4 * j) ≤ 0) : CV (recF (sndF x 0 j) 0 (nxtN x 0 j) 0) mm B := by
  obtain ⟨⟨h1, h2, h3, h4, h5, h6, h7, h8⟩, o, w, a, h9, h10, h11⟩ := h
  have hi : ∀ n, 30 ≤ n → recF (sndF x 0 j) 0 (nxtN x 0 j) 0 n = x 0 n := fun n hn => rs_hi hj hn
  have lo : ∀ n, n < 5 → recF (sndF x 0 j) 0 (nxtN x 0 j) 0 n = x 0 n := fun n hn => rs_lo hn
  have hfr : ∀ i n, i < 4 → i ≠ j → 14 ≤ n → n < 17 → recF (sndF x 0 j) 0 (nxtN x 0 j) 0 (n + 4 * i) = x 0 (n + 4 * i) := fun i n h4 hij n1 n2 => by
    unfold recF sndF
    rw [up_n _ _ (by omega), up_n _ _ (by omega)]
    unfold shA
    rw [if_neg (by omega), up_n _ _ (by omega), up_n _ _ (by omega), up_n _ _ (by omega)]
  refine ⟨⟨h1.cg fun d s i _ _ _ => hi _ (by omega), h2.cg fun d s i _ _ _ => hi _ (by omega), fun i hi4 => ?_, h4.cg fun d _ => hi _ (by omega), fun i hi4 => ?_, h6.cg fun d _ => hi _ (by omega), ?_, h8.cg fun n hn => lo n (by omega)⟩, o, w, a, h9.cg fun d _ => ⟨hi _ (by omega), hi _ (by omega)⟩, (lo 4 (by omega)).trans h10, h11⟩
  · obtain ⟨a, b, ha, hb', e1, e2⟩ := h3 i hi4
    by_cases q : i = j
    · subst q
      refine ⟨a, (b + 1) % 10000, ha, Nat.mod_lt _ (by omega), ?_, ?_⟩
      · refine (rs_f (i := 0) hj (by omega)).trans ?_
        rw [if_neg (by omega), if_neg (by omega), if_neg (by omega)]
        exact e1
      · refine (rs_f (i := 1) hj (by omega)).trans ?_
        rw [if_pos rfl, e2, nx_n hb']
    · exact ⟨a, b, ha, hb', (hfr i 14 hi4 q (by omega) (by omega)).trans e1, (hfr i 15 hi4 q (by omega) (by omega)).trans e2⟩
  · obtain ⟨nb, e1, e2⟩ := h5 i hi4
    by_cases q : i = j
    · subst q
      have hp : 0 < nb := Nat.pos_of_ne_zero fun q => hb (by rw [e2, q]; decide)
      refine ⟨nb - 1, by omega, ?_⟩
      refine (rs_f (i := 2) hj (by omega)).trans ?_
      rw [if_neg (by omega), if_pos rfl, e2]
      exact pk_sub (a := nb) (b := 1) (by omega)
    · exact ⟨nb, e1, (hfr i 16 hi4 q (by omega) (by omega)).trans e2⟩
  · obtain ⟨q, hq, e⟩ := nu_lt (x 0 (14 + 4 * j)) (nx (x 0 (15 + 4 * j)))
    have e' : nxtN x 0 j = nI q := e
    rw [e']
    refine AR.rec (AR.cg h7 fun n n1 n2 => ?_) hq
    unfold sndF
    rw [up_n _ _ (by omega), up_n _ _ (by omega), up_n _ _ (by omega)]
theorem CV.prs {x : Mem} {j mm B : Nat} {msk : Int32} (h : CV (x 0) mm B) (hj : j < 4) (hb : ¬ x 0 (16 + 4 * j) ≤ 0) : CV ((prsS x 0 j msk mm).2 0) mm (B + 3) := (h.rs hj hb).snd
theorem CV.agn {x : Mem} {ii mm B : Nat} {msk : Int32} (h : CV (x 0) mm B) : CV ((agnS x ii msk mm).2 0) mm (B + 3) := by
  obtain ⟨⟨h1, h2, h3, h4, h5, h6, h7, h8⟩, o, w, a, h9, h10, h11⟩ := h
  obtain ⟨z, hz⟩ : ∃ z, z = up x 0 3 (x 0 3 + 1) := ⟨_, rfl⟩
  have zn : ∀ n, n ≠ 3 → z 0 n = x 0 n := fun n hn => by rw [hz]; exact up_n _ _ hn
  have hw : CW (z 0) mm B := ⟨h1.cg fun d s i _ _ _ => zn _ (by omega), h2.cg fun d s i _ _ _ => zn _ (by omega), h3.cg fun n _ _ => zn _ (by omega), h4.cg fun d _ => zn _ (by omega), h5.cg fun d _ => zn _ (by omega), h6.cg fun d _ => zn _ (by omega), h7.cg fun n _ _ => zn _ (by omega), h8.cg fun n _ => zn _ (by omega)⟩
  have hO : OW (z 0) B o w := h9.cg fun d _ => ⟨zn _ (by omega), zn _ (by omega)⟩
  obtain ⟨i1, b, o', w', i2, i3, i4, i5⟩ := CW.snd hw hO (msk := msk) (num := numA z 0 (nI ii)) 3 (by omega)
  have e4 : (sendS z 0 msk (numA z 0 (nI ii)) mm 3).2 0 4 = nI a := (sendS_lo (by omega) 3).trans ((zn 4 (by omega)).trans h10)
  have hy : (agnS x ii msk mm).2 = up (sendS z 0 msk (numA z 0 (nI ii)) mm 3).2 0 4 (nI (a + ones3 b)) := by
    have : (agnS x ii msk mm).2 = up (sendS z 0 msk (numA z 0 (nI ii)) mm 3).2 0 4 ((sendS z 0 msk (numA z 0 (nI ii)) mm 3).2 0 4 + nI (ones3 (sendS z 0 msk (numA z 0 (nI ii)) mm 3).1.toNatClampNeg)) := by rw [hz]; rfl
    rw [this, e4, i3, nI_clamp (by omega), nI_add]
  rw [hy]
  obtain ⟨y, hyy⟩ : ∃ y, y = (sendS z 0 msk (numA z 0 (nI ii)) mm 3).2 := ⟨_, rfl⟩
  rw [← hyy] at i1 i4 ⊢
  have yn : ∀ n, n ≠ 4 → up y 0 4 (nI (a + ones3 b)) 0 n = y 0 n := fun n hn => up_n _ _ hn
  obtain ⟨h1, h2, h3, h4, h5, h6, h7, h8⟩ := i1
  exact ⟨⟨h1.cg fun d s i _ _ _ => yn _ (by omega), h2.cg fun d s i _ _ _ => yn _ (by omega), h3.cg fun n _ _ => yn _ (by omega), h4.cg fun d _ => yn _ (by omega), h5.cg fun d _ => yn _ (by omega), h6.cg fun d _ => yn _ (by omega), h7.cg fun n _ _ => yn _ (by omega), h8.cg fun n _ => yn _ (by omega)⟩, o', w', a + ones3 b, i4.cg fun d _ => ⟨yn _ (by omega), yn _ (by omega)⟩, up_s _ _ _ _, by omega⟩
/-- one place of the block is set, that no slot, no number of openings holds -/
theorem CV.put {x : Mem} {n mm mm' B : Nat} {v : Int32} (h : CV (x 0) mm B) (hn : n < 30 ∨ ∃ d, d < 3 ∧ (n = 30 + 22 * d ∨ n = 31 + 22 * d)) (hn4 : n ≠ 4) (h3 : RF (up x 0 n v 0)) (h4 : DF (up x 0 n v 0)) (h5 : BT (up x 0 n v 0)) (h6 : WRB (up x 0 n v 0) B) (h7 : AR (up x 0 n v 0)) (h8 : SE (up x 0 n v 0) mm') : CV (up x 0 n v 0) mm' B := by
  obtain ⟨⟨h1, h2, -, -, -, -, -, -⟩, o, w, a, h9, h10, h11⟩ := h
  have hs : ∀ d s i, d < 3 → s < 4 → i < 4 → up x 0 n v 0 (36 + 22 * d + 4 * s + i) = x 0 (36 + 22 * d + 4 * s + i) := fun d s i hd hs hi => by
    refine up_n _ _ fun q => ?_
    rcases hn with hn | ⟨d', hd', hn | hn⟩
    · omega
    · exact dp_ne (d := d') 0 hd' hd hs hi (by omega) (by omega)
    · exact dp_ne (d := d') 1 hd' hd hs hi (by omega) (by omega)
  have ho : ∀ d, d < 3 → up x 0 n v 0 (32 + 22 * d) = x 0 (32 + 22 * d) ∧ up x 0 n v 0 (34 + 22 * d) = x 0 (34 + 22 * d) := fun d hd => by
    refine ⟨up_n _ _ fun q => ?_, up_n _ _ fun q => ?_⟩ <;> rcases hn with hn | ⟨d', hd', hn | hn⟩ <;> omega
  exact ⟨⟨h1.cg hs, h2.cg hs, h3, h4, h5, h6, h7, h8⟩, o, w, a, h9.cg ho, (up_n _ _ (by omega)).trans h10, h11⟩
theorem CV.shut {x : Mem} {d mm B : Nat} (h : CV (x 0) mm B) (hd : d < 3) : CV (up x 0 (30 + 22 * d) 0 0) mm B := by
  have h' := h
  obtain ⟨⟨-, -, h3, h4, h5, h6, h7, h8⟩, -⟩ := h'
  refine h.put (Or.inr ⟨d, hd, Or.inl rfl⟩) (by omega) (h3.cg fun n _ _ => up_n _ _ (by omega)) (fun d' hd' => ?_) (h5.cg fun j _ => up_n _ _ (by omega)) (h6.cg fun d' _ => up_n _ _ (by omega)) (h7.cg fun n _ _ => up_n _ _ (by omega)) (h8.cg fun n _ => up_n _ _ (by omega))
  by_cases q : d' = d
  · rw [q, up_s]
    exact Or.inl rfl
  · rw [up_n _ _ (by omega)]
    exact h4 d' hd'
theorem CV.unl {x : Mem} {d mm B : Nat} (h : CV (x 0) mm B) (hd : d < 3) : CV (up x 0 (31 + 22 * d) 0 0) mm B := by
  have h' := h
  obtain ⟨⟨-, -, h3, h4, h5, h6, h7, h8⟩, -⟩ := h'
  refine h.put (Or.inr ⟨d, hd, Or.inr rfl⟩) (by omega) (h3.cg fun n _ _ => up_n _ _ (by omega)) (h4.cg fun d' _ => up_n _ _ (by omega)) (h5.cg fun j _ => up_n _ _ (by omega)) (fun d' hd' => ?_) (h7.cg fun n _ _ => up_n _ _ (by omega)) (h8.cg fun n _ => up_n _ _ (by omega))
  by_cases q : d' = d
  · rw [q, up_s]
    exact ⟨0, by omega, rfl⟩
  · rw [up_n _ _ (by omega)]
    exact h6 d' hd'
theorem CV.bat {x : Mem} {j a mm B : Nat} (h : CV (x 0) mm B) (hj : j < 4) (ha : a ≤ 999) : CV (up x 0 (16 + 4 * j) (nI a) 0) mm B := by
  have h' := h
  obtain ⟨⟨-, -, h3, h4, h5, h6, h7, h8⟩, -⟩ := h'
  refine h.put (Or.inl (by omega)) (by omega) (fun i hi => ?_) (h4.cg fun d' _ => up_n _ _ (by omega)) (fun i hi => ?_) (h6.cg fun d' _ => up_n _ _ (by omega)) (h7.cg fun n _ _ => up_n _ _ (by omega)) (h8.cg fun n _ => up_n _ _ (by omega))
  · rw [up_n _ _ (by omega), up_n _ _ (by omega)]
    exact h3 i hi
  · by_cases q : i = j
    · rw [q, up_s]
      exact ⟨a, ha, rfl⟩
    · rw [up_n _ _ (by omega)]
      exact h5 i hi
theorem CV.mak {x : Mem} {j a b mm B : Nat} (h : CV (x 0) mm B) (hj : j < 4) (ha : a < 10000) (hb : b < 10000) : CV (up (up x 0 (14 + 4 * j) (nI a)) 0 (15 + 4 * j) (nI b) 0) mm B := by
  have h' := h
  obtain ⟨⟨-, -, h3, h4, h5, h6, h7, h8⟩, -⟩ := h'
  have g : CV (up x 0 (14 + 4 * j) (nI a) 0) mm B := by
    refine h.put (Or.inl (by omega)) (by omega) (fun i hi => ?_) (h4.cg fun d' _ => up_n _ _ (by omega)) (h5.cg fun i _ => up_n _ _ (by omega)) (h6.cg fun d' _ => up_n _ _ (by omega)) (h7.cg fun n _ _ => up_n _ _ (by omega)) (h8.cg fun n _ => up_n _ _ (by omega))
    obtain ⟨a', b', q1, q2, e1, e2⟩ := h3 i hi
    by_cases q : i = j
    · subst q
      exact ⟨a, b', ha, q2, up_s _ _ _ _, (up_n _ _ (by omega)).trans e2⟩
    · exact ⟨a', b', q1, q2, (up_n _ _ (by omega)).trans e1, (up_n _ _ (by omega)).trans e2⟩
  have g' := g
  obtain ⟨⟨-, -, h3, h4, h5, h6, h7, h8⟩, -⟩ := g'
  refine g.put (Or.inl (by omega)) (by omega) (fun i hi => ?_) (h4.cg fun d' _ => up_n _ _ (by omega)) (h5.cg fun i _ => up_n _ _ (by omega)) (h6.cg fun d' _ => up_n _ _ (by omega)) (h7.cg fun n _ _ => up_n _ _ (by omega)) (h8.cg fun n _ => up_n _ _ (by omega))
  obtain ⟨a', b', q1, q2, e1, e2⟩ := h3 i hi
  by_cases q : i = j
  · subst q
    exact ⟨a', b, q1, hb, (up_n _ _ (by omega)).trans e1, up_s _ _ _ _⟩
  · exact ⟨a', b', q1, q2, (up_n _ _ (by omega)).trans e1, (up_n _ _ (by omega)).trans e2⟩
theorem CV.set {x : Mem} {n a mm mm' B : Nat} (h : CV (x 0) mm B) (hn : (n = 0 ∧ a ≤ 64 ∧ mm' = mm) ∨ (n = 1 ∧ a ≤ 500 ∧ mm' = a) ∨ (n = 2 ∧ a ≤ 20 ∧ mm' = mm)) : CV (up x 0 n (nI a) 0) mm' B := by
  have h' := h
  obtain ⟨⟨-, -, h3, h4, h5, h6, h7, h8⟩, -⟩ := h'
  have hn3 : n < 3 := by omega
  refine h.put (Or.inl (by omega)) (by omega) (h3.cg fun m _ _ => up_n _ _ (by omega)) (h4.cg fun d' _ => up_n _ _ (by omega)) (h5.cg fun i _ => up_n _ _ (by omega)) (h6.cg fun d' _ => up_n _ _ (by omega)) (h7.cg fun m _ _ => up_n _ _ (by omega)) ?_
  obtain ⟨s1, s2, ⟨p, s3, s4⟩, q, s5, s6⟩ := h8
  rcases hn with ⟨rfl, ha, rfl⟩ | ⟨rfl, ha, rfl⟩ | ⟨rfl, ha, rfl⟩
  · exact ⟨(up_n _ _ (by omega)).trans s1, s2, ⟨a, ha, up_s _ _ _ _⟩, q, s5, (up_n _ _ (by omega)).trans s6⟩
  · exact ⟨up_s _ _ _ _, ha, ⟨p, s3, (up_n _ _ (by omega)).trans s4⟩, q, s5, (up_n _ _ (by omega)).trans s6⟩
  · exact ⟨(up_n _ _ (by omega)).trans s1, s2, ⟨p, s3, (up_n _ _ (by omega)).trans s4⟩, a, ha, up_s _ _ _ _⟩
/-- a slot is set -/
theorem CV.slt {x y : Mem} {d s mm B : Nat} (h : CV (x 0) mm B) (hd : d < 3) (hs : s < 4) (e : ∀ n, ¬ (36 + 22 * d + 4 * s ≤ n ∧ n < 40 + 22 * d + 4 * s) → y 0 n = x 0 n) (h1 : Sl (y 0) d s) (h2 : y 0 (36 + 22 * d + 4 * s) = 0 → ∀ i, 0 < i → i < 4 → y 0 (36 + 22 * d + 4 * s + i) = -1) : CV (y 0) mm B := by
  obtain ⟨⟨g1, g2, g3, g4, g5, g6, g7, g8⟩, o, w, a, g9, g10, g11⟩ := h
  have hf : ∀ f d', f < 6 → d' < 3 → y 0 (30 + f + 22 * d') = x 0 (30 + f + 22 * d') := fun f d' hf hd' => e _ fun q => dp_ne (d := d') (d' := d) (s' := s) (i := 30 + f + 22 * d' - (36 + 22 * d + 4 * s)) f hd' hd hs (by omega) hf (by omega)
  have lo : ∀ n, n < 30 → y 0 n = x 0 n := fun n hn => e n (by omega)
  have sl : ∀ d' s' i, d' < 3 → s' < 4 → i < 4 → ¬ (d' = d ∧ s' = s) → y 0 (36 + 22 * d' + 4 * s' + i) = x 0 (36 + 22 * d' + 4 * s' + i) := fun d' s' i hd' hs' hi q => e _ fun z => sl_ne (i := i) (36 + 22 * d' + 4 * s' + i - (36 + 22 * d + 4 * s)) hd hd' hs hs' hi (by omega) q (by omega)
  refine ⟨⟨fun d' hd' s' hs' => ?_, fun d' hd' s' hs' => ?_, g3.cg fun n _ hn => lo n hn, g4.cg fun d' hd' => hf 0 d' (by omega) hd', g5.cg fun j hj => lo _ (by omega), g6.cg fun d' hd' => hf 1 d' (by omega) hd', g7.cg fun n _ hn => lo n (by omega), g8.cg fun n hn => lo n (by omega)⟩, o, w, a, g9.cg fun d' hd' => ⟨hf 2 d' (by omega) hd', hf 4 d' (by omega) hd'⟩, (lo 4 (by omega)).trans g10, g11⟩
  · by_cases q : d' = d ∧ s' = s
    · rw [q.1, q.2]
      exact h1
    · exact (g1 d' hd' s' hs').cg fun i hi => sl d' s' i hd' hs' hi q
  · by_cases q : d' = d ∧ s' = s
    · rw [q.1, q.2]
      exact h2
    · intro h0 i i0 i4
      rw [sl d' s' i hd' hs' i4 q]
      exact g2 d' hd' s' hs' ((sl d' s' 0 hd' hs' (by omega) q).symm.trans h0) i i0 i4
theorem CV.lrn {x : Mem} {d s j mm B : Nat} (h : CV (x 0) mm B) (hd : d < 3) (hs : s < 4) (hj : j < 4) : CV (lrnS x 0 d s 0 j 0) mm B := by
  obtain ⟨a, b, ha, hb, e1, e2⟩ := h.1.2.2.1 j hj
  refine h.slt hd hs (fun n hn => ?_) (Or.inr ⟨?_, a, b, ha, hb, ?_, ?_, Or.inl ?_⟩) (fun q => absurd q ?_) <;> unfold lrnS
  · rw [up_n _ _ (by omega), up_n _ _ (by omega), up_n _ _ (by omega), up_n _ _ (by omega)]
  · rw [up_n _ _ (by omega), up_n _ _ (by omega), up_n _ _ (by omega), up_s]
  · rw [up_n _ _ (by omega), up_n _ _ (by omega), up_s]
    exact e1
  · rw [up_n _ _ (by omega), up_s]
    exact e2
  · exact up_s _ _ _ _
  · rw [up_n _ _ (by omega), up_n _ _ (by omega), up_n _ _ (by omega), up_s]
    decide
theorem CV.emp {x : Mem} {d s mm B : Nat} (h : CV (x 0) mm B) (hd : d < 3) (hs : s < 4) : CV (empS x 0 d s 0) mm B := by
  refine h.slt hd hs (fun n hn => ?_) (Or.inl ?_) (fun _ i i0 i4 => ?_) <;> unfold empS
  · rw [up_n _ _ (by omega), up_n _ _ (by omega), up_n _ _ (by omega), up_n _ _ (by omega)]
  · rw [up_n _ _ (by omega), up_n _ _ (by omega), up_n _ _ (by omega), up_s]
  · rcases (show i = 1 ∨ i = 2 ∨ i = 3 by omega) with rfl | rfl | rfl
    · rw [up_n _ _ (by omega), up_n _ _ (by omega), show 36 + 22 * d + 4 * s + 1 = 37 + 22 * d + 4 * s by omega, up_s]
    · rw [up_n _ _ (by omega), show 36 + 22 * d + 4 * s + 2 = 38 + 22 * d + 4 * s by omega, up_s]
    · rw [show 36 + 22 * d + 4 * s + 3 = 39 + 22 * d + 4 * s by omega, up_s]
end
section
/-! ===== what always holds of the memory ===== -/
theorem nEq {c n : Nat} {nn : Int32} (hn : nn = nI n) (hc : c < 2 ^ 20) (h2 : n < 2 ^ 20) : nI c = nn ↔ c = n := by rw [hn]; exact nI_eq (by omega) (by omega)
theorem nLt {c n : Nat} {nn : Int32} (hn : nn = nI n) (hc : c < 2 ^ 20) (h2 : n < 2 ^ 20) : nI c < nn ↔ c < n := by rw [hn]; exact nI_ltI (by omega) (by omega)
theorem nGt {c n : Nat} {nn : Int32} (hn : nn = nI n) (hc : c < 2 ^ 20) (h2 : n < 2 ^ 20) : nn < nI c ↔ n < c := by rw [hn]; exact nI_ltI (by omega) (by omega)
theorem nGe {c n : Nat} {nn : Int32} (hn : nn = nI n) (hc : c < 2 ^ 20) (h2 : n < 2 ^ 20) : nn ≤ nI c ↔ n ≤ c := by rw [hn]; exact nI_leI (by omega) (by omega)
def NX (a : Mem) (B nq kq : Nat) : Prop := ∃ w : Nat, w ≤ B ∧ kq ≤ w ∧ w % 6 = nq ∧ a 8 0 = nI w
theorem kp_in {x : Mem} {nq n : Nat} (h6 : nq < 6) (hn : n < 96) : kpM x nq (nq + 1) n = x 0 n := by
  unfold kpM
  rw [up_b _ _ _ (by omega), up_b _ _ _ (by omega), cpS_in (by omega) (by omega)]
  exact congrArg (x 0) (by omega)
theorem NX.keep {x : Mem} {B nq kq : Nat} (h : NX x B nq kq) : NX (kpM x nq) (B + 1) ((nq + 1) % 6) (if kq = 6 then 6 else kq + 1) := by
  obtain ⟨w, h1, h2, h3, h4⟩ := h
  refine ⟨w + 1, by omega, by split <;> omega, by omega, ?_⟩
  unfold kpM
  rw [up_n _ _ (by omega), up_s, h4]
  exact nI_1 w
theorem NX.nxt {x : Mem} {B nq kq : Nat} (h : NX x B nq kq) (hB : 3 * B < 2 ^ 20) : NXT x nq kq := by
  obtain ⟨w, h1, h2, h3, h4⟩ := h
  exact ⟨w, by omega, h2, h3, h4⟩
theorem NXT.lo {x : Mem} {nq a b : Nat} (h : NXT x nq a) (hb : b ≤ a) : NXT x nq b := by
  obtain ⟨w, h1, h2, h3, h4⟩ := h
  exact ⟨w, h1, by omega, h3, h4⟩
theorem NX.fr {x y : Mem} {B B' nq kq : Nat} (h : NX x B nq kq) (hB : B ≤ B') (e : y 8 0 = x 8 0) : NX y B' nq kq := by
  obtain ⟨w, h1, h2, h3, h4⟩ := h
  exact ⟨w, by omega, h2, h3, e.trans h4⟩
theorem kp_81 {x : Mem} {nq kq : Nat} (hk : kq ≤ 6) (h : x 8 1 = nI kq) : kpM x nq 8 1 = nI (if kq = 6 then 6 else kq + 1) := by
  unfold kpM
  rw [up_s, h, show nI kq + 1 = nI (kq + 1) from nI_1 kq]
  by_cases q : kq = 6
  · rw [q]
    rfl
  · rw [if_neg (fun w => absurd ((nGt (nn := 6) (n := 6) rfl (by omega) (by omega)).mp w) (by omega)), if_neg q]
theorem kp_b0 {x : Mem} {nq : Nat} : kpM x nq 0 = x 0 := funext fun n => kpM_0
def I29 (x : Mem) (B : Nat) : Prop := (∃ mm, CV (x 0) mm B) ∧ (∀ k, 1 ≤ k → k < 7 → ∃ mm, CV (x k) mm B) ∧ ∃ nq kq, nq < 6 ∧ kq ≤ 6 ∧ NX x B nq kq ∧ x 8 1 = nI kq
theorem I29.le {x : Mem} {B B' : Nat} (h : I29 x B) (hB : B ≤ B') : I29 x B' := by
  obtain ⟨⟨mm, h1⟩, h2, nq, kq, h3, h4, h5, h6⟩ := h
  refine ⟨⟨mm, h1.le hB⟩, fun k k1 k2 => ?_, nq, kq, h3, h4, h5.fr hB rfl, h6⟩
  obtain ⟨m, hm⟩ := h2 k k1 k2
  exact ⟨m, hm.le hB⟩
theorem I29.e7 {x y : Mem} {B : Nat} (h : I29 x B) (e : E7 x y) : I29 y B := by
  obtain ⟨⟨mm, h1⟩, h2, nq, kq, h3, h4, h5, h6⟩ := h
  refine ⟨⟨mm, by rw [e 0 (by omega)]; exact h1⟩, fun k k1 k2 => ?_, nq, kq, h3, h4, h5.fr (Nat.le_refl _) (by rw [e 8 (by omega)]), by rw [e 8 (by omega)]; exact h6⟩
  rw [e k (by omega)]
  exact h2 k k1 k2
theorem I29.flg {x : Mem} {B : Nat} (h : I29 x B) : ∀ b, b < 7 → FLG x b := fun b hb => by
  obtain ⟨⟨mm, h1⟩, h2, -⟩ := h
  by_cases q : b = 0
  · rw [q]
    exact h1.flg
  · obtain ⟨m, hm⟩ := h2 b (by omega) hb
    exact hm.flg
theorem I29.step {x y : Mem} {B B' nq kq : Nat} (h : I29 x B) (h6 : nq < 6) (hk : kq ≤ 6) (hn : NX x B nq kq) (h8 : x 8 1 = nI kq) (hB : B + 1 ≤ B') (hy : ∀ k, k ≠ 0 → y k = kpM x nq k) (hc : ∃ mm, CV (y 0) mm B') : I29 y B' := by
  obtain ⟨⟨mm, h1⟩, h2, -⟩ := h
  refine ⟨hc, fun k k1 k2 => ?_, (nq + 1) % 6, if kq = 6 then 6 else kq + 1, by omega, by split <;> omega, hn.keep.fr hB (by rw [hy 8 (by omega)]), ?_⟩
  · rw [hy k (by omega)]
    by_cases q : k = nq + 1
    · rw [q]
      exact ⟨mm, (h1.le (by omega)).cg fun n hn => kp_in h6 hn⟩
    · obtain ⟨m, hm⟩ := h2 k k1 k2
      exact ⟨m, (hm.le (by omega)).cg fun n _ => kpM_9 q (by omega)⟩
  · rw [hy 8 (by omega)]
    exact kp_81 hk h8
theorem I29.undo {x y : Mem} {B nq kq : Nat} (h : I29 x B) (h6 : nq < 6) (hk : kq + 1 ≤ 6) (hn : NX x B nq (kq + 1)) (h8 : x 8 1 = nI (kq + 1)) (hy : y = rsM x nq) : I29 y B := by
  obtain ⟨-, h2, -⟩ := h
  have hb : ∀ k, k ≠ 0 → k ≠ 8 → y k = x k := fun k k0 k8 => by
    rw [hy]
    funext n
    unfold rsM
    rw [cpS_b k0, up_b _ _ _ k8, up_b _ _ _ k8]
  have h0 : ∀ n, n < 96 → y 0 n = x ((nq + 5) % 6 + 1) n := fun n hn => by
    rw [hy]
    unfold rsM
    rw [cpS_in (by omega) (by omega), up_b _ _ _ (by omega), up_b _ _ _ (by omega)]
    exact congrArg (x _) (by omega)
  have h80 : NX y B ((nq + 5) % 6) kq := by
    obtain ⟨w, w1, w2, w3, w4⟩ := hn
    refine ⟨w - 1, by omega, by omega, by omega, ?_⟩
    rw [hy]
    unfold rsM
    rw [cpS_b (by omega), up_n _ _ (by omega), up_s, w4]
    exact pk_sub (a := w) (b := 1) (by omega)
  have h81 : y 8 1 = nI kq := by
    rw [hy]
    unfold rsM
    rw [cpS_b (by omega), up_s, h8]
    exact pk_sub (a := kq + 1) (b := 1) (by omega)
  obtain ⟨m, hm⟩ := h2 ((nq + 5) % 6 + 1) (by omega) (by omega)
  refine ⟨⟨m, hm.cg h0⟩, fun k k1 k2 => ?_, (nq + 5) % 6, kq, by omega, by omega, h80, h81⟩
  rw [hb k (by omega) (by omega)]
  exact h2 k k1 k2
theorem k_cv {x : Mem} {nq mm B : Nat} (h : CV (x 0) mm B) : CV (kpM x nq 0) mm B := by rw [kp_b0]; exact h
/-! ===== what a turn's doing leaves ===== -/
def lo (a : Int32) (n : Nat) : Nat := (a &&& 2147483647).toNatClampNeg % n
theorem lo_lt {a : Int32} {n : Nat} (h : 0 < n) : lo a n < n := Nat.mod_lt _ h
def ACT (x : Mem) (mm nr q : Nat) (a b : Int32) (B : Nat) (r : Int32) (y : Mem) : Prop :=
  I29 y (B + 4) ∧ (r < 0 → y = x) ∧
  (11 ≤ q → q ≤ 16 → (x 0 (16 + 4 * lo a 4) ≤ 0 → r = -3) ∧ (¬ x 0 (16 + 4 * lo a 4) ≤ 0 → r = dueS x (nxtN x 0 (lo a 4)) (nI (lo b 8)) mm 3 ∧ y 0 (16 + 4 * lo a 4) = x 0 (16 + 4 * lo a 4) - 1 ∧ numA y 0 0 = nxtN x 0 (lo a 4))) ∧
  (q = 17 ∨ q = 18 → r = if lo a 8 < nr then dueS x (x 0 (6 + lo a 8)) (nI (lo b 8)) mm 3 else -1) ∧
  (q = 6 → y 0 (31 + 22 * lo b 3) = 0)
theorem ACT.pl {x y : Mem} {mm nr q B : Nat} {a b r : Int32} (hI : I29 y (B + 4)) (h0 : ¬ r < 0) (h1 : ¬ (11 ≤ q ∧ q ≤ 16)) (h2 : ¬ (q = 17 ∨ q = 18)) (h3 : q ≠ 6) : ACT x mm nr q a b B r y :=
  ⟨hI, fun z => absurd z h0, fun z1 z2 => absurd ⟨z1, z2⟩ h1, fun z => absurd z h2, fun z => absurd z h3⟩
theorem nn_nI {n : Nat} (h : n < 2 ^ 31) : ¬ nI n < 0 := fun q => absurd ((nI_ltI (a := n) (b := 0) h (by omega)).mp q) (by omega)
theorem b2_nn {v : Int32} : ¬ b2 v < 0 := by
  unfold b2
  split <;> decide
theorem ls0 (x : Mem) (k d s : Nat) : lookSlot x k d s 0 = nI (if x k (36 + 22 * d + 4 * s) = 0 then 0 else 1) := by
  unfold lookSlot
  rw [if_pos rfl]
  split <;> rfl
theorem lrn_n (x : Mem) (d : Nat) : ∃ n : Nat, n ≤ 4 ∧ lrnD x 0 d = nI n ∧ ((∃ s, s < 4 ∧ x 0 (36 + 22 * d + 4 * s) ≠ 0) → 0 < n) := by
  have e : lrnD x 0 d = nI (0 + (if x 0 (36 + 22 * d + 4 * 0) = 0 then 0 else 1) + (if x 0 (36 + 22 * d + 4 * 1) = 0 then 0 else 1) + (if x 0 (36 + 22 * d + 4 * 2) = 0 then 0 else 1) + (if x 0 (36 + 22 * d + 4 * 3) = 0 then 0 else 1)) := by
    unfold lrnD
    rw [ls0, ls0, ls0, ls0, show (0 : Int32) = nI 0 from rfl, nI_add, nI_add, nI_add, nI_add]
  have b : ∀ v : Int32, (if v = 0 then 0 else 1) ≤ 1 := fun v => by split <;> omega
  have b0 := b (x 0 (36 + 22 * d + 4 * 0))
  have b1 := b (x 0 (36 + 22 * d + 4 * 1))
  have b2 := b (x 0 (36 + 22 * d + 4 * 2))
  have b3 := b (x 0 (36 + 22 * d + 4 * 3))
  refine ⟨_, by omega, e, fun hs => ?_⟩
  obtain ⟨s, hs4, hne⟩ := hs
  rcases (show s = 0 ∨ s = 1 ∨ s = 2 ∨ s = 3 by omega) with rfl | rfl | rfl | rfl <;> rw [if_neg hne] <;> omega
theorem dor3 {x : Mem} {nq : Nat} {y : Mem} {d s v : Nat} (hy : y = lrnS (kpM x nq) 0 d s 0 v) : ∀ k, k ≠ 0 → y k = kpM x nq k := fun k hk => by
  rw [hy]
  funext n
  unfold lrnS
  rw [up_b _ _ _ hk, up_b _ _ _ hk, up_b _ _ _ hk, up_b _ _ _ hk]
section ACTS
variable {x y : Mem} {mm nr q B nq kq : Nat} {a b r : Int32}
theorem a_learn {d s j : Nat} (h : I29 x B) (hc : CV (x 0) mm B) (h6 : nq < 6) (hk : kq ≤ 6) (hn : NX x B nq kq) (h8 : x 8 1 = nI kq) (hd : d < 3) (hs : s < 4) (hj : j < 4) (hq : q < 4) (hp : r = lrnD (lrnS (kpM x nq) 0 d s 0 j) 0 d ∧ y = lrnS (kpM x nq) 0 d s 0 j) : ACT x mm nr q a b B r y := by
  obtain ⟨hr, hy⟩ := hp
  refine ACT.pl (h.step h6 hk hn h8 (by omega) (dor3 hy) ⟨mm, ?_⟩) ?_ (by omega) (by omega) (by omega)
  · rw [hy]
    exact ((k_cv hc).lrn hd hs hj).le (by omega)
  · obtain ⟨n, h1, h2, -⟩ := lrn_n (lrnS (kpM x nq) 0 d s 0 j) d
    rw [hr, h2]
    exact nn_nI (by omega)
theorem a_forget {d s : Nat} (h : I29 x B) (hc : CV (x 0) mm B) (h6 : nq < 6) (hk : kq ≤ 6) (hn : NX x B nq kq) (h8 : x 8 1 = nI kq) (hd : d < 3) (hs : s < 4) (hq : q = 4) (hp : r = b2 (x 0 (36 + 22 * d + 4 * s)) ∧ y = empS (kpM x nq) 0 d s) : ACT x mm nr q a b B r y := by
  obtain ⟨hr, hy⟩ := hp
  refine ACT.pl (h.step h6 hk hn h8 (by omega) (fun k hk => ?_) ⟨mm, ?_⟩) (by rw [hr]; exact b2_nn) (by omega) (by omega) (by omega)
  · rw [hy]
    funext n
    unfold empS
    rw [up_b _ _ _ hk, up_b _ _ _ hk, up_b _ _ _ hk, up_b _ _ _ hk]
  · rw [hy]
    exact ((k_cv hc).emp hd hs).le (by omega)
theorem a_shut {d : Nat} (h : I29 x B) (hc : CV (x 0) mm B) (h6 : nq < 6) (hk : kq ≤ 6) (hn : NX x B nq kq) (h8 : x 8 1 = nI kq) (hd : d < 3) (hq : q = 5) (hp : r = b2 (x 0 (30 + 22 * d)) ∧ y = up (kpM x nq) 0 (30 + 22 * d) 0) : ACT x mm nr q a b B r y := by
  obtain ⟨hr, hy⟩ := hp
  refine ACT.pl (h.step h6 hk hn h8 (by omega) (fun k hk => ?_) ⟨mm, ?_⟩) (by rw [hr]; exact b2_nn) (by omega) (by omega) (by omega)
  · rw [hy]
    exact funext fun n => up_b _ _ _ hk
  · rw [hy]
    exact ((k_cv hc).shut hd).le (by omega)
theorem a_unlock (h : I29 x B) (hc : CV (x 0) mm B) (h6 : nq < 6) (hk : kq ≤ 6) (hn : NX x B nq kq) (h8 : x 8 1 = nI kq) (hB : B < 2 ^ 30) (hq : q = 6) (hp : r = x 0 (31 + 22 * lo b 3) ∧ y = up (kpM x nq) 0 (31 + 22 * lo b 3) 0) : ACT x mm nr q a b B r y := by
  obtain ⟨hr, hy⟩ := hp
  have hd : lo b 3 < 3 := lo_lt (by omega)
  refine ⟨h.step h6 hk hn h8 (by omega) (fun k hk => ?_) ⟨mm, ?_⟩, fun z => absurd z ?_, by omega, by omega, fun _ => by rw [hy]; exact up_s _ _ _ _⟩
  · rw [hy]
    exact funext fun n => up_b _ _ _ hk
  · rw [hy]
    exact ((k_cv hc).unl hd).le (by omega)
  · obtain ⟨w, h1, h2⟩ := hc.1.2.2.2.2.2.1 _ hd
    rw [hr, h2]
    exact nn_nI (by omega)
theorem a_make {j u v : Nat} (h : I29 x B) (hc : CV (x 0) mm B) (h6 : nq < 6) (hk : kq ≤ 6) (hn : NX x B nq kq) (h8 : x 8 1 = nI kq) (hj : j < 4) (hu : u < 10000) (hv : v < 10000) (hq : q = 7) (hp : r = x 0 (15 + 4 * j) ∧ y = up (up (kpM x nq) 0 (14 + 4 * j) (nI u)) 0 (15 + 4 * j) (nI v)) : ACT x mm nr q a b B r y := by
  obtain ⟨hr, hy⟩ := hp
  refine ACT.pl (h.step h6 hk hn h8 (by omega) (fun k hk => ?_) ⟨mm, ?_⟩) ?_ (by omega) (by omega) (by omega)
  · rw [hy]
    funext n
    rw [up_b _ _ _ hk, up_b _ _ _ hk]
  · rw [hy]
    exact ((k_cv hc).mak hj hu hv).le (by omega)
  · obtain ⟨a', b', h1, h2, h3, h4⟩ := hc.1.2.2.1 j hj
    rw [hr, h4]
    exact nn_nI (by omega)
theorem a_battery {j u : Nat} (h : I29 x B) (hc : CV (x 0) mm B) (h6 : nq < 6) (hk : kq ≤ 6) (hn : NX x B nq kq) (h8 : x 8 1 = nI kq) (hj : j < 4) (hu : u ≤ 999) (hq : q = 8) (hp : r = x 0 (16 + 4 * j) ∧ y = up (kpM x nq) 0 (16 + 4 * j) (nI u)) : ACT x mm nr q a b B r y := by
  obtain ⟨hr, hy⟩ := hp
  refine ACT.pl (h.step h6 hk hn h8 (by omega) (fun k hk => ?_) ⟨mm, ?_⟩) ?_ (by omega) (by omega) (by omega)
  · rw [hy]
    exact funext fun n => up_b _ _ _ hk
  · rw [hy]
    exact ((k_cv hc).bat hj hu).le (by omega)
  · obtain ⟨nb, h1, h2⟩ := hc.1.2.2.2.2.1 j hj
    rw [hr, h2]
    exact nn_nI (by omega)
theorem val_nn {n : Nat} (hc : CV (x 0) mm B) (hn : n < 3) : ¬ valS x 0 (nI n) < 0 := by
  obtain ⟨s1, s2, ⟨p, s3, s4⟩, w, s5, s6⟩ := hc.1.2.2.2.2.2.2.2
  rcases (show n = 0 ∨ n = 1 ∨ n = 2 by omega) with rfl | rfl | rfl
  · rw [show valS x 0 (nI 0) = x 0 0 from rfl, s4]
    exact nn_nI (by omega)
  · rw [show valS x 0 (nI 1) = x 0 1 from rfl, s1]
    exact nn_nI (by omega)
  · rw [show valS x 0 (nI 2) = x 0 2 from rfl, s6]
    exact nn_nI (by omega)
theorem chg_n (z : Mem) {n : Nat} {v : Int32} (hn : n < 3) : chgS z 0 (nI n) v = up z 0 n v := by
  rcases (show n = 0 ∨ n = 1 ∨ n = 2 by omega) with rfl | rfl | rfl <;> rfl
theorem a_set {n u : Nat} (h : I29 x B) (hc : CV (x 0) mm B) (h6 : nq < 6) (hk : kq ≤ 6) (hn : NX x B nq kq) (h8 : x 8 1 = nI kq) (hu : (n = 0 ∧ u ≤ 64) ∨ (n = 1 ∧ u ≤ 500) ∨ (n = 2 ∧ u ≤ 20)) (hq : q = 9 ∨ q = 10) (hp : r = valS x 0 (nI n) ∧ y = chgS (kpM x nq) 0 (nI n) (nI u)) : ACT x mm nr q a b B r y := by
  obtain ⟨hr, hy⟩ := hp
  have hn3 : n < 3 := by omega
  rw [chg_n _ hn3] at hy
  refine ACT.pl (h.step h6 hk hn h8 (by omega) (fun k hk => ?_) ⟨if n = 1 then u else mm, ?_⟩) (by rw [hr]; exact val_nn hc hn3) (by omega) (by omega) (by omega)
  · rw [hy]
    exact funext fun n => up_b _ _ _ hk
  · rw [hy]
    refine ((k_cv hc).set ?_).le (by omega)
    rcases hu with ⟨rfl, hu⟩ | ⟨rfl, hu⟩ | ⟨rfl, hu⟩
    · exact Or.inl ⟨rfl, hu, if_neg (by omega)⟩
    · exact Or.inr (Or.inl ⟨rfl, hu, if_pos rfl⟩)
    · exact Or.inr (Or.inr ⟨rfl, hu, if_neg (by omega)⟩)
theorem due_nn {num msk : Int32} (z : Mem) (h : (sendS z 0 msk num mm 3).1 = r) : ¬ r < 0 := by
  obtain ⟨w, h1, h2⟩ := send_8 (x := z) (k := 0) (msk := msk) (num := num) (mm := mm)
  rw [← h, h2]
  exact nn_nI (by omega)
theorem a_press (h : I29 x B) (hc : CV (x 0) mm B) (h6 : nq < 6) (hk : kq ≤ 6) (hn : NX x B nq kq) (h8 : x 8 1 = nI kq) (hq : 11 ≤ q ∧ q ≤ 16) (hb : ¬ x 0 (16 + 4 * lo a 4) ≤ 0) (hp : r = (prsS (kpM x nq) 0 (lo a 4) (nI (lo b 8)) mm).1 ∧ y = (prsS (kpM x nq) 0 (lo a 4) (nI (lo b 8)) mm).2) : ACT x mm nr q a b B r y := by
  obtain ⟨hr, hy⟩ := hp
  have hj : lo a 4 < 4 := lo_lt (by omega)
  have hx0 : kpM x nq 0 = x 0 := kp_b0
  have hnx : nxtN (kpM x nq) 0 (lo a 4) = nxtN x 0 (lo a 4) := by
    unfold nxtN
    rw [hx0]
  have hr2 : r = dueS x (nxtN x 0 (lo a 4)) (nI (lo b 8)) mm 3 := by
    rw [hr]
    unfold prsS
    rw [hnx]
    refine snd_due ?_ ?_ (fun n n1 _ => ?_) 3 (by omega)
    · rw [rs_lo (by omega), hx0]
    · rw [rs_lo (by omega), hx0]
    · rw [rs_hi hj n1, hx0]
  refine ⟨h.step h6 hk hn h8 (by omega) (fun k hk => ?_) ⟨mm, ?_⟩, fun z => absurd z (due_nn _ hr.symm), fun _ _ => ⟨fun z => absurd z hb, fun _ => ⟨hr2, ?_, ?_⟩⟩, by omega, by omega⟩
  · rw [hy]
    exact funext fun n => prsS_b hk
  · rw [hy]
    exact ((k_cv hc).prs hj (by rw [hx0]; exact hb)).le (by omega)
  · rw [hy]
    unfold prsS
    rw [sendS_lo (by omega)]
    refine (rs_f (i := 2) hj (by omega)).trans ?_
    rw [if_neg (by omega), if_pos rfl, hx0]
  · obtain ⟨w, w1, w2⟩ : ∃ w : Nat, 0 < w ∧ (w ≤ 8 ∧ y 0 5 = nI w) := by
      obtain ⟨nr', h1, h2, -⟩ := hc.1.2.2.2.2.2.2.1
      refine ⟨if nr' + 1 ≤ 8 then nr' + 1 else 8, by split <;> omega, by split <;> omega, ?_⟩
      rw [hy]
      unfold prsS
      rw [sendS_lo (by omega)]
      unfold recF
      rw [up_s, sndF_lo (by omega), hx0, h2, nI_1]
      by_cases h9 : nr' + 1 ≤ 8
      · rw [if_pos h9]
        exact if_neg (fun q => absurd ((nI_ltI (a := 8) (b := nr' + 1) (by omega) (by omega)).mp q) (by omega))
      · rw [if_neg h9]
        exact if_pos ((nI_ltI (a := 8) (b := nr' + 1) (by omega) (by omega)).mpr (by omega))
    rw [show (0 : Int32) = nI 0 from rfl, num_n w1 w2.1 w2.2, hy]
    unfold prsS
    rw [sendS_lo (by omega)]
    unfold recF
    rw [up_n _ _ (by omega), up_s]
    exact hnx
theorem a_press0 (h : I29 x B) (hq : 11 ≤ q ∧ q ≤ 16) (hb : x 0 (16 + 4 * lo a 4) ≤ 0) (hp : r = -3 ∧ y = x) : ACT x mm nr q a b B r y := by
  obtain ⟨hr, hy⟩ := hp
  subst hy
  exact ⟨h.le (by omega), fun _ => rfl, fun _ _ => ⟨fun _ => hr, fun z => absurd hb z⟩, by omega, by omega⟩
theorem a_again (h : I29 x B) (hc : CV (x 0) mm B) (h6 : nq < 6) (hk : kq ≤ 6) (hn : NX x B nq kq) (h8 : x 8 1 = nI kq) (hr8 : nr ≤ 8) (hnr : x 0 5 = nI nr) (hq : q = 17 ∨ q = 18) (hi : lo a 8 < nr) (hp : r = (agnS (kpM x nq) (lo a 8) (nI (lo b 8)) mm).1 ∧ y = (agnS (kpM x nq) (lo a 8) (nI (lo b 8)) mm).2) : ACT x mm nr q a b B r y := by
  obtain ⟨hr, hy⟩ := hp
  have hx0 : kpM x nq 0 = x 0 := kp_b0
  have hr2 : r = dueS x (x 0 (6 + lo a 8)) (nI (lo b 8)) mm 3 := by
    rw [hr]
    unfold agnS
    have en : numA (up (kpM x nq) 0 3 (kpM x nq 0 3 + 1)) 0 (nI (lo a 8)) = x 0 (6 + lo a 8) := by
      rw [num_n hi hr8 (by rw [up_n _ _ (by omega), hx0]; exact hnr), up_n _ _ (by omega), hx0]
    rw [en]
    refine snd_due ?_ ?_ (fun n n1 _ => ?_) 3 (by omega)
    · rw [up_n _ _ (by omega), hx0]
    · rw [up_n _ _ (by omega), hx0]
    · rw [up_n _ _ (by omega), hx0]
  refine ⟨h.step h6 hk hn h8 (by omega) (fun k hk => ?_) ⟨mm, ?_⟩, fun z => absurd z (due_nn _ hr.symm), by omega, fun _ => by rw [if_pos hi]; exact hr2, by omega⟩
  · rw [hy]
    exact funext fun n => agnS_b hk
  · rw [hy]
    exact ((k_cv hc).agn).le (by omega)
theorem a_again0 (h : I29 x B) (hq : q = 17 ∨ q = 18) (hi : ¬ lo a 8 < nr) (hp : r = -1 ∧ y = x) : ACT x mm nr q a b B r y := by
  obtain ⟨hr, hy⟩ := hp
  subst hy
  exact ⟨h.le (by omega), fun _ => rfl, by omega, fun _ => by rw [if_neg hi]; exact hr, by omega⟩
theorem a_undo (h : I29 x B) (h6 : nq < 6) (hk : kq + 1 ≤ 6) (hn : NX x B nq (kq + 1)) (h8 : x 8 1 = nI (kq + 1)) (hq : q = 19) (hp : r = nI (kq + 1 - 1) ∧ y = rsM x nq) : ACT x mm nr q a b B r y := by
  obtain ⟨hr, hy⟩ := hp
  exact ACT.pl ((h.undo h6 hk hn h8 hy).le (by omega)) (by rw [hr]; exact nn_nI (by omega)) (by omega) (by omega) (by omega)
theorem a_undo0 (h : I29 x B) (hq : q = 19) (hp : r = -3 ∧ y = x) : ACT x mm nr q a b B r y := by
  obtain ⟨hr, hy⟩ := hp
  subst hy
  exact ⟨h.le (by omega), fun _ => rfl, by omega, by omega, by omega⟩
end ACTS
end
section
/-! ===== methods that throw ===== -/
def xnI : List String := ["java/lang/RuntimeException", "java/lang/Exception"]
def badL : List Cond := [.declares (Bundle.init0 "java/lang/RuntimeException"), .declares (Bundle.init0 "java/lang/Exception"), .declares (Bundle.init0 Bundle.tN), .castable "java/lang/IndexOutOfBoundsException" "java/lang/IndexOutOfBoundsException", .castable "java/lang/IllegalArgumentException" "java/lang/IllegalArgumentException", .castable "java/lang/IllegalStateException" "java/lang/IllegalStateException"]
theorem bad_f : ∀ w ∈ badL, w.faceAtom = true ∧ w.onTables = true := by decide +kernel
theorem bad_t : ∀ w ∈ badL, w ∈ lw_tbl := by decide +kernel
/-- what a throw needs to know of the machine -/
def XW (U : State) : Prop := ∀ w ∈ badL, ∀ a : Array Value, w.before a U = true
theorem XW.moved {u U : State} (hvm : u.vm.Alike U.vm) (h : XW u) : XW U := fun w hw a => va_tabs (u := u.setVm U.vm) (U := U) (A := #[]) (A' := a) (bad_f w hw).2 rfl (Cond.faceAtom_setVm (args := #[]) hvm w (bad_f w hw).1 (h w hw #[]))
def SF (ad : Ads) (sz : Nat) (U : State) : Prop := vx_Zq Bundle.tN "UNASSIGNED_STACK" Bundle.steD (AA ad sz) U U.heap ∧ vx_Zq Bundle.tN "SUPPRESSED_SENTINEL" Bundle.listD (AA ad sz) U U.heap
theorem AA_mono {ad : Ads} {a b : Nat} (h : a ≤ b) : ∀ q, AA ad b q → AA ad a q := fun q hq => hq.elim Or.inl (fun z => Or.inr (Nat.le_trans h z))
/-- the same, some steps later -/
theorem SF.at {ad : Ads} {s U : State} {H : Heap} {locs : List Loc} (h : SF ad s.heap.size s) (hvm : s.vm.Alike U.vm) (hU : U.heap = H) (hS : va_S (AA ad s.heap.size) s.heap H locs) : SF ad H.size U := by
  subst hU
  exact ⟨((h.1.kept hS.2.1).moved hvm).narrow (AA_mono hS.1), ((h.2.kept hS.2.1).moved hvm).narrow (AA_mono hS.1)⟩
/-- a contract: this exception, and no other, leaves the method; nothing else changes -/
def Ctx (l : Launch) (y : MethodName) (cc : ByteArray) (nL : Nat) (ret : Option FieldType) (rm : Room) (D : va_G) (cy : Nat → ClassId) (ad : Ads) (As : List Value) (x : Mem) (E : String) : Prop :=
  ∀ sz, vx_Met l y (.code y cc nL ret :: TB) rm (va_Pc As (fun U => U.heap.size = sz ∧ va_P D vwCl (wl cy ad x) U.heap ∧ va_K D vwCl (tys cy) U ∧ NW U ∧ XW U ∧ SF ad sz U)) (va_Qv (fun (_ : Mem) => False) (fun z t => va_P D vwCl (wl cy ad z) t.heap) (AA ad sz)) (vx_X (fun (_ : Unit) => True) (fun E' _ t => E' = E ∧ va_P D vwCl (wl cy ad x) t.heap) (AA ad sz)) 1 6 (AA ad sz)
/-- what a walk that throws ends in -/
def QX (D : va_G) (cy : Nat → ClassId) (ad : Ads) (x : Mem) (E : String) (below : List Frame) (args : Array Value) (s : State) : State → Prop :=
  vx_MQ below (va_Qv (fun (_ : Mem) => False) (fun z t => va_P D vwCl (wl cy ad z) t.heap) (AA ad s.heap.size)) (vx_X (fun (_ : Unit) => True) (fun E' _ t => E' = E ∧ va_P D vwCl (wl cy ad x) t.heap) (AA ad s.heap.size)) args s 1 6 (AA ad s.heap.size)
/-- what stands beside CX in a method that throws -/
def XX (c : Code) (ad : Ads) (s : State) : Prop := (∀ x ∈ c.exceptionTable.toList, False) ∧ XW s ∧ SF ad s.heap.size s
theorem rm_entryX {l : Launch} {y : MethodName} {cc : ByteArray} {nL : Nat} {ret : Option FieldType} {rm : Room} {D : va_G} {cy : Nat → ClassId} {ad : Ads} {As : List Value} {x : Mem} {E : String} (hI : IJ ad) (hy : plainName y.cls = true) (hl : (lg_sl As).length ≤ nL)
    (body : ∀ p e s m args below meth c, CX p s m args meth c cc nL y.cls ret D cy ad → XX c ad s → RM p l e rm s m args below meth c nL (AA ad s.heap.size) (GG D cy ad x) 0 0 (QX D cy ad x E below args s) 0 (lv_args 0 As) []) : Ctx l y cc nL ret rm D cy ad As x E := by
  intro sz
  refine vx_ofW (cc := cc) (maxL := nL) (ret := ret) hy rfl ?_
  intro p e s m args below meth c s₁ B hml ht hv
  obtain ⟨rfl, hsz, hP, hK, hN, hX, hF⟩ := hv
  subst hsz
  have hts := atoms_spec (ws := .code y cc nL ret :: TB) B.pre
  have hc : CX p s m As.toArray meth c cc nL y.cls ret D cy ad := ⟨⟨B.exec, B.bytes, hml, findClass_of_methodNamed B.named, fun w h => hts w (List.mem_cons_of_mem _ h)⟩, B.returns, B.notSynchronized, hK, hI, hN⟩
  have h := body p e s m As.toArray below meth c hc ⟨ht, hX, hF⟩
  rw [lg_entry_eq]
  exact h s.heap [] _ hP va_S.rf (lv_entry As hl)
theorem GG_kept {D : va_G} {cy : Nat → ClassId} {ad : Ads} {x : Mem} {H H1 : Heap} (h : GG D cy ad x H) (hq : ∀ q : Nat, q < H.size → H1[q]? = H[q]?) : GG D cy ad x H1 := va_P.kept h (fun k q hk => hq _ (h k q hk).lt)
theorem rm_throw0 {p : Program} {l : Launch} {e : Env} {R : Room} {s : State} {m : MethodId} {args : Array Value} {below : List Frame} {meth : Method} {c : Code} {cc : ByteArray} {nL : Nat} {own : String} {ret : Option FieldType} {D : va_G} {cy : Nat → ClassId} {ad : Ads} {x : Mem} {pc : Nat} {ls : List (Nat × Value)} {st : List Value} {cls : String} {ik ic : Nat}
    (hc : CX p s m args meth c cc nL own ret D cy ad) (hX : XX c ad s) (hl : l.stackTraces = false) (hcls : Bundle.fit cls = true) (hk : Cond.classLink own ik cls ∈ TB ∧ Cond.initialized cls ∈ TB) (hat : ∀ w ∈ vx_at0 own ic cls xnI, w ∈ TB ∨ w ∈ badL) (hgood : ∀ w ∈ Cond.classLink own ik cls :: Cond.initialized cls :: vx_at0 own ic cls xnI, vx_ot w = true)
    (d0 : decode cc pc = .ok (.new ik, 3)) (d3 : decode cc (pc + 3) = .ok (.dup, 1)) (d4 : decode cc (pc + 4) = .ok (.invokespecial ic, 3)) (d7 : decode cc (pc + 7) = .ok (.athrow, 1))
    (h1 : 5 < R.frames) (h2 : (st.map fun v => v.category).sum + 81 ≤ R.locals) (h3 : 1 ≤ R.cells) (h4 : 6 ≤ R.slots) :
    RM p l e R s m args below meth c nL (AA ad s.heap.size) (GG D cy ad x) 0 0 (QX D cy ad x cls below args s) pc ls st := by
  intro H locs la hP hS hla
  have hnm : ∀ n ∈ xnI, Bundle.fit n = true := by decide +kernel
  refine vx_throw0 (names := xnI) (A := AA ad s.heap.size) hc.1.1 hc.1.2.1 hl hc.1.2.2.2.1 hcls hnm (hc.1.2.2.2.2 _ hk.1) (hc.1.2.2.2.2 _ hk.2) (fun w hw => (hat w hw).elim (fun h => hc.1.2.2.2.2 w h) (fun h => hX.2.1 w h _)) hgood hX.2.2.1 hX.2.2.2 hS (by rw [hla.1]; exact hc.1.2.2.1.symm) d0 d3 d4 d7 (fun z hz => (hX.1 z hz).elim) h1 h2 (by omega) (by omega) hc.2.2.1 (fun t ht hz hk => ?_) hS.2.2 (Nat.le_refl _) (Nat.le_refl _)
  refine ⟨(), trivial, ⟨rfl, GG_kept hP hk⟩, Nat.le_trans hS.1 hz, fun q h1 h2 => ?_⟩
  rw [hk q (Nat.lt_of_lt_of_le h1 hS.1)]
  exact hS.2.1 q h1 h2
/-- a static call of a method that throws: it goes on to the caller -/
theorem rm_thrS {p : Program} {l : Launch} {e : Env} {R : Room} {s : State} {m : MethodId} {args : Array Value} {below : List Frame} {meth : Method} {c : Code} {cc : ByteArray} {nL : Nat} {own : String} {ret : Option FieldType} {D : va_G} {cy : Nat → ClassId} {ad : Ads} {x : Mem} {pc : Nat} {ls : List (Nat × Value)} {st : List Value} {E : String}
    (hc : CX p s m args meth c cc nL own ret D cy ad) (hX : XX c ad s) {y0 : MethodName} {bytes : ByteArray} {maxL n : Nat} {rt : Option FieldType} {rm : Room} {index : Nat} {As rest : List Value} (hd : decode cc pc = .ok (.invokestatic index, 3)) (hC : Ctx l y0 bytes maxL rt rm D cy ad As x E) (hL : MS own index y0 bytes maxL rt n) (hn : As.length = n) (hst : st = As.reverse ++ rest) (hw : (rest.map fun v => v.category).sum ≤ 8) (hR : (rm.cells = 1 ∧ rm.slots = 6) ∧ rm.frames + 1 ≤ R.frames ∧ 8 + (maxL + 11) + rm.locals ≤ R.locals) (hnc : 1 ≤ R.cells ∧ 6 ≤ R.slots) :
    RM p l e R s m args below meth c nL (AA ad s.heap.size) (GG D cy ad x) 0 0 (QX D cy ad x E below args s) pc ls st := by
  intro H locs la hP hS hl
  subst hst
  have hF : ∀ q, AA ad H.size q → AA ad s.heap.size q := AA_mono hS.1
  refine vx_callv (vx_runS (As := As) (rest := rest) hc.1 (hC H.size) ⟨callB_of n hc.1.2.2.2.2 (goodTB hL.1.2.2.1) rfl hR.1.1 hR.1.2 (hc.1.2.2.2.2 _ hL.1.2.1) (hc.1.2.2.2.2 _ hL.1.1) hL.1.2.2.2 hR.2, hc.1.2.2.2.2 _ hL.2⟩ ⟨fun a U g mk q => by obtain ⟨q0, q1, qP, qK, qN, qX, qF⟩ := q; exact ⟨q0, q1, qP, va_K.moved (u := U) (U := U.calling g mk a) (Vm.Alike.refl U.vm) qK, NW.same (u := U) (U := U.calling g mk a) rfl qN, XW.moved (u := U) (U := U.calling g mk a) (Vm.Alike.refl U.vm) qX, ⟨vx_Zq.moved (u := U) (U := U.calling g mk a) (Vm.Alike.refl U.vm) qF.1, vx_Zq.moved (u := U) (U := U.calling g mk a) (Vm.Alike.refl U.vm) qF.2⟩⟩, fun U hU hW => ⟨rfl, by rw [hU], by rw [hU]; exact hP, va_K.moved hW.alike hc.2.2.2.1, hc.2.2.2.2.2.warm hW, hX.2.1.moved hW.alike, hX.2.2.at hW.alike hU hS⟩⟩ rfl hn hl.1 rfl (lv_room hw) hd ⟨by omega, by omega⟩) hS (fun q _ h => hF q h) hF (fun q _ h => hF q h) ?_ (fun u t H1 locs1 ht hvm hf => hf.elim)
  intro E' ce q9 u t H1 locs1 ht hvm hu hB hz hk hS1 hcell hv hcl
  obtain ⟨rfl, hB⟩ := hB
  refine vx_out (fun z hz => (hX.1 z hz).elim) hc.2.2.1 hcell hv hcl (fun t2 ht2 hvm2 => ⟨(), trivial, ⟨rfl, by rw [ht2, ← ht]; exact hB⟩, hS1.F ht2⟩) hS1.2.2 (Nat.le_refl _) (Nat.le_refl _)
end
section
theorem ckx_221 : Cond.classLink RX8 221 "java/lang/IndexOutOfBoundsException" ∈ TB ∧ Cond.initialized "java/lang/IndexOutOfBoundsException" ∈ TB := by decide +kernel
theorem ckx_224 : Cond.classLink RX8 224 "java/lang/IllegalArgumentException" ∈ TB ∧ Cond.initialized "java/lang/IllegalArgumentException" ∈ TB := by decide +kernel
theorem ckx_227 : Cond.classLink RX8 227 "java/lang/IllegalStateException" ∈ TB ∧ Cond.initialized "java/lang/IllegalStateException" ∈ TB := by decide +kernel
theorem atx_221 : ∀ w ∈ vx_at0 RX8 223 "java/lang/IndexOutOfBoundsException" xnI, w ∈ TB ∨ w ∈ badL := by decide +kernel
theorem atx_224 : ∀ w ∈ vx_at0 RX8 226 "java/lang/IllegalArgumentException" xnI, w ∈ TB ∨ w ∈ badL := by decide +kernel
theorem atx_227 : ∀ w ∈ vx_at0 RX8 229 "java/lang/IllegalStateException" xnI, w ∈ TB ∨ w ∈ badL := by decide +kernel
theorem gdx_221 : ∀ w ∈ Cond.classLink RX8 221 "java/lang/IndexOutOfBoundsException" :: Cond.initialized "java/lang/IndexOutOfBoundsException" :: vx_at0 RX8 223 "java/lang/IndexOutOfBoundsException" xnI, vx_ot w = true := by decide +kernel
theorem gdx_224 : ∀ w ∈ Cond.classLink RX8 224 "java/lang/IllegalArgumentException" :: Cond.initialized "java/lang/IllegalArgumentException" :: vx_at0 RX8 226 "java/lang/IllegalArgumentException" xnI, vx_ot w = true := by decide +kernel
theorem gdx_227 : ∀ w ∈ Cond.classLink RX8 227 "java/lang/IllegalStateException" :: Cond.initialized "java/lang/IllegalStateException" :: vx_at0 RX8 229 "java/lang/IllegalStateException" xnI, vx_ot w = true := by decide +kernel
abbrev rmx_X8_needIndex : Room := { frames := 6, cells := 1, slots := 6, locals := 90 }

abbrev rmx_X8_needRange : Room := { frames := 7, cells := 1, slots := 6, locals := 110 }

abbrev rmx_X8_needArgument : Room := { frames := 6, cells := 1, slots := 6, locals := 90 }

abbrev rmx_X8_needState : Room := { frames := 6, cells := 1, slots := 6, locals := 90 }

abbrev rmx_X8_make : Room := { frames := 8, cells := 1, slots := 6, locals := 132 }

abbrev rmx_X8_battery : Room := { frames := 8, cells := 1, slots := 6, locals := 132 }

abbrev rmx_X8_press : Room := { frames := 8, cells := 1, slots := 6, locals := 132 }

abbrev rmx_X8_again : Room := { frames := 8, cells := 1, slots := 6, locals := 132 }

abbrev rmx_X8_learn : Room := { frames := 7, cells := 1, slots := 6, locals := 111 }

abbrev rmx_X8_forget : Room := { frames := 7, cells := 1, slots := 6, locals := 111 }

abbrev rmx_X8_shut : Room := { frames := 7, cells := 1, slots := 6, locals := 111 }

abbrev rmx_X8_unlock : Room := { frames := 7, cells := 1, slots := 6, locals := 111 }

abbrev rmx_X8_set : Room := { frames := 8, cells := 1, slots := 6, locals := 132 }

abbrev rmx_X8_undo : Room := { frames := 7, cells := 1, slots := 6, locals := 110 }

abbrev rmx_X8_fob : Room := { frames := 8, cells := 1, slots := 6, locals := 132 }

abbrev rmx_X8_slot : Room := { frames := 8, cells := 1, slots := 6, locals := 132 }

abbrev rmx_X8_door : Room := { frames := 8, cells := 1, slots := 6, locals := 132 }

abbrev rmx_X8_air : Room := { frames := 7, cells := 1, slots := 6, locals := 110 }

abbrev rmx_X8_count : Room := { frames := 8, cells := 1, slots := 6, locals := 132 }

abbrev rmx_X8_setting : Room := { frames := 7, cells := 1, slots := 6, locals := 111 }

abbrev rmx_X8_ifHeard : Room := { frames := 8, cells := 1, slots := 6, locals := 132 }

abbrev rmx_X8_opensIn : Room := { frames := 7, cells := 1, slots := 6, locals := 111 }

abbrev rmx_X8_unheard : Room := { frames := 7, cells := 1, slots := 6, locals := 119 }

abbrev rmx_X8_useful : Room := { frames := 7, cells := 1, slots := 6, locals := 116 }

set_option maxHeartbeats 4000000 in
set_option maxRecDepth 100000 in
theorem x_needIndex {l : Launch} {D : va_G} {cy : Nat → ClassId} {ad : Ads} (hI : IJ ad) (x : Mem) (hfl : l.stackTraces = false) (a b : Int32) (h0 : a < 0 ∨ b ≤ a) : Ctx l yX8_needIndex cX8_needIndex 2 none rmx_X8_needIndex D cy ad [.int a, .int b] x "java/lang/IndexOutOfBoundsException" := by
  refine rm_entryX hI (by decide) (Nat.le_of_ble_eq_true rfl) ?_
  intro p e s m args below meth c hc hX
  show RM _ _ _ _ _ _ _ _ _ _ _ _ _ _ _ _ _ [(0, .int a), (1, .int b)] []
  refine rm_iload_n hc dX8_needIndex_0 rfl rfl ?_
  refine rm_if_lt (tgt := 9) hc dX8_needIndex_1 (by decide) (fun c_1 => ?_) (fun c_1 => ?_)
  · --T
    exact rm_throw0 (own := RX8) (ik := 221) (ic := 223) hc hX hfl (by decide +kernel) ckx_221 atx_221 gdx_221 dX8_needIndex_9 dX8_needIndex_12 dX8_needIndex_13 dX8_needIndex_16 (Nat.le_of_ble_eq_true rfl) (Nat.le_of_ble_eq_true rfl) (Nat.le_of_ble_eq_true rfl) (Nat.le_of_ble_eq_true rfl)
  · --F
    refine rm_iload_n hc dX8_needIndex_4 rfl rfl ?_
    refine rm_iload_n hc dX8_needIndex_5 rfl rfl ?_
    refine rm_icmp_lt (tgt := 17) hc dX8_needIndex_6 (by decide) (fun h9 => absurd h9 (Int32.not_lt.mpr (h0.resolve_left c_1))) (fun _ => ?_)
    exact rm_throw0 (own := RX8) (ik := 221) (ic := 223) hc hX hfl (by decide +kernel) ckx_221 atx_221 gdx_221 dX8_needIndex_9 dX8_needIndex_12 dX8_needIndex_13 dX8_needIndex_16 (Nat.le_of_ble_eq_true rfl) (Nat.le_of_ble_eq_true rfl) (Nat.le_of_ble_eq_true rfl) (Nat.le_of_ble_eq_true rfl)

set_option maxHeartbeats 4000000 in
set_option maxRecDepth 100000 in
theorem x_needArgument {l : Launch} {D : va_G} {cy : Nat → ClassId} {ad : Ads} (hI : IJ ad) (x : Mem) (hfl : l.stackTraces = false)  : Ctx l yX8_needArgument cX8_needArgument 1 none rmx_X8_needArgument D cy ad [.int 0] x "java/lang/IllegalArgumentException" := by
  refine rm_entryX hI (by decide) (Nat.le_of_ble_eq_true rfl) ?_
  intro p e s m args below meth c hc hX
  show RM _ _ _ _ _ _ _ _ _ _ _ _ _ _ _ _ _ [(0, .int 0)] []
  refine rm_iload_n hc dX8_needArgument_0 rfl rfl ?_
  refine rm_if_ne (tgt := 12) hc dX8_needArgument_1 (by decide) (fun h => absurd h (by decide)) (fun _ => ?_)
  exact rm_throw0 (own := RX8) (ik := 224) (ic := 226) hc hX hfl (by decide +kernel) ckx_224 atx_224 gdx_224 dX8_needArgument_4 dX8_needArgument_7 dX8_needArgument_8 dX8_needArgument_11 (Nat.le_of_ble_eq_true rfl) (Nat.le_of_ble_eq_true rfl) (Nat.le_of_ble_eq_true rfl) (Nat.le_of_ble_eq_true rfl)

set_option maxHeartbeats 4000000 in
set_option maxRecDepth 100000 in
theorem x_needState {l : Launch} {D : va_G} {cy : Nat → ClassId} {ad : Ads} (hI : IJ ad) (x : Mem) (hfl : l.stackTraces = false)  : Ctx l yX8_needState cX8_needState 1 none rmx_X8_needState D cy ad [.int 0] x "java/lang/IllegalStateException" := by
  refine rm_entryX hI (by decide) (Nat.le_of_ble_eq_true rfl) ?_
  intro p e s m args below meth c hc hX
  show RM _ _ _ _ _ _ _ _ _ _ _ _ _ _ _ _ _ [(0, .int 0)] []
  refine rm_iload_n hc dX8_needState_0 rfl rfl ?_
  refine rm_if_ne (tgt := 12) hc dX8_needState_1 (by decide) (fun h => absurd h (by decide)) (fun _ => ?_)
  exact rm_throw0 (own := RX8) (ik := 227) (ic := 229) hc hX hfl (by decide +kernel) ckx_227 atx_227 gdx_227 dX8_needState_4 dX8_needState_7 dX8_needState_8 dX8_needState_11 (Nat.le_of_ble_eq_true rfl) (Nat.le_of_ble_eq_true rfl) (Nat.le_of_ble_eq_true rfl) (Nat.le_of_ble_eq_true rfl)

set_option maxHeartbeats 4000000 in
set_option maxRecDepth 100000 in
theorem x_needRange {l : Launch} {D : va_G} {cy : Nat → ClassId} {ad : Ads} (hI : IJ ad) (x : Mem) (hfl : l.stackTraces = false) (a lo hi2 : Int32) (h0 : a < lo ∨ hi2 < a) : Ctx l yX8_needRange cX8_needRange 3 none rmx_X8_needRange D cy ad [.int a, .int lo, .int hi2] x "java/lang/IllegalArgumentException" := by
  refine rm_entryX hI (by decide) (Nat.le_of_ble_eq_true rfl) ?_
  intro p e s m args below meth c hc hX
  show RM _ _ _ _ _ _ _ _ _ _ _ _ _ _ _ _ _ [(0, .int a), (1, .int lo), (2, .int hi2)] []
  refine rm_iload_n hc dX8_needRange_0 rfl rfl ?_
  refine rm_iload_n hc dX8_needRange_1 rfl rfl ?_
  refine rm_icmp_lt (tgt := 14) hc dX8_needRange_2 (by decide) (fun c_1 => ?_) (fun c_1 => ?_)
  · --T
    refine rm_iconst (v := 0) hc dX8_needRange_14 (by decide) ?_
    exact rm_thrS (As := [.int 0]) (rest := []) hc hX dX8_needRange_15 (x_needArgument hI x hfl) ms_X8_151 (hn := rfl) (hst := rfl) (hw := Nat.le_of_ble_eq_true rfl) (hR := ⟨⟨rfl, rfl⟩, Nat.le_of_ble_eq_true rfl, Nat.le_of_ble_eq_true rfl⟩) (hnc := ⟨Nat.le_of_ble_eq_true rfl, Nat.le_of_ble_eq_true rfl⟩)
  · --F
    refine rm_iload_n hc dX8_needRange_5 rfl rfl ?_
    refine rm_iload_n hc dX8_needRange_6 rfl rfl ?_
    refine rm_icmp_gt (tgt := 14) hc dX8_needRange_7 (by decide) (fun _ => ?_) (fun h9 => absurd (h0.resolve_left c_1) h9)
    refine rm_iconst (v := 0) hc dX8_needRange_14 (by decide) ?_
    exact rm_thrS (As := [.int 0]) (rest := []) hc hX dX8_needRange_15 (x_needArgument hI x hfl) ms_X8_151 (hn := rfl) (hst := rfl) (hw := Nat.le_of_ble_eq_true rfl) (hR := ⟨⟨rfl, rfl⟩, Nat.le_of_ble_eq_true rfl, Nat.le_of_ble_eq_true rfl⟩) (hnc := ⟨Nat.le_of_ble_eq_true rfl, Nat.le_of_ble_eq_true rfl⟩)

set_option maxHeartbeats 4000000 in
set_option maxRecDepth 100000 in
theorem x_press_3 {l : Launch} {D : va_G} {cy : Nat → ClassId} {ad : Ads} (hI : IJ ad) (x : Mem) (hfl : l.stackTraces = false) {j : Nat} (hj : j < 4) (p1 : Int32) (hs1 : ¬ p1 < 0) (hs2 : ¬ 7 < p1) (hbat : x 0 (16 + 4 * j) ≤ 0) : Ctx l yX8_press cX8_press 3 (some .int) rmx_X8_press D cy ad [.ref (ad 8 9 0), .int (nI (j)), .int p1] x "java/lang/IllegalStateException" := by
  refine rm_entryX hI (by decide) (Nat.le_of_ble_eq_true rfl) ?_
  intro p e s m args below meth c hc hX
  show RM _ _ _ _ _ _ _ _ _ _ _ _ _ _ _ _ _ [(0, .ref (ad 8 9 0)), (1, .int (nI (j))), (2, .int p1)] []
  refine rm_iload_n hc dX8_press_0 rfl rfl ?_
  refine rm_iconst (v := 4) hc dX8_press_1 (by decide) ?_
  refine rm_callvS (As := [.int (nI (j)), .int 4]) (rest := []) hc dX8_press_2 (c_X8_needIndex hI x (nI (j)) 4 (nI_pos (n := j) (by omega)) (nI_lt (a := j) (b := 4) (by omega) (by omega))) ms_X8_37 (hn := rfl) (hst := rfl) (hw := Nat.le_of_ble_eq_true rfl) (hR := ⟨⟨rfl, rfl⟩, Nat.le_of_ble_eq_true rfl, Nat.le_of_ble_eq_true rfl⟩) (hnc := ⟨Nat.zero_le _, Nat.zero_le _⟩) (fun y_1 h_1 => ?_)
  obtain rfl := h_1.symm
  refine rm_iload_n hc dX8_press_5 rfl rfl ?_
  refine rm_iconst (v := 0) hc dX8_press_6 (by decide) ?_
  refine rm_bipush (v := 7) hc dX8_press_7 (by decide) ?_
  refine rm_callvS (As := [.int p1, .int 0, .int 7]) (rest := []) hc dX8_press_9 (c_X8_needRange hI x p1 0 7 hs1 hs2) ms_X8_41 (hn := rfl) (hst := rfl) (hw := Nat.le_of_ble_eq_true rfl) (hR := ⟨⟨rfl, rfl⟩, Nat.le_of_ble_eq_true rfl, Nat.le_of_ble_eq_true rfl⟩) (hnc := ⟨Nat.zero_le _, Nat.zero_le _⟩) (fun y_2 h_2 => ?_)
  obtain rfl := h_2.symm
  refine rm_aload_n hc dX8_press_12 rfl rfl ?_
  refine rm_get hc dX8_press_13 fl_X8_10 dm_9 rfl rfl ?_
  refine rm_iload_n hc dX8_press_16 rfl rfl ?_
  refine rm_calliV (As := [.int (nI (j))]) (rest := []) hc dX8_press_17 (c_X6_canPress hI x (k := 0) (j := j) (by omega) (by omega)) mv_X8_65 (dm_0 (by omega)) rfl rfl (hn := rfl) (hst := rfl) (hw := Nat.le_of_ble_eq_true rfl) (hR := ⟨⟨rfl, rfl⟩, Nat.le_of_ble_eq_true rfl, Nat.le_of_ble_eq_true rfl⟩) (hnc := ⟨Nat.zero_le _, Nat.zero_le _⟩) (fun r_3 y_3 h_3 => ?_)
  obtain ⟨e_3, ey_3⟩ := h_3
  obtain rfl := ey_3.symm
  obtain rfl : r_3 = 0 := by rw [e_3]; exact if_pos hbat
  exact rm_thrS (As := [.int 0]) (rest := []) hc hX dX8_press_20 (x_needState hI x hfl) ms_X8_69 (hn := rfl) (hst := rfl) (hw := Nat.le_of_ble_eq_true rfl) (hR := ⟨⟨rfl, rfl⟩, Nat.le_of_ble_eq_true rfl, Nat.le_of_ble_eq_true rfl⟩) (hnc := ⟨Nat.le_of_ble_eq_true rfl, Nat.le_of_ble_eq_true rfl⟩)

set_option maxHeartbeats 4000000 in
set_option maxRecDepth 100000 in
theorem x_again_1 {l : Launch} {D : va_G} {cy : Nat → ClassId} {ad : Ads} (hI : IJ ad) (x : Mem) (hfl : l.stackTraces = false) (p0 p1 : Int32) {nr : Nat} (hnr : x 0 5 = nI nr) (h0 : p0 < 0 ∨ nI nr ≤ p0) : Ctx l yX8_again cX8_again 3 (some .int) rmx_X8_again D cy ad [.ref (ad 8 9 0), .int p0, .int p1] x "java/lang/IndexOutOfBoundsException" := by
  refine rm_entryX hI (by decide) (Nat.le_of_ble_eq_true rfl) ?_
  intro p e s m args below meth c hc hX
  show RM _ _ _ _ _ _ _ _ _ _ _ _ _ _ _ _ _ [(0, .ref (ad 8 9 0)), (1, .int p0), (2, .int p1)] []
  refine rm_iload_n hc dX8_again_0 rfl rfl ?_
  refine rm_aload_n hc dX8_again_1 rfl rfl ?_
  refine rm_get hc dX8_again_2 fl_X8_10 dm_9 rfl rfl ?_
  refine rm_get hc dX8_again_5 fl_X8_77 (dm_0 (by omega)) rfl rfl ?_
  refine rm_geti hc dX8_again_8 fl_X8_81 (dm_6 (by omega)) rfl rfl (fun v_1 e_1 => ?_)
  obtain rfl : v_1 = nI nr := e_1.trans hnr
  exact rm_thrS (As := [.int p0, .int (nI (nr))]) (rest := []) hc hX dX8_again_11 (x_needIndex hI x hfl p0 (nI (nr)) h0) ms_X8_37 (hn := rfl) (hst := rfl) (hw := Nat.le_of_ble_eq_true rfl) (hR := ⟨⟨rfl, rfl⟩, Nat.le_of_ble_eq_true rfl, Nat.le_of_ble_eq_true rfl⟩) (hnc := ⟨Nat.le_of_ble_eq_true rfl, Nat.le_of_ble_eq_true rfl⟩)

set_option maxHeartbeats 4000000 in
set_option maxRecDepth 100000 in
theorem x_undo_1 {l : Launch} {D : va_G} {cy : Nat → ClassId} {ad : Ads} (hI : IJ ad) (x : Mem) (hfl : l.stackTraces = false) (hhl : x 8 1 = 0) : Ctx l yX8_undo cX8_undo 1 (some .int) rmx_X8_undo D cy ad [.ref (ad 8 9 0)] x "java/lang/IllegalStateException" := by
  refine rm_entryX hI (by decide) (Nat.le_of_ble_eq_true rfl) ?_
  intro p e s m args below meth c hc hX
  show RM _ _ _ _ _ _ _ _ _ _ _ _ _ _ _ _ _ [(0, .ref (ad 8 9 0))] []
  refine rm_aload_n hc dX8_undo_0 rfl rfl ?_
  refine rm_get hc dX8_undo_1 fl_X8_19 dm_9 rfl rfl ?_
  refine rm_geti hc dX8_undo_4 fl_X8_161 dm_10 rfl rfl (fun v_1 e_1 => ?_)
  obtain rfl : v_1 = 0 := e_1.trans hhl
  refine rm_if_le (tgt := 14) hc dX8_undo_7 (by decide) (fun _ => ?_) (fun h => absurd (by decide) h)
  refine rm_iconst (v := 0) hc dX8_undo_14 (by decide) ?_
  exact rm_thrS (As := [.int 0]) (rest := []) hc hX dX8_undo_15 (x_needState hI x hfl) ms_X8_69 (hn := rfl) (hst := rfl) (hw := Nat.le_of_ble_eq_true rfl) (hR := ⟨⟨rfl, rfl⟩, Nat.le_of_ble_eq_true rfl, Nat.le_of_ble_eq_true rfl⟩) (hnc := ⟨Nat.le_of_ble_eq_true rfl, Nat.le_of_ble_eq_true rfl⟩)
end
section
/-! ===== the law's wrappers: what they catch ===== -/
def ncL : List (String × String) := []
def NC (U : State) : Prop := ∀ q ∈ ncL, va_Nc q.1 q.2 U
theorem NC.moved {u U : State} (hvm : u.vm.Alike U.vm) (h : NC u) : NC U := fun q hq => (h q hq).moved hvm
def Ctw (l : Launch) (y : MethodName) (cc : ByteArray) (nL : Nat) (hh : List (Nat × Nat × Nat × Nat)) (rm : Room) (D : va_G) (cy : Nat → ClassId) (ad : Ads) (As : List Value) (x : Mem) (post : Int32 → Mem → Prop) : Prop :=
  ∀ sz, Met l y (.codeWith y cc nL (some .int) hh :: TB) rm (va_Pc As (fun U => U.heap.size = sz ∧ va_P D vwCl (wl cy ad x) U.heap ∧ va_K D vwCl (tys cy) U ∧ NW U ∧ XW U ∧ NC U ∧ SF ad sz U)) (va_Qi post (fun z t => va_P D vwCl (wl cy ad z) t.heap) (AA ad sz)) 1 6 (AA ad sz)
def QW (D : va_G) (cy : Nat → ClassId) (ad : Ads) (post : Int32 → Mem → Prop) (below : List Frame) (args : Array Value) (s : State) : State → Prop :=
  MQ below (va_Qi post (fun z t => va_P D vwCl (wl cy ad z) t.heap) (AA ad s.heap.size)) args s 1 6 (AA ad s.heap.size)
def XY (c : Code) (hh : List (Nat × Nat × Nat × Nat)) (ad : Ads) (s : State) : Prop := c.exceptionTable.toList = tableOf hh ∧ XW s ∧ NC s ∧ SF ad s.heap.size s
theorem rm_entryW {l : Launch} {y : MethodName} {cc : ByteArray} {nL : Nat} {hh : List (Nat × Nat × Nat × Nat)} {rm : Room} {D : va_G} {cy : Nat → ClassId} {ad : Ads} {As : List Value} {x : Mem} {post : Int32 → Mem → Prop} (hI : IJ ad) (hy : plainName y.cls = true) (hl : (lg_sl As).length ≤ nL)
    (body : ∀ p e s m args below meth c, CX p s m args meth c cc nL y.cls (some .int) D cy ad → XY c hh ad s → RM p l e rm s m args below meth c nL (AA ad s.heap.size) (GG D cy ad x) 0 0 (QW D cy ad post below args s) 0 (lv_args 0 As) []) : Ctw l y cc nL hh rm D cy ad As x post := by
  intro sz
  refine va_MetW (cc := cc) (maxL := nL) (ret := some .int) (hh := hh) hy rfl ?_
  intro p e s m args below meth c s₁ B hml hv
  obtain ⟨rfl, hsz, hP, hK, hN, hX, hNc, hF⟩ := hv
  subst hsz
  have hts := atoms_spec (ws := .codeWith y cc nL (some .int) hh :: TB) B.pre
  have hc : CX p s m As.toArray meth c cc nL y.cls (some .int) D cy ad := ⟨⟨B.exec, B.bytes, hml, findClass_of_methodNamed B.named, fun w h => hts w (List.mem_cons_of_mem _ h)⟩, B.returns, B.notSynchronized, hK, hI, hN⟩
  have h := body p e s m As.toArray below meth c hc ⟨vx_table (x := y) B (hts _ List.mem_cons_self), hX, hNc, hF⟩
  rw [lg_entry_eq]
  exact h s.heap [] _ hP va_S.rf (lv_entry As hl)
theorem rm_iretW {p : Program} {l : Launch} {e : Env} {R : Room} {s : State} {m : MethodId} {args : Array Value} {below : List Frame} {meth : Method} {c : Code} {cc : ByteArray} {nL : Nat} {own : String} {D : va_G} {cy : Nat → ClassId} {ad : Ads} {x : Mem} {pc nc ns : Nat} {ls : List (Nat × Value)} (hc : CX p s m args meth c cc nL own (some .int) D cy ad) {v : Int32} {post : Int32 → Mem → Prop} (hd : decode cc pc = .ok (.ireturn, 1)) (h1 : nc ≤ 1) (h6 : ns ≤ 6) (hp : post v x) : RM p l e R s m args below meth c nL (AA ad s.heap.size) (GG D cy ad x) nc ns (QW D cy ad post below args s) pc ls [.int v] := by
  intro H locs la hP hS hl
  have hlk : meth.locks = false := hc.2.2.1
  refine W.widen (k := 1) (n := 6) h1 h6 ?_
  exact W.iret hc.1.1 hc.1.2.1 hc.2.1 (fun t ht hW => ⟨⟨v, x, rfl, hp, by show va_P D vwCl (wl cy ad x) t.heap; rw [ht]; exact hP⟩, hS.F ht⟩) hS.2.2 hd
/-- what is thrown is caught here -/
theorem rm_catV {p : Program} {l : Launch} {e : Env} {R : Room} {s : State} {m : MethodId} {args : Array Value} {below : List Frame} {meth : Method} {c : Code} {cc : ByteArray} {nL : Nat} {own : String} {ret : Option FieldType} {D : va_G} {cy : Nat → ClassId} {ad : Ads} {Q : State → Prop} {x : Mem} {pc : Nat} {ls : List (Nat × Value)} {st : List Value} {E : String} {hh : List (Nat × Nat × Nat × Nat)}
    (hc : CX p s m args meth c cc nL own ret D cy ad) (hX : XY c hh ad s) {y0 : MethodName} {bytes : ByteArray} {maxL n : Nat} {rt : Option FieldType} {rm : Room} {index : Nat} {As rest : List Value} {k c0 j ci N : Nat} {T : u_T} {fs : List Value} (pre : List ExceptionTableEntry) (xe : ExceptionTableEntry) (suf : List ExceptionTableEntry) (hd : decode cc pc = .ok (.invokevirtual index, 3)) (hC : Ctx l y0 bytes maxL rt rm D cy ad (.ref (ad k c0 j) :: As) x E) (hL : MV own index y0 bytes maxL rt n) (hm : dm k c0 j) (hE : EE cy ad x k c0 j = .inr (ci, fs)) (hcl : vwCl[ci]? = some (y0.cls, T, N)) (hn : As.length = n) (hst : st = As.reverse ++ .ref (ad k c0 j) :: rest) (hw : (rest.map fun v => v.category).sum ≤ 8) (hR : (rm.cells = 1 ∧ rm.slots = 6) ∧ rm.frames + 1 ≤ R.frames ∧ 8 + (maxL + 11) + rm.locals ≤ R.locals) (hnc : 1 ≤ R.cells ∧ 6 ≤ R.slots)
    (hsplit : tableOf hh = pre ++ xe :: suf) (hpass : ∀ z ∈ pre, z.catchType ≠ 0 ∧ ∃ nm : String, Cond.classLink own z.catchType nm ∈ TB ∧ (E, nm) ∈ ncL) (hx : covers xe pc = true) (h0 : xe.catchType ≠ 0) (hlink : Cond.classLink own xe.catchType E ∈ TB) (hcast : Cond.castable E E ∈ badL)
    (kk : ∀ q, RM p l e R s m args below meth c nL (AA ad s.heap.size) (GG D cy ad x) 1 6 Q xe.handlerPc ls [.ref q]) : RM p l e R s m args below meth c nL (AA ad s.heap.size) (GG D cy ad x) 0 0 Q pc ls st := by
  intro H locs la hP hS hl
  subst hst
  have hF : ∀ q, AA ad H.size q → AA ad s.heap.size q := AA_mono hS.1
  obtain ⟨q0, hq, -⟩ := wl_get (cy := cy) (ad := ad) x hm
  rw [hE] at hq
  have cw : CallW R s args own y0.cls index y0 bytes maxL rt (.code y0 bytes maxL rt :: TB) rm 1 6 n := ⟨callB_of n hc.1.2.2.2.2 (goodTB hL.1.2.2.1) rfl hR.1.1 hR.1.2 (hc.1.2.2.2.2 _ hL.1.2.1) (hc.1.2.2.2.2 _ hL.1.1) hL.1.2.2.2 hR.2, hc.1.2.2.2.2 _ hL.2.1, hc.1.2.2.2.2 _ hL.2.2⟩
  refine vx_callv (vx_runV (As := As) (rest := rest) hc.1 (hC H.size) cw ⟨fun a U g mk q => by obtain ⟨q0, q1, qP, qK, qN, qX, qF⟩ := q; exact ⟨q0, q1, qP, va_K.moved (u := U) (U := U.calling g mk a) (Vm.Alike.refl U.vm) qK, NW.same (u := U) (U := U.calling g mk a) rfl qN, XW.moved (u := U) (U := U.calling g mk a) (Vm.Alike.refl U.vm) qX, ⟨vx_Zq.moved (u := U) (U := U.calling g mk a) (Vm.Alike.refl U.vm) qF.1, vx_Zq.moved (u := U) (U := U.calling g mk a) (Vm.Alike.refl U.vm) qF.2⟩⟩, va_recv hc.2.2.2.1 hP hcl hq, fun U hU hW => ⟨rfl, by rw [hU], by rw [hU]; exact hP, va_K.moved hW.alike hc.2.2.2.1, hc.2.2.2.2.2.warm hW, hX.2.1.moved hW.alike, hX.2.2.2.at hW.alike hU hS⟩⟩ rfl hn hl.1 rfl (lv_room hw) hd ⟨by omega, by omega⟩) hS (fun q _ h => hF q h) hF (fun q _ h => hF q h) ?_ (fun u t H1 locs1 ht hvm hf => hf.elim)
  intro E' ce q9 u t H1 locs1 ht hvm hu hB hz hk hS1 hcell hv hcl
  obtain ⟨rfl, hB⟩ := hB
  refine vx_catch hc.1.2.2.2.1 pre xe suf (hX.1.trans hsplit) (fun z hz => ?_) hx h0 (hc.1.2.2.2.2 _ hlink) (hX.2.1 _ hcast _) hcell hv hcl ?_
  · obtain ⟨h1, nm, h2, h3⟩ := hpass z hz
    exact Or.inr ⟨h1, nm, hc.1.2.2.2.2 _ h2, hX.2.2.1 _ h3⟩
  · exact kk q9 H1 locs1 la (by rw [← ht]; exact hB) hS1 hl
end
section
/-! ===== the law's own methods: contracts beside the script ===== -/
def MSW (own : String) (index : Nat) (y : MethodName) (bytes : ByteArray) (maxL : Nat) (hh : List (Nat × Nat × Nat × Nat)) (n : Nat) : Prop := Cond.methodLink own index y ∈ TB ∧ Cond.initialized y.cls ∈ TB ∧ Cond.codeWith y bytes maxL (some .int) hh ∈ TB ∧ (y.cls ≠ "java/lang/invoke/MethodHandle" ∧ y.cls ≠ "java/lang/invoke/VarHandle" ∧ (parseMethodDescriptor y.desc).map (fun d => d.parameters.length) = some n) ∧ Cond.static y ∈ TB
/-- what stands beside CX in the law -/
def LX (ad : Ads) (s : State) : Prop := XW s ∧ NC s ∧ SF ad s.heap.size s
section LAWR
variable {p : Program} {l : Launch} {e : Env} {R : Room} {s : State} {m : MethodId} {args : Array Value} {below : List Frame} {meth : Method} {c : Code} {cc : ByteArray} {nL : Nat} {own : String} {ret : Option FieldType} {D : va_G} {cy : Nat → ClassId} {ad : Ads} {A : Nat → Prop} {G : Heap → Prop} {nc ns : Nat} {Q : State → Prop} {x : Mem} {pc : Nat} {ls : List (Nat × Value)} {st : List Value}
theorem rm_callW (hc : CX p s m args meth c cc nL own ret D cy ad) (hX : LX ad s) {y0 : MethodName} {bytes : ByteArray} {maxL n : Nat} {hh : List (Nat × Nat × Nat × Nat)} {rm : Room} {index : Nat} {As rest : List Value} {post : Int32 → Mem → Prop} (hd : decode cc pc = .ok (.invokestatic index, 3)) (hC : Ctw l y0 bytes maxL hh rm D cy ad As x post) (hL : MSW own index y0 bytes maxL hh n) (hn : As.length = n) (hst : st = As.reverse ++ rest) (hw : (rest.map fun v => v.category).sum ≤ 8) (hR : (rm.cells = 1 ∧ rm.slots = 6) ∧ rm.frames + 1 ≤ R.frames ∧ 8 + (maxL + 11) + rm.locals ≤ R.locals) (hnc : nc + 1 ≤ R.cells ∧ ns + 6 ≤ R.slots)
    (kk : ∀ (r : Int32) (y : Mem), post r y → RM p l e R s m args below meth c nL (AA ad s.heap.size) (GG D cy ad y) (nc + 1) (ns + 6) Q (pc + 3) ls (.int r :: rest)) : RM p l e R s m args below meth c nL (AA ad s.heap.size) (GG D cy ad x) nc ns Q pc ls st := by
  intro H locs la hP hS hl
  subst hst
  have hF : ∀ q, AA ad H.size q → AA ad s.heap.size q := AA_mono hS.1
  have cw : vx_CSW R s args own index y0 bytes maxL (some .int) hh (.codeWith y0 bytes maxL (some .int) hh :: TB) rm 1 6 n := ⟨⟨hR.1.1, hR.1.2, hR.2.1, hR.2.2, pay_in hc.1.2.2.2.2 (goodTB hL.2.2.1), List.mem_cons_self⟩, hc.1.2.2.2.2 _ hL.2.2.1, hc.1.2.2.2.2 _ hL.2.1, ⟨hL.2.2.2.1.1, hL.2.2.2.1.2.1⟩, fun sig h => by
    have h2 := hL.2.2.2.1.2.2
    rw [h] at h2
    exact (Option.some.inj h2).symm, hc.1.2.2.2.2 _ hL.1, hc.1.2.2.2.2 _ hL.2.2.2.2⟩
  exact va_calli (vx_runSW (As := As) (rest := rest) hc.1 (hC H.size) cw ⟨fun a U g mk q => by obtain ⟨q0, q1, qP, qK, qN, qX, qC, qF⟩ := q; exact ⟨q0, q1, qP, va_K.moved (u := U) (U := U.calling g mk a) (Vm.Alike.refl U.vm) qK, NW.same (u := U) (U := U.calling g mk a) rfl qN, XW.moved (u := U) (U := U.calling g mk a) (Vm.Alike.refl U.vm) qX, NC.moved (u := U) (U := U.calling g mk a) (Vm.Alike.refl U.vm) qC, ⟨vx_Zq.moved (u := U) (U := U.calling g mk a) (Vm.Alike.refl U.vm) qF.1, vx_Zq.moved (u := U) (U := U.calling g mk a) (Vm.Alike.refl U.vm) qF.2⟩⟩, fun U hU hW => ⟨rfl, by rw [hU], by rw [hU]; exact hP, va_K.moved hW.alike hc.2.2.2.1, hc.2.2.2.2.2.warm hW, hX.1.moved hW.alike, hX.2.1.moved hW.alike, hX.2.2.at hW.alike hU hS⟩⟩ rfl hn hl.1 rfl (lv_room hw) hd ⟨hnc.1, hnc.2⟩) hS (fun q _ h => hF q h) hF (fun r u t H1 locs1 ht hvm hw hB hz1 hk1 hS1 => kk r u hw H1 locs1 la (by rw [← ht]; exact hB) hS1 hl)
theorem rm_sld (hc : CX p s m args meth c cc nL own ret D cy ad) {b L : Nat} {xs : Nat → Int32} (hX : va_X b L xs s s.heap) (hbl : b < s.heap.size) (hbA : ¬ A b) (hd : decode cc pc = .ok (.iaload, 1)) {iv : Int32} {i : Nat} (hi : i < L) (hL : L < 2 ^ 31) (hiv : iv = nI i) (kk : RM p l e R s m args below meth c nL A G nc ns Q (pc + 1) ls (.int (xs i) :: st)) : RM p l e R s m args below meth c nL A G nc ns Q pc ls (.int iv :: .ref b :: st) := by
  intro H locs la hP hS hl
  subst hiv
  refine va_sld hc.1.1 hc.1.2.1 hX hbl hbA hS (vp_in_nI hi hL) hd ?_
  rw [nI_clamp (by omega)]
  exact kk H locs la hP hS hl
theorem rm_slen (hc : CX p s m args meth c cc nL own ret D cy ad) {b L : Nat} {xs : Nat → Int32} (hX : va_X b L xs s s.heap) (hbl : b < s.heap.size) (hbA : ¬ A b) (hd : decode cc pc = .ok (.arraylength, 1)) (kk : RM p l e R s m args below meth c nL A G nc ns Q (pc + 1) ls (.int (nI L) :: st)) : RM p l e R s m args below meth c nL A G nc ns Q pc ls (.ref b :: st) :=
  fun H locs la hP hS hl => va_slen hc.1.1 hc.1.2.1 hX hbl hbA hS hd (kk H locs la hP hS hl)
theorem rm_wid {nc' ns' : Nat} (h1 : nc ≤ nc') (h2 : ns ≤ ns') (kk : RM p l e R s m args below meth c nL A G nc' ns' Q pc ls st) : RM p l e R s m args below meth c nL A G nc ns Q pc ls st :=
  fun H locs la hP hS hl => W.widen h1 h2 (kk H locs la hP hS hl)
/-- the script, too -/
def XS (ad : Ads) (b L : Nat) (xs : Nat → Int32) (s : State) : Prop := LX ad s ∧ va_X b L xs s s.heap ∧ b < s.heap.size ∧ ¬ AA ad s.heap.size b
def Cts (l : Launch) (y : MethodName) (cc : ByteArray) (nL : Nat) (ret : Option FieldType) (rm : Room) (D : va_G) (cy : Nat → ClassId) (ad : Ads) (b L : Nat) (xs : Nat → Int32) (mc ms : Nat) (As : List Value) (x : Mem) (post : Int32 → Mem → Prop) : Prop :=
  ∀ sz, Met l y (.code y cc nL ret :: TB) rm (va_Pc As (fun U => U.heap.size = sz ∧ va_P D vwCl (wl cy ad x) U.heap ∧ va_K D vwCl (tys cy) U ∧ NW U ∧ XW U ∧ NC U ∧ SF ad sz U ∧ va_X b L xs U U.heap ∧ b < sz ∧ ¬ AA ad sz b)) (va_Qi post (fun z t => va_P D vwCl (wl cy ad z) t.heap) (AA ad sz)) mc ms (AA ad sz)
def QS (D : va_G) (cy : Nat → ClassId) (ad : Ads) (mc ms : Nat) (post : Int32 → Mem → Prop) (below : List Frame) (args : Array Value) (s : State) : State → Prop :=
  MQ below (va_Qi post (fun z t => va_P D vwCl (wl cy ad z) t.heap) (AA ad s.heap.size)) args s mc ms (AA ad s.heap.size)
theorem rm_entryS {y : MethodName} {rm : Room} {As : List Value} {post : Int32 → Mem → Prop} {b L mc ms : Nat} {xs : Nat → Int32} (hI : IJ ad) (hy : plainName y.cls = true) (hl : (lg_sl As).length ≤ nL)
    (body : ∀ p e s m args below meth c, CX p s m args meth c cc nL y.cls (some .int) D cy ad → XS ad b L xs s → RM p l e rm s m args below meth c nL (AA ad s.heap.size) (GG D cy ad x) 0 0 (QS D cy ad mc ms post below args s) 0 (lv_args 0 As) []) : Cts l y cc nL (some .int) rm D cy ad b L xs mc ms As x post := by
  intro sz
  refine Met.ofW (cc := cc) (maxL := nL) (ret := some .int) hy rfl ?_
  intro p e s m args below meth c s₁ B hml hv
  obtain ⟨rfl, hsz, hP, hK, hN, hX, hNc, hF, hS, hb, hA⟩ := hv
  subst hsz
  have hts := atoms_spec (ws := .code y cc nL (some .int) :: TB) B.pre
  have hc : CX p s m As.toArray meth c cc nL y.cls (some .int) D cy ad := ⟨⟨B.exec, B.bytes, hml, findClass_of_methodNamed B.named, fun w h => hts w (List.mem_cons_of_mem _ h)⟩, B.returns, B.notSynchronized, hK, hI, hN⟩
  have h := body p e s m As.toArray below meth c hc ⟨⟨hX, hNc, hF⟩, hS, hb, hA⟩
  rw [lg_entry_eq]
  exact h s.heap [] _ hP va_S.rf (lv_entry As hl)
theorem rm_iretS {mc ms : Nat} (hc : CX p s m args meth c cc nL own (some .int) D cy ad) {v : Int32} {post : Int32 → Mem → Prop} (hd : decode cc pc = .ok (.ireturn, 1)) (h1 : nc ≤ mc) (h6 : ns ≤ ms) (hp : post v x) : RM p l e R s m args below meth c nL (AA ad s.heap.size) (GG D cy ad x) nc ns (QS D cy ad mc ms post below args s) pc ls [.int v] := by
  intro H locs la hP hS hl
  have hlk : meth.locks = false := hc.2.2.1
  refine W.widen (k := mc) (n := ms) h1 h6 ?_
  exact W.iret hc.1.1 hc.1.2.1 hc.2.1 (fun t ht hW => ⟨⟨v, x, rfl, hp, by show va_P D vwCl (wl cy ad x) t.heap; rw [ht]; exact hP⟩, hS.F ht⟩) hS.2.2 hd
/-- a static method that may read the script is called -/
theorem rm_callS {mc ms b L : Nat} {xs : Nat → Int32} (hc : CX p s m args meth c cc nL own ret D cy ad) (hX : XS ad b L xs s) {y0 : MethodName} {bytes : ByteArray} {maxL n : Nat} {rt : Option FieldType} {rm : Room} {index : Nat} {As rest : List Value} {post : Int32 → Mem → Prop} (hd : decode cc pc = .ok (.invokestatic index, 3)) (hC : Cts l y0 bytes maxL rt rm D cy ad b L xs mc ms As x post) (hL : MS own index y0 bytes maxL rt n) (hn : As.length = n) (hst : st = As.reverse ++ rest) (hw : (rest.map fun v => v.category).sum ≤ 8) (hR : (rm.cells = mc ∧ rm.slots = ms) ∧ rm.frames + 1 ≤ R.frames ∧ 8 + (maxL + 11) + rm.locals ≤ R.locals) (hnc : nc + mc ≤ R.cells ∧ ns + ms ≤ R.slots)
    (kk : ∀ (r : Int32) (y : Mem), post r y → RM p l e R s m args below meth c nL (AA ad s.heap.size) (GG D cy ad y) (nc + mc) (ns + ms) Q (pc + 3) ls (.int r :: rest)) : RM p l e R s m args below meth c nL (AA ad s.heap.size) (GG D cy ad x) nc ns Q pc ls st := by
  intro H locs la hP hS hl
  subst hst
  have hF : ∀ q, AA ad H.size q → AA ad s.heap.size q := AA_mono hS.1
  have hHb : H[b]? = s.heap[b]? := hS.2.1 b hX.2.2.1 hX.2.2.2
  exact va_calli (va_runS (As := As) (rest := rest) hc.1 (hC H.size) ⟨callB_of n hc.1.2.2.2.2 (goodTB hL.1.2.2.1) rfl hR.1.1 hR.1.2 (hc.1.2.2.2.2 _ hL.1.2.1) (hc.1.2.2.2.2 _ hL.1.1) hL.1.2.2.2 hR.2, hc.1.2.2.2.2 _ hL.2⟩ ⟨fun a U g mk q => by obtain ⟨q0, q1, qP, qK, qN, qX, qC, qF, qS, qb, qA⟩ := q; exact ⟨q0, q1, qP, va_K.moved (u := U) (U := U.calling g mk a) (Vm.Alike.refl U.vm) qK, NW.same (u := U) (U := U.calling g mk a) rfl qN, XW.moved (u := U) (U := U.calling g mk a) (Vm.Alike.refl U.vm) qX, NC.moved (u := U) (U := U.calling g mk a) (Vm.Alike.refl U.vm) qC, ⟨vx_Zq.moved (u := U) (U := U.calling g mk a) (Vm.Alike.refl U.vm) qF.1, vx_Zq.moved (u := U) (U := U.calling g mk a) (Vm.Alike.refl U.vm) qF.2⟩, va_X.moved (u := U) (U := U.calling g mk a) (Vm.Alike.refl U.vm) qS, qb, qA⟩, fun U hU hW => ⟨rfl, by rw [hU], by rw [hU]; exact hP, va_K.moved hW.alike hc.2.2.2.1, hc.2.2.2.2.2.warm hW, hX.1.1.moved hW.alike, hX.1.2.1.moved hW.alike, hX.1.2.2.at hW.alike hU hS, by rw [hU]; exact (hX.2.1.kept hHb).moved hW.alike, Nat.lt_of_lt_of_le hX.2.2.1 hS.1, fun q => hX.2.2.2 (hF b q)⟩⟩ rfl hn hl.1 rfl (lv_room hw) hd ⟨hnc.1, hnc.2⟩) hS (fun q _ h => hF q h) hF (fun r u t H1 locs1 ht hvm hw hB hz1 hk1 hS1 => kk r u hw H1 locs1 la (by rw [← ht]; exact hB) hS1 hl)
end LAWR
end
