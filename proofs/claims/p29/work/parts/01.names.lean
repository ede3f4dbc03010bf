-- ===== PART A: goes FIRST, ahead of the names: the tables' words, and 'selects' of the private methods out of them =====
/-- a private method of a class that the tables say can be made, by its rows of tables_1 -/
def lw_okq (q : MethodName × Nat) : Prop := (q.1.cls ≠ "java/lang/invoke/MethodHandle" ∧ q.1.cls ≠ "java/lang/invoke/VarHandle") ∧ Cond.instantiable q.1.cls q.2 ∈ tables_1 ∧ Cond.privateMethod q.1 ∈ tables_1 ∧ Cond.instanceMethod q.1 ∈ tables_1
theorem lw_p0 : lw_okq (⟨"java/lang/Throwable", "fillInStackTrace", "(I)Ljava/lang/Throwable;"⟩, 6) := ⟨⟨by decide +kernel, by decide +kernel⟩, List.mem_of_getElem? (i := 269) (by decide +kernel), List.mem_of_getElem? (i := 267) (by decide +kernel), List.mem_of_getElem? (i := 268) (by decide +kernel)⟩
theorem lw_p1 : lw_okq (⟨"RollingFob", "counted", "(I)I"⟩, 4) := ⟨⟨by decide +kernel, by decide +kernel⟩, List.mem_of_getElem? (i := 20) (by decide +kernel), List.mem_of_getElem? (i := 359) (by decide +kernel), List.mem_of_getElem? (i := 360) (by decide +kernel)⟩
theorem lw_p2 : lw_okq (⟨"RollingFob", "tryNumber", "(LRollingFob$Door;I)I"⟩, 4) := ⟨⟨by decide +kernel, by decide +kernel⟩, List.mem_of_getElem? (i := 20) (by decide +kernel), List.mem_of_getElem? (i := 384) (by decide +kernel), List.mem_of_getElem? (i := 385) (by decide +kernel)⟩
theorem lw_p3 : lw_okq (⟨"RollingFob", "pressesToOpen", "(LRollingFob$Fob;LRollingFob$Door;)I"⟩, 4) := ⟨⟨by decide +kernel, by decide +kernel⟩, List.mem_of_getElem? (i := 20) (by decide +kernel), List.mem_of_getElem? (i := 414) (by decide +kernel), List.mem_of_getElem? (i := 415) (by decide +kernel)⟩
theorem lw_p4 : lw_okq (⟨"RollingFob", "mostUnheard", "(LRollingFob$Fob;LRollingFob$Door;)I"⟩, 4) := ⟨⟨by decide +kernel, by decide +kernel⟩, List.mem_of_getElem? (i := 20) (by decide +kernel), List.mem_of_getElem? (i := 427) (by decide +kernel), List.mem_of_getElem? (i := 428) (by decide +kernel)⟩
theorem lw_p5 : lw_okq (⟨"RollingFob", "firstUseful", "(LRollingFob$Door;)I"⟩, 4) := ⟨⟨by decide +kernel, by decide +kernel⟩, List.mem_of_getElem? (i := 20) (by decide +kernel), List.mem_of_getElem? (i := 452) (by decide +kernel), List.mem_of_getElem? (i := 453) (by decide +kernel)⟩
theorem lw_p6 : lw_okq (⟨"RollingFob$State", "send", "(II)I"⟩, 6) := ⟨⟨by decide +kernel, by decide +kernel⟩, List.mem_of_getElem? (i := 28) (by decide +kernel), List.mem_of_getElem? (i := 594) (by decide +kernel), List.mem_of_getElem? (i := 595) (by decide +kernel)⟩
def lw_privs_1 : List (MethodName × Nat) := [(⟨"java/lang/Throwable", "fillInStackTrace", "(I)Ljava/lang/Throwable;"⟩, 6), (⟨"RollingFob", "counted", "(I)I"⟩, 4), (⟨"RollingFob", "tryNumber", "(LRollingFob$Door;I)I"⟩, 4), (⟨"RollingFob", "pressesToOpen", "(LRollingFob$Fob;LRollingFob$Door;)I"⟩, 4), (⟨"RollingFob", "mostUnheard", "(LRollingFob$Fob;LRollingFob$Door;)I"⟩, 4), (⟨"RollingFob", "firstUseful", "(LRollingFob$Door;)I"⟩, 4), (⟨"RollingFob$State", "send", "(II)I"⟩, 6)]
theorem lw_r1 : ∀ q ∈ lw_privs_1, lw_okq q := List.forall_mem_cons.mpr ⟨lw_p0, List.forall_mem_cons.mpr ⟨lw_p1, List.forall_mem_cons.mpr ⟨lw_p2, List.forall_mem_cons.mpr ⟨lw_p3, List.forall_mem_cons.mpr ⟨lw_p4, List.forall_mem_cons.mpr ⟨lw_p5, List.forall_mem_cons.mpr ⟨lw_p6, fun _ h => absurd h List.not_mem_nil⟩⟩⟩⟩⟩⟩⟩
def lw_privs : List (MethodName × Nat) := lw_privs_1
def lw_tbl : List Cond := k2_sels lw_privs ++ tables_1
theorem lw_privs_ok : ∀ q ∈ lw_privs, lw_okq q := lw_r1
/-- the streams that the claim lets the run draw from -/
abbrev lw_cs : List Choice := [Jvm.Choice.named "NaN.bits"]
theorem lw_bits : nanBits ∈ lw_cs := by first | decide | exact List.mem_cons_self | simp [lw_cs, nanBits]
def RX0 : String := "RollingFob$Air"
def TX0 : u_T := fun k => match k with
  | 0 => ("RollingFob$Air", "numbers", "[I", true)
  | _ => ("RollingFob$Air", "length", "I", false)
def tyX0 : Nat → FieldType := fun k => match k with
  | 0 => .array .int
  | _ => .int
abbrev wsX00 : List Cond := u_ws RX0 TX0 2
theorem nmX0 : ∀ a, a < 2 → ∀ b, b < 2 → a ≠ b → (TX0 a).2.1 ≠ (TX0 b).2.1 := by decide +kernel
theorem tyX0_ok : ∀ k, k < 2 → parseFieldDescriptor (TX0 k).2.2.1 = some (tyX0 k) := by decide +kernel
abbrev cX0_init : ByteArray := prog_2_method_1_code
def yX0_init : MethodName := ⟨RX0, "<init>", "()V"⟩
abbrev cX0_copyFrom : ByteArray := prog_2_method_2_code
def yX0_copyFrom : MethodName := ⟨RX0, "copyFrom", "(LRollingFob$Air;)V"⟩
abbrev cX0_record : ByteArray := prog_2_method_3_code
def yX0_record : MethodName := ⟨RX0, "record", "(I)V"⟩
abbrev cX0_number : ByteArray := prog_2_method_4_code
def yX0_number : MethodName := ⟨RX0, "number", "(I)I"⟩
def RX1 : String := "RollingFob$Door"
def TX1 : u_T := fun k => match k with
  | 0 => ("RollingFob$Door", "slots", "[LRollingFob$Slot;", true)
  | 1 => ("RollingFob$Door", "open", "Z", false)
  | 2 => ("RollingFob$Door", "wrongInRow", "I", false)
  | 3 => ("RollingFob$Door", "opened", "I", false)
  | 4 => ("RollingFob$Door", "notes", "I", false)
  | 5 => ("RollingFob$Door", "wrongs", "I", false)
  | _ => ("RollingFob$Door", "heardLocked", "I", false)
def tyX1 : Nat → FieldType := fun k => match k with
  | 0 => .array (.object "RollingFob$Slot")
  | 1 => .boolean
  | 2 => .int
  | 3 => .int
  | 4 => .int
  | 5 => .int
  | _ => .int
abbrev wsX10 : List Cond := u_ws RX1 TX1 7
theorem nmX1 : ∀ a, a < 7 → ∀ b, b < 7 → a ≠ b → (TX1 a).2.1 ≠ (TX1 b).2.1 := by decide +kernel
theorem tyX1_ok : ∀ k, k < 7 → parseFieldDescriptor (TX1 k).2.2.1 = some (tyX1 k) := by decide +kernel
abbrev cX1_init : ByteArray := prog_3_method_1_code
def yX1_init : MethodName := ⟨RX1, "<init>", "()V"⟩
abbrev cX1_copyFrom : ByteArray := prog_3_method_2_code
def yX1_copyFrom : MethodName := ⟨RX1, "copyFrom", "(LRollingFob$Door;)V"⟩
abbrev cX1_isLocked : ByteArray := prog_3_method_3_code
def yX1_isLocked : MethodName := ⟨RX1, "isLocked", "(LRollingFob$Settings;)Z"⟩
abbrev cX1_learntSlots : ByteArray := prog_3_method_4_code
def yX1_learntSlots : MethodName := ⟨RX1, "learntSlots", "()I"⟩
abbrev cX1_hear : ByteArray := prog_3_method_5_code
def yX1_hear : MethodName := ⟨RX1, "hear", "(ILRollingFob$Settings;)I"⟩
abbrev cX1_look : ByteArray := prog_3_method_6_code
def yX1_look : MethodName := ⟨RX1, "look", "(ILRollingFob$Settings;)I"⟩
def RX2 : String := "RollingFob$Fob"
def TX2 : u_T := fun k => match k with
  | 0 => ("RollingFob$Fob", "secret", "I", false)
  | 1 => ("RollingFob$Fob", "counter", "I", false)
  | 2 => ("RollingFob$Fob", "battery", "I", false)
  | _ => ("RollingFob$Fob", "presses", "I", false)
def tyX2 : Nat → FieldType := fun k => match k with
  | 0 => .int
  | 1 => .int
  | 2 => .int
  | _ => .int
abbrev wsX20 : List Cond := u_ws RX2 TX2 4
theorem nmX2 : ∀ a, a < 4 → ∀ b, b < 4 → a ≠ b → (TX2 a).2.1 ≠ (TX2 b).2.1 := by decide +kernel
theorem tyX2_ok : ∀ k, k < 4 → parseFieldDescriptor (TX2 k).2.2.1 = some (tyX2 k) := by decide +kernel
abbrev cX2_init : ByteArray := prog_4_method_1_code
def yX2_init : MethodName := ⟨RX2, "<init>", "(I)V"⟩
abbrev cX2_copyFrom : ByteArray := prog_4_method_2_code
def yX2_copyFrom : MethodName := ⟨RX2, "copyFrom", "(LRollingFob$Fob;)V"⟩
abbrev cX2_sendNext : ByteArray := prog_4_method_3_code
def yX2_sendNext : MethodName := ⟨RX2, "sendNext", "()I"⟩
abbrev cX2_look : ByteArray := prog_4_method_4_code
def yX2_look : MethodName := ⟨RX2, "look", "(I)I"⟩
def RX3 : String := "RollingFob$History"
def TX3 : u_T := fun k => match k with
  | 0 => ("RollingFob$History", "saved", "[LRollingFob$State;", true)
  | 1 => ("RollingFob$History", "next", "I", false)
  | _ => ("RollingFob$History", "length", "I", false)
def tyX3 : Nat → FieldType := fun k => match k with
  | 0 => .array (.object "RollingFob$State")
  | 1 => .int
  | _ => .int
abbrev wsX30 : List Cond := u_ws RX3 TX3 3
theorem nmX3 : ∀ a, a < 3 → ∀ b, b < 3 → a ≠ b → (TX3 a).2.1 ≠ (TX3 b).2.1 := by decide +kernel
theorem tyX3_ok : ∀ k, k < 3 → parseFieldDescriptor (TX3 k).2.2.1 = some (tyX3 k) := by decide +kernel
abbrev cX3_init : ByteArray := prog_5_method_1_code
def yX3_init : MethodName := ⟨RX3, "<init>", "()V"⟩
abbrev cX3_keep : ByteArray := prog_5_method_2_code
def yX3_keep : MethodName := ⟨RX3, "keep", "(LRollingFob$State;)V"⟩
abbrev cX3_restore : ByteArray := prog_5_method_3_code
def yX3_restore : MethodName := ⟨RX3, "restore", "(LRollingFob$State;)V"⟩
def RX4 : String := "RollingFob$Settings"
def TX4 : u_T := fun k => match k with
  | 0 => ("RollingFob$Settings", "window", "I", false)
  | 1 => ("RollingFob$Settings", "wide", "I", false)
  | _ => ("RollingFob$Settings", "lock", "I", false)
def tyX4 : Nat → FieldType := fun k => match k with
  | 0 => .int
  | 1 => .int
  | _ => .int
abbrev wsX40 : List Cond := u_ws RX4 TX4 3
theorem nmX4 : ∀ a, a < 3 → ∀ b, b < 3 → a ≠ b → (TX4 a).2.1 ≠ (TX4 b).2.1 := by decide +kernel
theorem tyX4_ok : ∀ k, k < 3 → parseFieldDescriptor (TX4 k).2.2.1 = some (tyX4 k) := by decide +kernel
abbrev cX4_init : ByteArray := prog_6_method_1_code
def yX4_init : MethodName := ⟨RX4, "<init>", "()V"⟩
abbrev cX4_least : ByteArray := prog_6_method_2_code
def yX4_least : MethodName := ⟨RX4, "least", "(I)I"⟩
abbrev cX4_most : ByteArray := prog_6_method_3_code
def yX4_most : MethodName := ⟨RX4, "most", "(I)I"⟩
abbrev cX4_copyFrom : ByteArray := prog_6_method_4_code
def yX4_copyFrom : MethodName := ⟨RX4, "copyFrom", "(LRollingFob$Settings;)V"⟩
abbrev cX4_value : ByteArray := prog_6_method_5_code
def yX4_value : MethodName := ⟨RX4, "value", "(I)I"⟩
abbrev cX4_change : ByteArray := prog_6_method_6_code
def yX4_change : MethodName := ⟨RX4, "change", "(II)V"⟩
def RX5 : String := "RollingFob$Slot"
def TX5 : u_T := fun k => match k with
  | 0 => ("RollingFob$Slot", "learnt", "Z", false)
  | 1 => ("RollingFob$Slot", "secret", "I", false)
  | 2 => ("RollingFob$Slot", "last", "I", false)
  | _ => ("RollingFob$Slot", "noted", "I", false)
def tyX5 : Nat → FieldType := fun k => match k with
  | 0 => .boolean
  | 1 => .int
  | 2 => .int
  | _ => .int
abbrev wsX50 : List Cond := u_ws RX5 TX5 4
theorem nmX5 : ∀ a, a < 4 → ∀ b, b < 4 → a ≠ b → (TX5 a).2.1 ≠ (TX5 b).2.1 := by decide +kernel
theorem tyX5_ok : ∀ k, k < 4 → parseFieldDescriptor (TX5 k).2.2.1 = some (tyX5 k) := by decide +kernel
abbrev cX5_init : ByteArray := prog_7_method_1_code
def yX5_init : MethodName := ⟨RX5, "<init>", "()V"⟩
abbrev cX5_copyFrom : ByteArray := prog_7_method_2_code
def yX5_copyFrom : MethodName := ⟨RX5, "copyFrom", "(LRollingFob$Slot;)V"⟩
abbrev cX5_learnFrom : ByteArray := prog_7_method_3_code
def yX5_learnFrom : MethodName := ⟨RX5, "learnFrom", "(LRollingFob$Fob;)V"⟩
abbrev cX5_empty : ByteArray := prog_7_method_4_code
def yX5_empty : MethodName := ⟨RX5, "empty", "()V"⟩
abbrev cX5_stepsTo : ByteArray := prog_7_method_5_code
def yX5_stepsTo : MethodName := ⟨RX5, "stepsTo", "(II)I"⟩
abbrev cX5_take : ByteArray := prog_7_method_6_code
def yX5_take : MethodName := ⟨RX5, "take", "(II)Z"⟩
abbrev cX5_look : ByteArray := prog_7_method_7_code
def yX5_look : MethodName := ⟨RX5, "look", "(I)I"⟩
def RX6 : String := "RollingFob$State"
def TX6 : u_T := fun k => match k with
  | 0 => ("RollingFob$State", "fobs", "[LRollingFob$Fob;", true)
  | 1 => ("RollingFob$State", "doors", "[LRollingFob$Door;", true)
  | 2 => ("RollingFob$State", "air", "LRollingFob$Air;", true)
  | 3 => ("RollingFob$State", "settings", "LRollingFob$Settings;", true)
  | 4 => ("RollingFob$State", "sentAgain", "I", false)
  | _ => ("RollingFob$State", "openedAgain", "I", false)
def tyX6 : Nat → FieldType := fun k => match k with
  | 0 => .array (.object "RollingFob$Fob")
  | 1 => .array (.object "RollingFob$Door")
  | 2 => .object "RollingFob$Air"
  | 3 => .object "RollingFob$Settings"
  | 4 => .int
  | _ => .int
abbrev wsX60 : List Cond := u_ws RX6 TX6 6
theorem nmX6 : ∀ a, a < 6 → ∀ b, b < 6 → a ≠ b → (TX6 a).2.1 ≠ (TX6 b).2.1 := by decide +kernel
theorem tyX6_ok : ∀ k, k < 6 → parseFieldDescriptor (TX6 k).2.2.1 = some (tyX6 k) := by decide +kernel
abbrev cX6_init : ByteArray := prog_8_method_1_code
def yX6_init : MethodName := ⟨RX6, "<init>", "()V"⟩
abbrev cX6_copyFrom : ByteArray := prog_8_method_2_code
def yX6_copyFrom : MethodName := ⟨RX6, "copyFrom", "(LRollingFob$State;)V"⟩
abbrev cX6_canPress : ByteArray := prog_8_method_3_code
def yX6_canPress : MethodName := ⟨RX6, "canPress", "(I)Z"⟩
abbrev cX6_canSendAgain : ByteArray := prog_8_method_4_code
def yX6_canSendAgain : MethodName := ⟨RX6, "canSendAgain", "(I)Z"⟩
abbrev cX6_pressFob : ByteArray := prog_8_method_5_code
def yX6_pressFob : MethodName := ⟨RX6, "pressFob", "(II)I"⟩
abbrev cX6_sendAgain : ByteArray := prog_8_method_6_code
def yX6_sendAgain : MethodName := ⟨RX6, "sendAgain", "(II)I"⟩
abbrev cX6_send : ByteArray := prog_8_method_7_code
def yX6_send : MethodName := ⟨RX6, "send", "(II)I"⟩
abbrev cX6_presses : ByteArray := prog_8_method_9_code
def yX6_presses : MethodName := ⟨RX6, "presses", "()I"⟩
abbrev cX6_timesOpened : ByteArray := prog_8_method_10_code
def yX6_timesOpened : MethodName := ⟨RX6, "timesOpened", "()I"⟩
abbrev cX6_wrongNumbers : ByteArray := prog_8_method_11_code
def yX6_wrongNumbers : MethodName := ⟨RX6, "wrongNumbers", "()I"⟩
abbrev cX6_openDoors : ByteArray := prog_8_method_12_code
def yX6_openDoors : MethodName := ⟨RX6, "openDoors", "()I"⟩
abbrev cX6_lockedDoors : ByteArray := prog_8_method_13_code
def yX6_lockedDoors : MethodName := ⟨RX6, "lockedDoors", "()I"⟩
def RX7 : String := "RollingFob$Text"
def TX7 : u_T := fun k => match k with
  | 0 => ("RollingFob$Text", "codes", "[I", true)
  | _ => ("RollingFob$Text", "length", "I", false)
def tyX7 : Nat → FieldType := fun k => match k with
  | 0 => .array .int
  | _ => .int
abbrev wsX70 : List Cond := u_ws RX7 TX7 2
theorem nmX7 : ∀ a, a < 2 → ∀ b, b < 2 → a ≠ b → (TX7 a).2.1 ≠ (TX7 b).2.1 := by decide +kernel
theorem tyX7_ok : ∀ k, k < 2 → parseFieldDescriptor (TX7 k).2.2.1 = some (tyX7 k) := by decide +kernel
abbrev cX7_init : ByteArray := prog_9_method_1_code
def yX7_init : MethodName := ⟨RX7, "<init>", "()V"⟩
def RX8 : String := "RollingFob"
def TX8 : u_T := fun k => match k with
  | 0 => ("RollingFob", "state", "LRollingFob$State;", true)
  | 1 => ("RollingFob", "history", "LRollingFob$History;", true)
  | 2 => ("RollingFob", "text", "LRollingFob$Text;", true)
  | _ => ("RollingFob", "trial", "LRollingFob$Door;", true)
def tyX8 : Nat → FieldType := fun k => match k with
  | 0 => .object "RollingFob$State"
  | 1 => .object "RollingFob$History"
  | 2 => .object "RollingFob$Text"
  | _ => .object "RollingFob$Door"
abbrev wsX80 : List Cond := u_ws RX8 TX8 4
theorem nmX8 : ∀ a, a < 4 → ∀ b, b < 4 → a ≠ b → (TX8 a).2.1 ≠ (TX8 b).2.1 := by decide +kernel
theorem tyX8_ok : ∀ k, k < 4 → parseFieldDescriptor (TX8 k).2.2.1 = some (tyX8 k) := by decide +kernel
abbrev cX8_init : ByteArray := prog_1_method_1_code
def yX8_init : MethodName := ⟨RX8, "<init>", "()V"⟩
abbrev cX8_make : ByteArray := prog_1_method_2_code
def yX8_make : MethodName := ⟨RX8, "make", "(III)I"⟩
abbrev cX8_battery : ByteArray := prog_1_method_3_code
def yX8_battery : MethodName := ⟨RX8, "battery", "(II)I"⟩
abbrev cX8_press : ByteArray := prog_1_method_4_code
def yX8_press : MethodName := ⟨RX8, "press", "(II)I"⟩
abbrev cX8_again : ByteArray := prog_1_method_5_code
def yX8_again : MethodName := ⟨RX8, "again", "(II)I"⟩
abbrev cX8_learn : ByteArray := prog_1_method_6_code
def yX8_learn : MethodName := ⟨RX8, "learn", "(III)I"⟩
abbrev cX8_forget : ByteArray := prog_1_method_7_code
def yX8_forget : MethodName := ⟨RX8, "forget", "(II)I"⟩
abbrev cX8_shut : ByteArray := prog_1_method_8_code
def yX8_shut : MethodName := ⟨RX8, "shut", "(I)I"⟩
abbrev cX8_unlock : ByteArray := prog_1_method_9_code
def yX8_unlock : MethodName := ⟨RX8, "unlock", "(I)I"⟩
abbrev cX8_set : ByteArray := prog_1_method_10_code
def yX8_set : MethodName := ⟨RX8, "set", "(II)I"⟩
abbrev cX8_undo : ByteArray := prog_1_method_15_code
def yX8_undo : MethodName := ⟨RX8, "undo", "()I"⟩
abbrev cX8_fob : ByteArray := prog_1_method_16_code
def yX8_fob : MethodName := ⟨RX8, "fob", "(II)I"⟩
abbrev cX8_slot : ByteArray := prog_1_method_17_code
def yX8_slot : MethodName := ⟨RX8, "slot", "(III)I"⟩
abbrev cX8_door : ByteArray := prog_1_method_18_code
def yX8_door : MethodName := ⟨RX8, "door", "(II)I"⟩
abbrev cX8_air : ByteArray := prog_1_method_19_code
def yX8_air : MethodName := ⟨RX8, "air", "(I)I"⟩
abbrev cX8_count : ByteArray := prog_1_method_20_code
def yX8_count : MethodName := ⟨RX8, "count", "(I)I"⟩
abbrev cX8_setting : ByteArray := prog_1_method_21_code
def yX8_setting : MethodName := ⟨RX8, "setting", "(I)I"⟩
abbrev cX8_ifHeard : ByteArray := prog_1_method_22_code
def yX8_ifHeard : MethodName := ⟨RX8, "ifHeard", "(II)I"⟩
abbrev cX8_opensIn : ByteArray := prog_1_method_23_code
def yX8_opensIn : MethodName := ⟨RX8, "opensIn", "(II)I"⟩
abbrev cX8_unheard : ByteArray := prog_1_method_24_code
def yX8_unheard : MethodName := ⟨RX8, "unheard", "(II)I"⟩
abbrev cX8_useful : ByteArray := prog_1_method_25_code
def yX8_useful : MethodName := ⟨RX8, "useful", "(I)I"⟩
abbrev cX8_openShare : ByteArray := prog_1_method_26_code
def yX8_openShare : MethodName := ⟨RX8, "openShare", "()D"⟩
abbrev cX8_needIndex : ByteArray := prog_1_method_28_code
def yX8_needIndex : MethodName := ⟨RX8, "needIndex", "(II)V"⟩
abbrev cX8_needRange : ByteArray := prog_1_method_29_code
def yX8_needRange : MethodName := ⟨RX8, "needRange", "(III)V"⟩
abbrev cX8_needArgument : ByteArray := prog_1_method_30_code
def yX8_needArgument : MethodName := ⟨RX8, "needArgument", "(Z)V"⟩
abbrev cX8_needState : ByteArray := prog_1_method_31_code
def yX8_needState : MethodName := ⟨RX8, "needState", "(Z)V"⟩
abbrev cX8_numberOf : ByteArray := prog_1_method_32_code
def yX8_numberOf : MethodName := ⟨RX8, "numberOf", "(II)I"⟩
abbrev cX8_counterBehind : ByteArray := prog_1_method_33_code
def yX8_counterBehind : MethodName := ⟨RX8, "counterBehind", "(I)I"⟩
abbrev cX8_counted : ByteArray := prog_1_method_35_code
def yX8_counted : MethodName := ⟨RX8, "counted", "(I)I"⟩
abbrev cX8_tryNumber : ByteArray := prog_1_method_36_code
def yX8_tryNumber : MethodName := ⟨RX8, "tryNumber", "(LRollingFob$Door;I)I"⟩
abbrev cX8_pressesToOpen : ByteArray := prog_1_method_37_code
def yX8_pressesToOpen : MethodName := ⟨RX8, "pressesToOpen", "(LRollingFob$Fob;LRollingFob$Door;)I"⟩
abbrev cX8_mostUnheard : ByteArray := prog_1_method_38_code
def yX8_mostUnheard : MethodName := ⟨RX8, "mostUnheard", "(LRollingFob$Fob;LRollingFob$Door;)I"⟩
abbrev cX8_firstUseful : ByteArray := prog_1_method_39_code
def yX8_firstUseful : MethodName := ⟨RX8, "firstUseful", "(LRollingFob$Door;)I"⟩
def RX9 : String := "RollingFobModel"
def TX9 : u_T := fun k => match k with
  | _ => ("", "", "", false)
def tyX9 : Nat → FieldType := fun k => match k with
  | _ => .int
abbrev wsX90 : List Cond := u_ws RX9 TX9 0
theorem nmX9 : ∀ a, a < 0 → ∀ b, b < 0 → a ≠ b → (TX9 a).2.1 ≠ (TX9 b).2.1 := by decide +kernel
theorem tyX9_ok : ∀ k, k < 0 → parseFieldDescriptor (TX9 k).2.2.1 = some (tyX9 k) := by decide +kernel
def RJ6 : String := "java/lang/Integer"
def TJ6 : u_T := fun k => match k with
  | _ => ("", "", "", false)
def tyJ6 : Nat → FieldType := fun k => match k with
  | _ => .int
abbrev wsJ60 : List Cond := u_ws RJ6 TJ6 0
theorem nmJ6 : ∀ a, a < 0 → ∀ b, b < 0 → a ≠ b → (TJ6 a).2.1 ≠ (TJ6 b).2.1 := by decide +kernel
theorem tyJ6_ok : ∀ k, k < 0 → parseFieldDescriptor (TJ6 k).2.2.1 = some (tyJ6 k) := by decide +kernel
abbrev cJ6_bitCount_0f7a4 : ByteArray := prog_16_method_49_code
def yJ6_bitCount_0f7a4 : MethodName := ⟨RJ6, "bitCount", "(I)I"⟩
def RJ9 : String := "java/lang/Math"
def TJ9 : u_T := fun k => match k with
  | _ => ("", "", "", false)
def tyJ9 : Nat → FieldType := fun k => match k with
  | _ => .int
abbrev wsJ90 : List Cond := u_ws RJ9 TJ9 0
theorem nmJ9 : ∀ a, a < 0 → ∀ b, b < 0 → a ≠ b → (TJ9 a).2.1 ≠ (TJ9 b).2.1 := by decide +kernel
theorem tyJ9_ok : ∀ k, k < 0 → parseFieldDescriptor (TJ9 k).2.2.1 = some (tyJ9 k) := by decide +kernel
abbrev cJ9_floorMod_7cf53 : ByteArray := prog_17_method_50_code
def yJ9_floorMod_7cf53 : MethodName := ⟨RJ9, "floorMod", "(II)I"⟩
abbrev cJ9_min_7cf53 : ByteArray := prog_17_method_69_code
def yJ9_min_7cf53 : MethodName := ⟨RJ9, "min", "(II)I"⟩
def RJ10 : String := "java/lang/System"
def TJ10 : u_T := fun k => match k with
  | _ => ("", "", "", false)
def tyJ10 : Nat → FieldType := fun k => match k with
  | _ => .int
abbrev wsJ100 : List Cond := u_ws RJ10 TJ10 0
theorem nmJ10 : ∀ a, a < 0 → ∀ b, b < 0 → a ≠ b → (TJ10 a).2.1 ≠ (TJ10 b).2.1 := by decide +kernel
theorem tyJ10_ok : ∀ k, k < 0 → parseFieldDescriptor (TJ10 k).2.2.1 = some (tyJ10 k) := by decide +kernel
def RL : String := "RollingFobLaw"
abbrev cL_low : ByteArray := method_2_code
def yL_low : MethodName := ⟨RL, "low", "(II)I"⟩
abbrev cL_cell : ByteArray := method_3_code
def yL_cell : MethodName := ⟨RL, "cell", "([II)I"⟩
abbrev cL_press : ByteArray := method_4_code
def yL_press : MethodName := ⟨RL, "press", "(LRollingFob;II)I"⟩
abbrev cL_again : ByteArray := method_5_code
def yL_again : MethodName := ⟨RL, "again", "(LRollingFob;II)I"⟩
abbrev cL_undo : ByteArray := method_6_code
def yL_undo : MethodName := ⟨RL, "undo", "(LRollingFob;)I"⟩
abbrev cL_yard : ByteArray := method_7_code
def yL_yard : MethodName := ⟨RL, "yard", "(LRollingFob;)Z"⟩
abbrev cL_act : ByteArray := method_8_code
def yL_act : MethodName := ⟨RL, "act", "(LRollingFob;[II)I"⟩
abbrev cL_law : ByteArray := code
def yL_law : MethodName := ⟨RL, "law", "([I)Z"⟩
abbrev vwCl : List vw_C := [(RX0, TX0, 2), (RX1, TX1, 7), (RX2, TX2, 4), (RX3, TX3, 3), (RX4, TX4, 3), (RX5, TX5, 4), (RX6, TX6, 6), (RX7, TX7, 2), (RX8, TX8, 4)]
