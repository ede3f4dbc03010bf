section
-- ===== PART A: goes FIRST, ahead of the names: the tables' words, and 'selects' of the private methods out of them =====
/-- a private method of a class that the tables say can be made, by its rows of tables_1 -/
def lw_okq (q : MethodName × Nat) : Prop := (q.1.cls ≠ "java/lang/invoke/MethodHandle" ∧ q.1.cls ≠ "java/lang/invoke/VarHandle") ∧ Cond.instantiable q.1.cls q.2 ∈ tables_1 ∧ Cond.privateMethod q.1 ∈ tables_1 ∧ Cond.instanceMethod q.1 ∈ tables_1
theorem lw_p0 : lw_okq (⟨"RollingFob", "counted", "(I)I"⟩, 4) := ⟨⟨by decide +kernel, by decide +kernel⟩, List.mem_of_getElem? (i := 22) (by decide +kernel), List.mem_of_getElem? (i := 270) (by decide +kernel), List.mem_of_getElem? (i := 271) (by decide +kernel)⟩
theorem lw_p1 : lw_okq (⟨"RollingFob", "mixedDoor", "(JLRollingFob$Door;)J"⟩, 4) := ⟨⟨by decide +kernel, by decide +kernel⟩, List.mem_of_getElem? (i := 22) (by decide +kernel), List.mem_of_getElem? (i := 310) (by decide +kernel), List.mem_of_getElem? (i := 311) (by decide +kernel)⟩
theorem lw_p2 : lw_okq (⟨"RollingFob", "firstUseful", "(LRollingFob$Door;)I"⟩, 4) := ⟨⟨by decide +kernel, by decide +kernel⟩, List.mem_of_getElem? (i := 22) (by decide +kernel), List.mem_of_getElem? (i := 328) (by decide +kernel), List.mem_of_getElem? (i := 329) (by decide +kernel)⟩
theorem lw_p3 : lw_okq (⟨"RollingFob", "tryNumber", "(LRollingFob$Door;I)I"⟩, 4) := ⟨⟨by decide +kernel, by decide +kernel⟩, List.mem_of_getElem? (i := 22) (by decide +kernel), List.mem_of_getElem? (i := 336) (by decide +kernel), List.mem_of_getElem? (i := 337) (by decide +kernel)⟩
theorem lw_p4 : lw_okq (⟨"RollingFob", "pressesToOpen", "(LRollingFob$Fob;LRollingFob$Door;)I"⟩, 4) := ⟨⟨by decide +kernel, by decide +kernel⟩, List.mem_of_getElem? (i := 22) (by decide +kernel), List.mem_of_getElem? (i := 362) (by decide +kernel), List.mem_of_getElem? (i := 363) (by decide +kernel)⟩
theorem lw_p5 : lw_okq (⟨"RollingFob", "mostUnheard", "(LRollingFob$Fob;LRollingFob$Door;)I"⟩, 4) := ⟨⟨by decide +kernel, by decide +kernel⟩, List.mem_of_getElem? (i := 22) (by decide +kernel), List.mem_of_getElem? (i := 371) (by decide +kernel), List.mem_of_getElem? (i := 372) (by decide +kernel)⟩
theorem lw_p6 : lw_okq (⟨"java/lang/Throwable", "fillInStackTrace", "(I)Ljava/lang/Throwable;"⟩, 6) := ⟨⟨by decide +kernel, by decide +kernel⟩, List.mem_of_getElem? (i := 433) (by decide +kernel), List.mem_of_getElem? (i := 431) (by decide +kernel), List.mem_of_getElem? (i := 432) (by decide +kernel)⟩
theorem lw_p7 : lw_okq (⟨"RollingFob$State", "send", "(II)I"⟩, 6) := ⟨⟨by decide +kernel, by decide +kernel⟩, List.mem_of_getElem? (i := 30) (by decide +kernel), List.mem_of_getElem? (i := 555) (by decide +kernel), List.mem_of_getElem? (i := 556) (by decide +kernel)⟩
theorem lw_p8 : lw_okq (⟨"RollingFob", "playPart", "(II)Z"⟩, 4) := ⟨⟨by decide +kernel, by decide +kernel⟩, List.mem_of_getElem? (i := 22) (by decide +kernel), List.mem_of_getElem? (i := 662) (by decide +kernel), List.mem_of_getElem? (i := 663) (by decide +kernel)⟩
theorem lw_p9 : lw_okq (⟨"RollingFobModel", "fails", "(I)I"⟩, 13) := ⟨⟨by decide +kernel, by decide +kernel⟩, List.mem_of_getElem? (i := 761) (by decide +kernel), List.mem_of_getElem? (i := 815) (by decide +kernel), List.mem_of_getElem? (i := 816) (by decide +kernel)⟩
theorem lw_p10 : lw_okq (⟨"RollingFobModel", "saves", "()V"⟩, 13) := ⟨⟨by decide +kernel, by decide +kernel⟩, List.mem_of_getElem? (i := 761) (by decide +kernel), List.mem_of_getElem? (i := 832) (by decide +kernel), List.mem_of_getElem? (i := 833) (by decide +kernel)⟩
theorem lw_p11 : lw_okq (⟨"RollingFobModel", "changes", "(II)I"⟩, 13) := ⟨⟨by decide +kernel, by decide +kernel⟩, List.mem_of_getElem? (i := 761) (by decide +kernel), List.mem_of_getElem? (i := 836) (by decide +kernel), List.mem_of_getElem? (i := 837) (by decide +kernel)⟩
theorem lw_p12 : lw_okq (⟨"RollingFobModel", "presses", "([III)I"⟩, 13) := ⟨⟨by decide +kernel, by decide +kernel⟩, List.mem_of_getElem? (i := 761) (by decide +kernel), List.mem_of_getElem? (i := 848) (by decide +kernel), List.mem_of_getElem? (i := 849) (by decide +kernel)⟩
theorem lw_p13 : lw_okq (⟨"RollingFobModel", "heard", "([III)I"⟩, 13) := ⟨⟨by decide +kernel, by decide +kernel⟩, List.mem_of_getElem? (i := 761) (by decide +kernel), List.mem_of_getElem? (i := 863) (by decide +kernel), List.mem_of_getElem? (i := 864) (by decide +kernel)⟩
theorem lw_p14 : lw_okq (⟨"RollingFobModel", "hears", "([III)Z"⟩, 13) := ⟨⟨by decide +kernel, by decide +kernel⟩, List.mem_of_getElem? (i := 761) (by decide +kernel), List.mem_of_getElem? (i := 867) (by decide +kernel), List.mem_of_getElem? (i := 868) (by decide +kernel)⟩
theorem lw_p15 : lw_okq (⟨"RollingFobModel", "would", "([III)I"⟩, 13) := ⟨⟨by decide +kernel, by decide +kernel⟩, List.mem_of_getElem? (i := 761) (by decide +kernel), List.mem_of_getElem? (i := 871) (by decide +kernel), List.mem_of_getElem? (i := 872) (by decide +kernel)⟩
def lw_privs_1 : List (MethodName × Nat) := [(⟨"RollingFob", "counted", "(I)I"⟩, 4), (⟨"RollingFob", "mixedDoor", "(JLRollingFob$Door;)J"⟩, 4), (⟨"RollingFob", "firstUseful", "(LRollingFob$Door;)I"⟩, 4), (⟨"RollingFob", "tryNumber", "(LRollingFob$Door;I)I"⟩, 4), (⟨"RollingFob", "pressesToOpen", "(LRollingFob$Fob;LRollingFob$Door;)I"⟩, 4), (⟨"RollingFob", "mostUnheard", "(LRollingFob$Fob;LRollingFob$Door;)I"⟩, 4), (⟨"java/lang/Throwable", "fillInStackTrace", "(I)Ljava/lang/Throwable;"⟩, 6), (⟨"RollingFob$State", "send", "(II)I"⟩, 6), (⟨"RollingFob", "playPart", "(II)Z"⟩, 4), (⟨"RollingFobModel", "fails", "(I)I"⟩, 13), (⟨"RollingFobModel", "saves", "()V"⟩, 13), (⟨"RollingFobModel", "changes", "(II)I"⟩, 13), (⟨"RollingFobModel", "presses", "([III)I"⟩, 13), (⟨"RollingFobModel", "heard", "([III)I"⟩, 13), (⟨"RollingFobModel", "hears", "([III)Z"⟩, 13), (⟨"RollingFobModel", "would", "([III)I"⟩, 13)]
theorem lw_r1 : ∀ q ∈ lw_privs_1, lw_okq q := List.forall_mem_cons.mpr ⟨lw_p0, List.forall_mem_cons.mpr ⟨lw_p1, List.forall_mem_cons.mpr ⟨lw_p2, List.forall_mem_cons.mpr ⟨lw_p3, List.forall_mem_cons.mpr ⟨lw_p4, List.forall_mem_cons.mpr ⟨lw_p5, List.forall_mem_cons.mpr ⟨lw_p6, List.forall_mem_cons.mpr ⟨lw_p7, List.forall_mem_cons.mpr ⟨lw_p8, List.forall_mem_cons.mpr ⟨lw_p9, List.forall_mem_cons.mpr ⟨lw_p10, List.forall_mem_cons.mpr ⟨lw_p11, List.forall_mem_cons.mpr ⟨lw_p12, List.forall_mem_cons.mpr ⟨lw_p13, List.forall_mem_cons.mpr ⟨lw_p14, List.forall_mem_cons.mpr ⟨lw_p15, fun _ h => absurd h List.not_mem_nil⟩⟩⟩⟩⟩⟩⟩⟩⟩⟩⟩⟩⟩⟩⟩⟩
theorem lw_p16 : lw_okq (⟨"RollingFobModel", "looks", "([III)V"⟩, 13) := ⟨⟨by decide +kernel, by decide +kernel⟩, List.mem_of_getElem? (i := 761) (by decide +kernel), List.mem_of_getElem? (i := 878) (by decide +kernel), List.mem_of_getElem? (i := 879) (by decide +kernel)⟩
theorem lw_p17 : lw_okq (⟨"RollingFobModel", "sends", "(II)I"⟩, 13) := ⟨⟨by decide +kernel, by decide +kernel⟩, List.mem_of_getElem? (i := 761) (by decide +kernel), List.mem_of_getElem? (i := 889) (by decide +kernel), List.mem_of_getElem? (i := 890) (by decide +kernel)⟩
theorem lw_p18 : lw_okq (⟨"RollingFobModel", "learnt", "(I)I"⟩, 13) := ⟨⟨by decide +kernel, by decide +kernel⟩, List.mem_of_getElem? (i := 761) (by decide +kernel), List.mem_of_getElem? (i := 906) (by decide +kernel), List.mem_of_getElem? (i := 907) (by decide +kernel)⟩
theorem lw_p19 : lw_okq (⟨"RollingFobModel", "isText", "()Z"⟩, 13) := ⟨⟨by decide +kernel, by decide +kernel⟩, List.mem_of_getElem? (i := 761) (by decide +kernel), List.mem_of_getElem? (i := 938) (by decide +kernel), List.mem_of_getElem? (i := 939) (by decide +kernel)⟩
theorem lw_p20 : lw_okq (⟨"RollingFobModel", "isPart", "()Z"⟩, 13) := ⟨⟨by decide +kernel, by decide +kernel⟩, List.mem_of_getElem? (i := 761) (by decide +kernel), List.mem_of_getElem? (i := 942) (by decide +kernel), List.mem_of_getElem? (i := 943) (by decide +kernel)⟩
theorem lw_p21 : lw_okq (⟨"RollingFobModel", "stops", "()Z"⟩, 13) := ⟨⟨by decide +kernel, by decide +kernel⟩, List.mem_of_getElem? (i := 761) (by decide +kernel), List.mem_of_getElem? (i := 946) (by decide +kernel), List.mem_of_getElem? (i := 947) (by decide +kernel)⟩
theorem lw_p22 : lw_okq (⟨"RollingFobModel", "isDigit", "(I)Z"⟩, 13) := ⟨⟨by decide +kernel, by decide +kernel⟩, List.mem_of_getElem? (i := 761) (by decide +kernel), List.mem_of_getElem? (i := 950) (by decide +kernel), List.mem_of_getElem? (i := 951) (by decide +kernel)⟩
theorem lw_p23 : lw_okq (⟨"RollingFobModel", "isAt", "(II)Z"⟩, 13) := ⟨⟨by decide +kernel, by decide +kernel⟩, List.mem_of_getElem? (i := 761) (by decide +kernel), List.mem_of_getElem? (i := 954) (by decide +kernel), List.mem_of_getElem? (i := 955) (by decide +kernel)⟩
theorem lw_p24 : lw_okq (⟨"RollingFobModel", "areDoors", "()Z"⟩, 13) := ⟨⟨by decide +kernel, by decide +kernel⟩, List.mem_of_getElem? (i := 761) (by decide +kernel), List.mem_of_getElem? (i := 958) (by decide +kernel), List.mem_of_getElem? (i := 959) (by decide +kernel)⟩
theorem lw_p25 : lw_okq (⟨"RollingFobModel", "does", "(I)Z"⟩, 13) := ⟨⟨by decide +kernel, by decide +kernel⟩, List.mem_of_getElem? (i := 761) (by decide +kernel), List.mem_of_getElem? (i := 966) (by decide +kernel), List.mem_of_getElem? (i := 967) (by decide +kernel)⟩
theorem lw_p26 : lw_okq (⟨"RollingFobModel", "ofFob", "(II)I"⟩, 13) := ⟨⟨by decide +kernel, by decide +kernel⟩, List.mem_of_getElem? (i := 761) (by decide +kernel), List.mem_of_getElem? (i := 974) (by decide +kernel), List.mem_of_getElem? (i := 975) (by decide +kernel)⟩
theorem lw_p27 : lw_okq (⟨"RollingFobModel", "ofSlot", "(III)I"⟩, 13) := ⟨⟨by decide +kernel, by decide +kernel⟩, List.mem_of_getElem? (i := 761) (by decide +kernel), List.mem_of_getElem? (i := 982) (by decide +kernel), List.mem_of_getElem? (i := 983) (by decide +kernel)⟩
theorem lw_p28 : lw_okq (⟨"RollingFobModel", "ofDoor", "(II)I"⟩, 13) := ⟨⟨by decide +kernel, by decide +kernel⟩, List.mem_of_getElem? (i := 761) (by decide +kernel), List.mem_of_getElem? (i := 990) (by decide +kernel), List.mem_of_getElem? (i := 991) (by decide +kernel)⟩
theorem lw_p29 : lw_okq (⟨"RollingFobModel", "counted", "(I)I"⟩, 13) := ⟨⟨by decide +kernel, by decide +kernel⟩, List.mem_of_getElem? (i := 761) (by decide +kernel), List.mem_of_getElem? (i := 1002) (by decide +kernel), List.mem_of_getElem? (i := 1003) (by decide +kernel)⟩
theorem lw_p30 : lw_okq (⟨"RollingFobModel", "ofDoors", "(I)I"⟩, 13) := ⟨⟨by decide +kernel, by decide +kernel⟩, List.mem_of_getElem? (i := 761) (by decide +kernel), List.mem_of_getElem? (i := 1006) (by decide +kernel), List.mem_of_getElem? (i := 1007) (by decide +kernel)⟩
theorem lw_p31 : lw_okq (⟨"RollingFobModel", "opens", "(II)I"⟩, 13) := ⟨⟨by decide +kernel, by decide +kernel⟩, List.mem_of_getElem? (i := 761) (by decide +kernel), List.mem_of_getElem? (i := 1023) (by decide +kernel), List.mem_of_getElem? (i := 1024) (by decide +kernel)⟩
def lw_privs_2 : List (MethodName × Nat) := [(⟨"RollingFobModel", "looks", "([III)V"⟩, 13), (⟨"RollingFobModel", "sends", "(II)I"⟩, 13), (⟨"RollingFobModel", "learnt", "(I)I"⟩, 13), (⟨"RollingFobModel", "isText", "()Z"⟩, 13), (⟨"RollingFobModel", "isPart", "()Z"⟩, 13), (⟨"RollingFobModel", "stops", "()Z"⟩, 13), (⟨"RollingFobModel", "isDigit", "(I)Z"⟩, 13), (⟨"RollingFobModel", "isAt", "(II)Z"⟩, 13), (⟨"RollingFobModel", "areDoors", "()Z"⟩, 13), (⟨"RollingFobModel", "does", "(I)Z"⟩, 13), (⟨"RollingFobModel", "ofFob", "(II)I"⟩, 13), (⟨"RollingFobModel", "ofSlot", "(III)I"⟩, 13), (⟨"RollingFobModel", "ofDoor", "(II)I"⟩, 13), (⟨"RollingFobModel", "counted", "(I)I"⟩, 13), (⟨"RollingFobModel", "ofDoors", "(I)I"⟩, 13), (⟨"RollingFobModel", "opens", "(II)I"⟩, 13)]
theorem lw_r2 : ∀ q ∈ lw_privs_2, lw_okq q := List.forall_mem_cons.mpr ⟨lw_p16, List.forall_mem_cons.mpr ⟨lw_p17, List.forall_mem_cons.mpr ⟨lw_p18, List.forall_mem_cons.mpr ⟨lw_p19, List.forall_mem_cons.mpr ⟨lw_p20, List.forall_mem_cons.mpr ⟨lw_p21, List.forall_mem_cons.mpr ⟨lw_p22, List.forall_mem_cons.mpr ⟨lw_p23, List.forall_mem_cons.mpr ⟨lw_p24, List.forall_mem_cons.mpr ⟨lw_p25, List.forall_mem_cons.mpr ⟨lw_p26, List.forall_mem_cons.mpr ⟨lw_p27, List.forall_mem_cons.mpr ⟨lw_p28, List.forall_mem_cons.mpr ⟨lw_p29, List.forall_mem_cons.mpr ⟨lw_p30, List.forall_mem_cons.mpr ⟨lw_p31, fun _ h => absurd h List.not_mem_nil⟩⟩⟩⟩⟩⟩⟩⟩⟩⟩⟩⟩⟩⟩⟩⟩
theorem lw_p32 : lw_okq (⟨"RollingFobModel", "misses", "(II)I"⟩, 13) := ⟨⟨by decide +kernel, by decide +kernel⟩, List.mem_of_getElem? (i := 761) (by decide +kernel), List.mem_of_getElem? (i := 1031) (by decide +kernel), List.mem_of_getElem? (i := 1032) (by decide +kernel)⟩
theorem lw_p33 : lw_okq (⟨"RollingFobModel", "first", "(I)I"⟩, 13) := ⟨⟨by decide +kernel, by decide +kernel⟩, List.mem_of_getElem? (i := 761) (by decide +kernel), List.mem_of_getElem? (i := 1039) (by decide +kernel), List.mem_of_getElem? (i := 1040) (by decide +kernel)⟩
theorem lw_p34 : lw_okq (⟨"RollingFobModel", "share", "()D"⟩, 13) := ⟨⟨by decide +kernel, by decide +kernel⟩, List.mem_of_getElem? (i := 761) (by decide +kernel), List.mem_of_getElem? (i := 1047) (by decide +kernel), List.mem_of_getElem? (i := 1048) (by decide +kernel)⟩
def lw_privs_3 : List (MethodName × Nat) := [(⟨"RollingFobModel", "misses", "(II)I"⟩, 13), (⟨"RollingFobModel", "first", "(I)I"⟩, 13), (⟨"RollingFobModel", "share", "()D"⟩, 13)]
theorem lw_r3 : ∀ q ∈ lw_privs_3, lw_okq q := List.forall_mem_cons.mpr ⟨lw_p32, List.forall_mem_cons.mpr ⟨lw_p33, List.forall_mem_cons.mpr ⟨lw_p34, fun _ h => absurd h List.not_mem_nil⟩⟩⟩
def lw_privs : List (MethodName × Nat) := lw_privs_1 ++ (lw_privs_2 ++ (lw_privs_3))
def lw_tbl : List Cond := k2_sels lw_privs ++ tables_1
theorem lw_privs_ok : ∀ q ∈ lw_privs, lw_okq q := by
  show ∀ q ∈ lw_privs_1 ++ (lw_privs_2 ++ (lw_privs_3)), lw_okq q
  exact List.forall_mem_append.mpr ⟨lw_r1, List.forall_mem_append.mpr ⟨lw_r2, lw_r3⟩⟩
/-- the streams that the claim lets the run draw from -/
abbrev lw_cs : List Choice := [Jvm.Choice.named "NaN.bits"]
theorem lw_bits : nanBits ∈ lw_cs := by first | decide | exact List.mem_cons_self | simp [lw_cs, nanBits]
def RX0 : String := "RollingFob$Air"
def TX0 : u_T := fun k => match k with
  | 0 => ("RollingFob$Air", "numbers", "[I", true)
  | _ => ("RollingFob$Air", "length", "I", false)
def tyX0 : Nat → FieldType := fun k => match k with
  | 0 => .array .int
  | _ => .int
abbrev wsX00 : List Cond := u_ws RX0 TX0 2
theorem nmX0 : ∀ a, a < 2 → ∀ b, b < 2 → a ≠ b → (TX0 a).2.1 ≠ (TX0 b).2.1 := by decide +kernel
theorem tyX0_ok : ∀ k, k < 2 → parseFieldDescriptor (TX0 k).2.2.1 = some (tyX0 k) := by decide +kernel
abbrev cX0_init : ByteArray := prog_2_method_1_code
def yX0_init : MethodName := ⟨RX0, "<init>", "()V"⟩
abbrev cX0_copyFrom : ByteArray := prog_2_method_2_code
def yX0_copyFrom : MethodName := ⟨RX0, "copyFrom", "(LRollingFob$Air;)V"⟩
abbrev cX0_record : ByteArray := prog_2_method_3_code
def yX0_record : MethodName := ⟨RX0, "record", "(I)V"⟩
abbrev cX0_number : ByteArray := prog_2_method_4_code
def yX0_number : MethodName := ⟨RX0, "number", "(I)I"⟩
def RX1 : String := "RollingFob$Door"
def TX1 : u_T := fun k => match k with
  | 0 => ("RollingFob$Door", "slots", "[LRollingFob$Slot;", true)
  | 1 => ("RollingFob$Door", "open", "Z", false)
  | 2 => ("RollingFob$Door", "wrongInRow", "I", false)
  | 3 => ("RollingFob$Door", "opened", "I", false)
  | 4 => ("RollingFob$Door", "notes", "I", false)
  | 5 => ("RollingFob$Door", "wrongs", "I", false)
  | _ => ("RollingFob$Door", "heardLocked", "I", false)
def tyX1 : Nat → FieldType := fun k => match k with
  | 0 => .array (.object "RollingFob$Slot")
  | 1 => .boolean
  | 2 => .int
  | 3 => .int
  | 4 => .int
  | 5 => .int
  | _ => .int
abbrev wsX10 : List Cond := u_ws RX1 TX1 7
theorem nmX1 : ∀ a, a < 7 → ∀ b, b < 7 → a ≠ b → (TX1 a).2.1 ≠ (TX1 b).2.1 := by decide +kernel
theorem tyX1_ok : ∀ k, k < 7 → parseFieldDescriptor (TX1 k).2.2.1 = some (tyX1 k) := by decide +kernel
abbrev cX1_init : ByteArray := prog_3_method_1_code
def yX1_init : MethodName := ⟨RX1, "<init>", "()V"⟩
abbrev cX1_copyFrom : ByteArray := prog_3_method_2_code
def yX1_copyFrom : MethodName := ⟨RX1, "copyFrom", "(LRollingFob$Door;)V"⟩
abbrev cX1_isLocked : ByteArray := prog_3_method_3_code
def yX1_isLocked : MethodName := ⟨RX1, "isLocked", "(LRollingFob$Settings;)Z"⟩
abbrev cX1_learntSlots : ByteArray := prog_3_method_4_code
def yX1_learntSlots : MethodName := ⟨RX1, "learntSlots", "()I"⟩
abbrev cX1_hear : ByteArray := prog_3_method_5_code
def yX1_hear : MethodName := ⟨RX1, "hear", "(ILRollingFob$Settings;)I"⟩
abbrev cX1_look : ByteArray := prog_3_method_6_code
def yX1_look : MethodName := ⟨RX1, "look", "(ILRollingFob$Settings;)I"⟩
def RX2 : String := "RollingFob$Fob"
def TX2 : u_T := fun k => match k with
  | 0 => ("RollingFob$Fob", "secret", "I", false)
  | 1 => ("RollingFob$Fob", "counter", "I", false)
  | 2 => ("RollingFob$Fob", "battery", "I", false)
  | _ => ("RollingFob$Fob", "presses", "I", false)
def tyX2 : Nat → FieldType := fun k => match k with
  | 0 => .int
  | 1 => .int
  | 2 => .int
  | _ => .int
abbrev wsX20 : List Cond := u_ws RX2 TX2 4
theorem nmX2 : ∀ a, a < 4 → ∀ b, b < 4 → a ≠ b → (TX2 a).2.1 ≠ (TX2 b).2.1 := by decide +kernel
theorem tyX2_ok : ∀ k, k < 4 → parseFieldDescriptor (TX2 k).2.2.1 = some (tyX2 k) := by decide +kernel
abbrev cX2_init : ByteArray := prog_4_method_1_code
def yX2_init : MethodName := ⟨RX2, "<init>", "(I)V"⟩
abbrev cX2_copyFrom : ByteArray := prog_4_method_2_code
def yX2_copyFrom : MethodName := ⟨RX2, "copyFrom", "(LRollingFob$Fob;)V"⟩
abbrev cX2_sendNext : ByteArray := prog_4_method_3_code
def yX2_sendNext : MethodName := ⟨RX2, "sendNext", "()I"⟩
abbrev cX2_look : ByteArray := prog_4_method_4_code
def yX2_look : MethodName := ⟨RX2, "look", "(I)I"⟩
def RX3 : String := "RollingFob$History"
def TX3 : u_T := fun k => match k with
  | 0 => ("RollingFob$History", "saved", "[LRollingFob$State;", true)
  | 1 => ("RollingFob$History", "next", "I", false)
  | _ => ("RollingFob$History", "length", "I", false)
def tyX3 : Nat → FieldType := fun k => match k with
  | 0 => .array (.object "RollingFob$State")
  | 1 => .int
  | _ => .int
abbrev wsX30 : List Cond := u_ws RX3 TX3 3
theorem nmX3 : ∀ a, a < 3 → ∀ b, b < 3 → a ≠ b → (TX3 a).2.1 ≠ (TX3 b).2.1 := by decide +kernel
theorem tyX3_ok : ∀ k, k < 3 → parseFieldDescriptor (TX3 k).2.2.1 = some (tyX3 k) := by decide +kernel
abbrev cX3_init : ByteArray := prog_5_method_1_code
def yX3_init : MethodName := ⟨RX3, "<init>", "()V"⟩
abbrev cX3_keep : ByteArray := prog_5_method_2_code
def yX3_keep : MethodName := ⟨RX3, "keep", "(LRollingFob$State;)V"⟩
abbrev cX3_restore : ByteArray := prog_5_method_3_code
def yX3_restore : MethodName := ⟨RX3, "restore", "(LRollingFob$State;)V"⟩
def RX4 : String := "RollingFob$Settings"
def TX4 : u_T := fun k => match k with
  | 0 => ("RollingFob$Settings", "window", "I", false)
  | 1 => ("RollingFob$Settings", "wide", "I", false)
  | _ => ("RollingFob$Settings", "lock", "I", false)
def tyX4 : Nat → FieldType := fun k => match k with
  | 0 => .int
  | 1 => .int
  | _ => .int
abbrev wsX40 : List Cond := u_ws RX4 TX4 3
theorem nmX4 : ∀ a, a < 3 → ∀ b, b < 3 → a ≠ b → (TX4 a).2.1 ≠ (TX4 b).2.1 := by decide +kernel
theorem tyX4_ok : ∀ k, k < 3 → parseFieldDescriptor (TX4 k).2.2.1 = some (tyX4 k) := by decide +kernel
abbrev cX4_init : ByteArray := prog_6_method_1_code
def yX4_init : MethodName := ⟨RX4, "<init>", "()V"⟩
abbrev cX4_least : ByteArray := prog_6_method_2_code
def yX4_least : MethodName := ⟨RX4, "least", "(I)I"⟩
abbrev cX4_most : ByteArray := prog_6_method_3_code
def yX4_most : MethodName := ⟨RX4, "most", "(I)I"⟩
abbrev cX4_copyFrom : ByteArray := prog_6_method_4_code
def yX4_copyFrom : MethodName := ⟨RX4, "copyFrom", "(LRollingFob$Settings;)V"⟩
abbrev cX4_value : ByteArray := prog_6_method_5_code
def yX4_value : MethodName := ⟨RX4, "value", "(I)I"⟩
abbrev cX4_change : ByteArray := prog_6_method_6_code
def yX4_change : MethodName := ⟨RX4, "change", "(II)V"⟩
def RX5 : String := "RollingFob$Slot"
def TX5 : u_T := fun k => match k with
  | 0 => ("RollingFob$Slot", "learnt", "Z", false)
  | 1 => ("RollingFob$Slot", "secret", "I", false)
  | 2 => ("RollingFob$Slot", "last", "I", false)
  | _ => ("RollingFob$Slot", "noted", "I", false)
def tyX5 : Nat → FieldType := fun k => match k with
  | 0 => .boolean
  | 1 => .int
  | 2 => .int
  | _ => .int
abbrev wsX50 : List Cond := u_ws RX5 TX5 4
theorem nmX5 : ∀ a, a < 4 → ∀ b, b < 4 → a ≠ b → (TX5 a).2.1 ≠ (TX5 b).2.1 := by decide +kernel
theorem tyX5_ok : ∀ k, k < 4 → parseFieldDescriptor (TX5 k).2.2.1 = some (tyX5 k) := by decide +kernel
abbrev cX5_init : ByteArray := prog_7_method_1_code
def yX5_init : MethodName := ⟨RX5, "<init>", "()V"⟩
abbrev cX5_copyFrom : ByteArray := prog_7_method_2_code
def yX5_copyFrom : MethodName := ⟨RX5, "copyFrom", "(LRollingFob$Slot;)V"⟩
abbrev cX5_learnFrom : ByteArray := prog_7_method_3_code
def yX5_learnFrom : MethodName := ⟨RX5, "learnFrom", "(LRollingFob$Fob;)V"⟩
abbrev cX5_empty : ByteArray := prog_7_method_4_code
def yX5_empty : MethodName := ⟨RX5, "empty", "()V"⟩
abbrev cX5_stepsTo : ByteArray := prog_7_method_5_code
def yX5_stepsTo : MethodName := ⟨RX5, "stepsTo", "(II)I"⟩
abbrev cX5_take : ByteArray := prog_7_method_6_code
def yX5_take : MethodName := ⟨RX5, "take", "(II)Z"⟩
abbrev cX5_look : ByteArray := prog_7_method_7_code
def yX5_look : MethodName := ⟨RX5, "look", "(I)I"⟩
def RX6 : String := "RollingFob$State"
def TX6 : u_T := fun k => match k with
  | 0 => ("RollingFob$State", "fobs", "[LRollingFob$Fob;", true)
  | 1 => ("RollingFob$State", "doors", "[LRollingFob$Door;", true)
  | 2 => ("RollingFob$State", "air", "LRollingFob$Air;", true)
  | 3 => ("RollingFob$State", "settings", "LRollingFob$Settings;", true)
  | 4 => ("RollingFob$State", "sentAgain", "I", false)
  | _ => ("RollingFob$State", "openedAgain", "I", false)
def tyX6 : Nat → FieldType := fun k => match k with
  | 0 => .array (.object "RollingFob$Fob")
  | 1 => .array (.object "RollingFob$Door")
  | 2 => .object "RollingFob$Air"
  | 3 => .object "RollingFob$Settings"
  | 4 => .int
  | _ => .int
abbrev wsX60 : List Cond := u_ws RX6 TX6 6
theorem nmX6 : ∀ a, a < 6 → ∀ b, b < 6 → a ≠ b → (TX6 a).2.1 ≠ (TX6 b).2.1 := by decide +kernel
theorem tyX6_ok : ∀ k, k < 6 → parseFieldDescriptor (TX6 k).2.2.1 = some (tyX6 k) := by decide +kernel
abbrev cX6_init : ByteArray := prog_8_method_1_code
def yX6_init : MethodName := ⟨RX6, "<init>", "()V"⟩
abbrev cX6_copyFrom : ByteArray := prog_8_method_2_code
def yX6_copyFrom : MethodName := ⟨RX6, "copyFrom", "(LRollingFob$State;)V"⟩
abbrev cX6_canPress : ByteArray := prog_8_method_3_code
def yX6_canPress : MethodName := ⟨RX6, "canPress", "(I)Z"⟩
abbrev cX6_canSendAgain : ByteArray := prog_8_method_4_code
def yX6_canSendAgain : MethodName := ⟨RX6, "canSendAgain", "(I)Z"⟩
abbrev cX6_pressFob : ByteArray := prog_8_method_5_code
def yX6_pressFob : MethodName := ⟨RX6, "pressFob", "(II)I"⟩
abbrev cX6_sendAgain : ByteArray := prog_8_method_6_code
def yX6_sendAgain : MethodName := ⟨RX6, "sendAgain", "(II)I"⟩
abbrev cX6_send : ByteArray := prog_8_method_7_code
def yX6_send : MethodName := ⟨RX6, "send", "(II)I"⟩
abbrev cX6_shutDoor : ByteArray := prog_8_method_8_code
def yX6_shutDoor : MethodName := ⟨RX6, "shutDoor", "(I)Z"⟩
abbrev cX6_presses : ByteArray := prog_8_method_9_code
def yX6_presses : MethodName := ⟨RX6, "presses", "()I"⟩
abbrev cX6_timesOpened : ByteArray := prog_8_method_10_code
def yX6_timesOpened : MethodName := ⟨RX6, "timesOpened", "()I"⟩
abbrev cX6_wrongNumbers : ByteArray := prog_8_method_11_code
def yX6_wrongNumbers : MethodName := ⟨RX6, "wrongNumbers", "()I"⟩
abbrev cX6_openDoors : ByteArray := prog_8_method_12_code
def yX6_openDoors : MethodName := ⟨RX6, "openDoors", "()I"⟩
abbrev cX6_lockedDoors : ByteArray := prog_8_method_13_code
def yX6_lockedDoors : MethodName := ⟨RX6, "lockedDoors", "()I"⟩
def RX7 : String := "RollingFob$Text"
def TX7 : u_T := fun k => match k with
  | 0 => ("RollingFob$Text", "codes", "[I", true)
  | _ => ("RollingFob$Text", "length", "I", false)
def tyX7 : Nat → FieldType := fun k => match k with
  | 0 => .array .int
  | _ => .int
abbrev wsX70 : List Cond := u_ws RX7 TX7 2
theorem nmX7 : ∀ a, a < 2 → ∀ b, b < 2 → a ≠ b → (TX7 a).2.1 ≠ (TX7 b).2.1 := by decide +kernel
theorem tyX7_ok : ∀ k, k < 2 → parseFieldDescriptor (TX7 k).2.2.1 = some (tyX7 k) := by decide +kernel
abbrev cX7_init : ByteArray := prog_9_method_1_code
def yX7_init : MethodName := ⟨RX7, "<init>", "()V"⟩
abbrev cX7_add : ByteArray := prog_9_method_2_code
def yX7_add : MethodName := ⟨RX7, "add", "(I)V"⟩
abbrev cX7_code : ByteArray := prog_9_method_3_code
def yX7_code : MethodName := ⟨RX7, "code", "(I)I"⟩
abbrev cX7_digit : ByteArray := prog_9_method_4_code
def yX7_digit : MethodName := ⟨RX7, "digit", "(I)I"⟩
abbrev cX7_goodLength : ByteArray := prog_9_method_5_code
def yX7_goodLength : MethodName := ⟨RX7, "goodLength", "()I"⟩
abbrev cX7_isComplete : ByteArray := prog_9_method_6_code
def yX7_isComplete : MethodName := ⟨RX7, "isComplete", "()Z"⟩
abbrev cX7_endsPart : ByteArray := prog_9_method_7_code
def yX7_endsPart : MethodName := ⟨RX7, "endsPart", "(I)Z"⟩
abbrev cX7_mask : ByteArray := prog_9_method_8_code
def yX7_mask : MethodName := ⟨RX7, "mask", "(II)I"⟩
abbrev cX7_expectedBehind : ByteArray := prog_9_method_9_code
def yX7_expectedBehind : MethodName := ⟨RX7, "expectedBehind", "(II)I"⟩
abbrev cX7_expectedInPart : ByteArray := prog_9_method_10_code
def yX7_expectedInPart : MethodName := ⟨RX7, "expectedInPart", "(I)I"⟩
abbrev cX7_expectedInSet : ByteArray := prog_9_method_11_code
def yX7_expectedInSet : MethodName := ⟨RX7, "expectedInSet", "(II)I"⟩
def RX8 : String := "RollingFob"
def TX8 : u_T := fun k => match k with
  | 0 => ("RollingFob", "state", "LRollingFob$State;", true)
  | 1 => ("RollingFob", "history", "LRollingFob$History;", true)
  | 2 => ("RollingFob", "text", "LRollingFob$Text;", true)
  | _ => ("RollingFob", "trial", "LRollingFob$Door;", true)
def tyX8 : Nat → FieldType := fun k => match k with
  | 0 => .object "RollingFob$State"
  | 1 => .object "RollingFob$History"
  | 2 => .object "RollingFob$Text"
  | _ => .object "RollingFob$Door"
abbrev wsX80 : List Cond := u_ws RX8 TX8 4
theorem nmX8 : ∀ a, a < 4 → ∀ b, b < 4 → a ≠ b → (TX8 a).2.1 ≠ (TX8 b).2.1 := by decide +kernel
theorem tyX8_ok : ∀ k, k < 4 → parseFieldDescriptor (TX8 k).2.2.1 = some (tyX8 k) := by decide +kernel
abbrev cX8_init : ByteArray := prog_1_method_1_code
def yX8_init : MethodName := ⟨RX8, "<init>", "()V"⟩
abbrev cX8_make : ByteArray := prog_1_method_2_code
def yX8_make : MethodName := ⟨RX8, "make", "(III)I"⟩
abbrev cX8_battery : ByteArray := prog_1_method_3_code
def yX8_battery : MethodName := ⟨RX8, "battery", "(II)I"⟩
abbrev cX8_press : ByteArray := prog_1_method_4_code
def yX8_press : MethodName := ⟨RX8, "press", "(II)I"⟩
abbrev cX8_again : ByteArray := prog_1_method_5_code
def yX8_again : MethodName := ⟨RX8, "again", "(II)I"⟩
abbrev cX8_learn : ByteArray := prog_1_method_6_code
def yX8_learn : MethodName := ⟨RX8, "learn", "(III)I"⟩
abbrev cX8_forget : ByteArray := prog_1_method_7_code
def yX8_forget : MethodName := ⟨RX8, "forget", "(II)I"⟩
abbrev cX8_shut : ByteArray := prog_1_method_8_code
def yX8_shut : MethodName := ⟨RX8, "shut", "(I)I"⟩
abbrev cX8_unlock : ByteArray := prog_1_method_9_code
def yX8_unlock : MethodName := ⟨RX8, "unlock", "(I)I"⟩
abbrev cX8_set : ByteArray := prog_1_method_10_code
def yX8_set : MethodName := ⟨RX8, "set", "(II)I"⟩
abbrev cX8_append : ByteArray := prog_1_method_11_code
def yX8_append : MethodName := ⟨RX8, "append", "(I)I"⟩
abbrev cX8_clearBuffer : ByteArray := prog_1_method_12_code
def yX8_clearBuffer : MethodName := ⟨RX8, "clearBuffer", "()I"⟩
abbrev cX8_firstError : ByteArray := prog_1_method_13_code
def yX8_firstError : MethodName := ⟨RX8, "firstError", "()I"⟩
abbrev cX8_play : ByteArray := prog_1_method_14_code
def yX8_play : MethodName := ⟨RX8, "play", "()I"⟩
abbrev cX8_undo : ByteArray := prog_1_method_15_code
def yX8_undo : MethodName := ⟨RX8, "undo", "()I"⟩
abbrev cX8_fob : ByteArray := prog_1_method_16_code
def yX8_fob : MethodName := ⟨RX8, "fob", "(II)I"⟩
abbrev cX8_slot : ByteArray := prog_1_method_17_code
def yX8_slot : MethodName := ⟨RX8, "slot", "(III)I"⟩
abbrev cX8_door : ByteArray := prog_1_method_18_code
def yX8_door : MethodName := ⟨RX8, "door", "(II)I"⟩
abbrev cX8_air : ByteArray := prog_1_method_19_code
def yX8_air : MethodName := ⟨RX8, "air", "(I)I"⟩
abbrev cX8_count : ByteArray := prog_1_method_20_code
def yX8_count : MethodName := ⟨RX8, "count", "(I)I"⟩
abbrev cX8_setting : ByteArray := prog_1_method_21_code
def yX8_setting : MethodName := ⟨RX8, "setting", "(I)I"⟩
abbrev cX8_ifHeard : ByteArray := prog_1_method_22_code
def yX8_ifHeard : MethodName := ⟨RX8, "ifHeard", "(II)I"⟩
abbrev cX8_opensIn : ByteArray := prog_1_method_23_code
def yX8_opensIn : MethodName := ⟨RX8, "opensIn", "(II)I"⟩
abbrev cX8_unheard : ByteArray := prog_1_method_24_code
def yX8_unheard : MethodName := ⟨RX8, "unheard", "(II)I"⟩
abbrev cX8_useful : ByteArray := prog_1_method_25_code
def yX8_useful : MethodName := ⟨RX8, "useful", "(I)I"⟩
abbrev cX8_openShare : ByteArray := prog_1_method_26_code
def yX8_openShare : MethodName := ⟨RX8, "openShare", "()D"⟩
abbrev cX8_digest : ByteArray := prog_1_method_27_code
def yX8_digest : MethodName := ⟨RX8, "digest", "()J"⟩
abbrev cX8_needIndex : ByteArray := prog_1_method_28_code
def yX8_needIndex : MethodName := ⟨RX8, "needIndex", "(II)V"⟩
abbrev cX8_needRange : ByteArray := prog_1_method_29_code
def yX8_needRange : MethodName := ⟨RX8, "needRange", "(III)V"⟩
abbrev cX8_needArgument : ByteArray := prog_1_method_30_code
def yX8_needArgument : MethodName := ⟨RX8, "needArgument", "(Z)V"⟩
abbrev cX8_needState : ByteArray := prog_1_method_31_code
def yX8_needState : MethodName := ⟨RX8, "needState", "(Z)V"⟩
abbrev cX8_numberOf : ByteArray := prog_1_method_32_code
def yX8_numberOf : MethodName := ⟨RX8, "numberOf", "(II)I"⟩
abbrev cX8_counterBehind : ByteArray := prog_1_method_33_code
def yX8_counterBehind : MethodName := ⟨RX8, "counterBehind", "(I)I"⟩
abbrev cX8_playPart : ByteArray := prog_1_method_34_code
def yX8_playPart : MethodName := ⟨RX8, "playPart", "(II)Z"⟩
abbrev cX8_counted : ByteArray := prog_1_method_35_code
def yX8_counted : MethodName := ⟨RX8, "counted", "(I)I"⟩
abbrev cX8_tryNumber : ByteArray := prog_1_method_36_code
def yX8_tryNumber : MethodName := ⟨RX8, "tryNumber", "(LRollingFob$Door;I)I"⟩
abbrev cX8_pressesToOpen : ByteArray := prog_1_method_37_code
def yX8_pressesToOpen : MethodName := ⟨RX8, "pressesToOpen", "(LRollingFob$Fob;LRollingFob$Door;)I"⟩
abbrev cX8_mostUnheard : ByteArray := prog_1_method_38_code
def yX8_mostUnheard : MethodName := ⟨RX8, "mostUnheard", "(LRollingFob$Fob;LRollingFob$Door;)I"⟩
abbrev cX8_firstUseful : ByteArray := prog_1_method_39_code
def yX8_firstUseful : MethodName := ⟨RX8, "firstUseful", "(LRollingFob$Door;)I"⟩
abbrev cX8_mixed : ByteArray := prog_1_method_40_code
def yX8_mixed : MethodName := ⟨RX8, "mixed", "(JJ)J"⟩
abbrev cX8_mixedDoor : ByteArray := prog_1_method_41_code
def yX8_mixedDoor : MethodName := ⟨RX8, "mixedDoor", "(JLRollingFob$Door;)J"⟩
abbrev cX8_shareBits : ByteArray := prog_1_method_42_code
def yX8_shareBits : MethodName := ⟨RX8, "shareBits", "(D)J"⟩
def RX9 : String := "RollingFobModel"
def TX9 : u_T := fun k => match k with
  | 0 => ("RollingFobModel", "now", "[I", true)
  | 1 => ("RollingFobModel", "then", "[I", true)
  | 2 => ("RollingFobModel", "past", "[I", true)
  | 3 => ("RollingFobModel", "kept", "I", false)
  | 4 => ("RollingFobModel", "text", "[I", true)
  | 5 => ("RollingFobModel", "typed", "I", false)
  | 6 => ("RollingFobModel", "thrown", "I", false)
  | 7 => ("RollingFobModel", "at", "I", false)
  | 8 => ("RollingFobModel", "isFault", "Z", false)
  | 9 => ("RollingFobModel", "told", "[I", true)
  | 10 => ("RollingFobModel", "tolds", "I", false)
  | 11 => ("RollingFobModel", "meant", "I", false)
  | _ => ("RollingFobModel", "far", "I", false)
def tyX9 : Nat → FieldType := fun k => match k with
  | 0 => .array .int
  | 1 => .array .int
  | 2 => .array .int
  | 3 => .int
  | 4 => .array .int
  | 5 => .int
  | 6 => .int
  | 7 => .int
  | 8 => .boolean
  | 9 => .array .int
  | 10 => .int
  | 11 => .int
  | _ => .int
abbrev wsX90 : List Cond := u_ws RX9 TX9 13
theorem nmX9 : ∀ a, a < 13 → ∀ b, b < 13 → a ≠ b → (TX9 a).2.1 ≠ (TX9 b).2.1 := by decide +kernel
theorem tyX9_ok : ∀ k, k < 13 → parseFieldDescriptor (TX9 k).2.2.1 = some (tyX9 k) := by decide +kernel
abbrev cX9_init : ByteArray := prog_11_method_1_code
def yX9_init : MethodName := ⟨RX9, "<init>", "()V"⟩
abbrev cX9_thrown : ByteArray := prog_11_method_2_code
def yX9_thrown : MethodName := ⟨RX9, "thrown", "()I"⟩
abbrev cX9_fails : ByteArray := prog_11_method_3_code
def yX9_fails : MethodName := ⟨RX9, "fails", "(I)I"⟩
abbrev cX9_in : ByteArray := prog_11_method_4_code
def yX9_in : MethodName := ⟨RX9, "in", "(III)Z"⟩
abbrev cX9_isFob : ByteArray := prog_11_method_5_code
def yX9_isFob : MethodName := ⟨RX9, "isFob", "(I)Z"⟩
abbrev cX9_isDoor : ByteArray := prog_11_method_6_code
def yX9_isDoor : MethodName := ⟨RX9, "isDoor", "(I)Z"⟩
abbrev cX9_isSlot : ByteArray := prog_11_method_7_code
def yX9_isSlot : MethodName := ⟨RX9, "isSlot", "(II)Z"⟩
abbrev cX9_slotAt : ByteArray := prog_11_method_8_code
def yX9_slotAt : MethodName := ⟨RX9, "slotAt", "(II)I"⟩
abbrev cX9_copies : ByteArray := prog_11_method_9_code
def yX9_copies : MethodName := ⟨RX9, "copies", "([II[II)V"⟩
abbrev cX9_saves : ByteArray := prog_11_method_10_code
def yX9_saves : MethodName := ⟨RX9, "saves", "()V"⟩
abbrev cX9_undo : ByteArray := prog_11_method_11_code
def yX9_undo : MethodName := ⟨RX9, "undo", "()I"⟩
abbrev cX9_numberOf : ByteArray := prog_11_method_12_code
def yX9_numberOf : MethodName := ⟨RX9, "numberOf", "(II)I"⟩
abbrev cX9_ahead : ByteArray := prog_11_method_13_code
def yX9_ahead : MethodName := ⟨RX9, "ahead", "(II)I"⟩
abbrev cX9_isLocked : ByteArray := prog_11_method_14_code
def yX9_isLocked : MethodName := ⟨RX9, "isLocked", "([II)Z"⟩
abbrev cX9_looks : ByteArray := prog_11_method_15_code
def yX9_looks : MethodName := ⟨RX9, "looks", "([III)V"⟩
abbrev cX9_would : ByteArray := prog_11_method_16_code
def yX9_would : MethodName := ⟨RX9, "would", "([III)I"⟩
abbrev cX9_hears : ByteArray := prog_11_method_17_code
def yX9_hears : MethodName := ⟨RX9, "hears", "([III)Z"⟩
abbrev cX9_heard : ByteArray := prog_11_method_18_code
def yX9_heard : MethodName := ⟨RX9, "heard", "([III)I"⟩
abbrev cX9_next : ByteArray := prog_11_method_19_code
def yX9_next : MethodName := ⟨RX9, "next", "([II)I"⟩
abbrev cX9_presses : ByteArray := prog_11_method_20_code
def yX9_presses : MethodName := ⟨RX9, "presses", "([III)I"⟩
abbrev cX9_ones : ByteArray := prog_11_method_21_code
def yX9_ones : MethodName := ⟨RX9, "ones", "(I)I"⟩
abbrev cX9_sends : ByteArray := prog_11_method_22_code
def yX9_sends : MethodName := ⟨RX9, "sends", "(II)I"⟩
abbrev cX9_changes : ByteArray := prog_11_method_23_code
def yX9_changes : MethodName := ⟨RX9, "changes", "(II)I"⟩
abbrev cX9_make : ByteArray := prog_11_method_24_code
def yX9_make : MethodName := ⟨RX9, "make", "(III)I"⟩
abbrev cX9_battery : ByteArray := prog_11_method_25_code
def yX9_battery : MethodName := ⟨RX9, "battery", "(II)I"⟩
abbrev cX9_press : ByteArray := prog_11_method_26_code
def yX9_press : MethodName := ⟨RX9, "press", "(II)I"⟩
abbrev cX9_again : ByteArray := prog_11_method_27_code
def yX9_again : MethodName := ⟨RX9, "again", "(II)I"⟩
abbrev cX9_learnt : ByteArray := prog_11_method_28_code
def yX9_learnt : MethodName := ⟨RX9, "learnt", "(I)I"⟩
abbrev cX9_learn : ByteArray := prog_11_method_29_code
def yX9_learn : MethodName := ⟨RX9, "learn", "(III)I"⟩
abbrev cX9_forget : ByteArray := prog_11_method_30_code
def yX9_forget : MethodName := ⟨RX9, "forget", "(II)I"⟩
abbrev cX9_shut : ByteArray := prog_11_method_31_code
def yX9_shut : MethodName := ⟨RX9, "shut", "(I)I"⟩
abbrev cX9_unlock : ByteArray := prog_11_method_32_code
def yX9_unlock : MethodName := ⟨RX9, "unlock", "(I)I"⟩
abbrev cX9_set : ByteArray := prog_11_method_33_code
def yX9_set : MethodName := ⟨RX9, "set", "(II)I"⟩
abbrev cX9_append : ByteArray := prog_11_method_34_code
def yX9_append : MethodName := ⟨RX9, "append", "(I)I"⟩
abbrev cX9_clearBuffer : ByteArray := prog_11_method_35_code
def yX9_clearBuffer : MethodName := ⟨RX9, "clearBuffer", "()I"⟩
abbrev cX9_isAt : ByteArray := prog_11_method_36_code
def yX9_isAt : MethodName := ⟨RX9, "isAt", "(II)Z"⟩
abbrev cX9_stops : ByteArray := prog_11_method_37_code
def yX9_stops : MethodName := ⟨RX9, "stops", "()Z"⟩
abbrev cX9_isDigit : ByteArray := prog_11_method_38_code
def yX9_isDigit : MethodName := ⟨RX9, "isDigit", "(I)Z"⟩
abbrev cX9_areDoors : ByteArray := prog_11_method_39_code
def yX9_areDoors : MethodName := ⟨RX9, "areDoors", "()Z"⟩
abbrev cX9_isPart : ByteArray := prog_11_method_40_code
def yX9_isPart : MethodName := ⟨RX9, "isPart", "()Z"⟩
abbrev cX9_isText : ByteArray := prog_11_method_41_code
def yX9_isText : MethodName := ⟨RX9, "isText", "()Z"⟩
abbrev cX9_firstError : ByteArray := prog_11_method_42_code
def yX9_firstError : MethodName := ⟨RX9, "firstError", "()I"⟩
abbrev cX9_does : ByteArray := prog_11_method_43_code
def yX9_does : MethodName := ⟨RX9, "does", "(I)Z"⟩
abbrev cX9_play : ByteArray := prog_11_method_44_code
def yX9_play : MethodName := ⟨RX9, "play", "()I"⟩
abbrev cX9_ofFob : ByteArray := prog_11_method_45_code
def yX9_ofFob : MethodName := ⟨RX9, "ofFob", "(II)I"⟩
abbrev cX9_fob : ByteArray := prog_11_method_46_code
def yX9_fob : MethodName := ⟨RX9, "fob", "(II)I"⟩
abbrev cX9_ofSlot : ByteArray := prog_11_method_47_code
def yX9_ofSlot : MethodName := ⟨RX9, "ofSlot", "(III)I"⟩
abbrev cX9_slot : ByteArray := prog_11_method_48_code
def yX9_slot : MethodName := ⟨RX9, "slot", "(III)I"⟩
abbrev cX9_ofDoor : ByteArray := prog_11_method_49_code
def yX9_ofDoor : MethodName := ⟨RX9, "ofDoor", "(II)I"⟩
abbrev cX9_door : ByteArray := prog_11_method_50_code
def yX9_door : MethodName := ⟨RX9, "door", "(II)I"⟩
abbrev cX9_air : ByteArray := prog_11_method_51_code
def yX9_air : MethodName := ⟨RX9, "air", "(I)I"⟩
abbrev cX9_ofDoors : ByteArray := prog_11_method_52_code
def yX9_ofDoors : MethodName := ⟨RX9, "ofDoors", "(I)I"⟩
abbrev cX9_counted : ByteArray := prog_11_method_53_code
def yX9_counted : MethodName := ⟨RX9, "counted", "(I)I"⟩
abbrev cX9_count : ByteArray := prog_11_method_54_code
def yX9_count : MethodName := ⟨RX9, "count", "(I)I"⟩
abbrev cX9_setting : ByteArray := prog_11_method_55_code
def yX9_setting : MethodName := ⟨RX9, "setting", "(I)I"⟩
abbrev cX9_ifHeard : ByteArray := prog_11_method_56_code
def yX9_ifHeard : MethodName := ⟨RX9, "ifHeard", "(II)I"⟩
abbrev cX9_opens : ByteArray := prog_11_method_57_code
def yX9_opens : MethodName := ⟨RX9, "opens", "(II)I"⟩
abbrev cX9_opensIn : ByteArray := prog_11_method_58_code
def yX9_opensIn : MethodName := ⟨RX9, "opensIn", "(II)I"⟩
abbrev cX9_misses : ByteArray := prog_11_method_59_code
def yX9_misses : MethodName := ⟨RX9, "misses", "(II)I"⟩
abbrev cX9_unheard : ByteArray := prog_11_method_60_code
def yX9_unheard : MethodName := ⟨RX9, "unheard", "(II)I"⟩
abbrev cX9_first : ByteArray := prog_11_method_61_code
def yX9_first : MethodName := ⟨RX9, "first", "(I)I"⟩
abbrev cX9_useful : ByteArray := prog_11_method_62_code
def yX9_useful : MethodName := ⟨RX9, "useful", "(I)I"⟩
abbrev cX9_share : ByteArray := prog_11_method_63_code
def yX9_share : MethodName := ⟨RX9, "share", "()D"⟩
abbrev cX9_openShare : ByteArray := prog_11_method_64_code
def yX9_openShare : MethodName := ⟨RX9, "openShare", "()D"⟩
abbrev cX9_digest : ByteArray := prog_11_method_65_code
def yX9_digest : MethodName := ⟨RX9, "digest", "()J"⟩
def RJxe99ae : String := "java/lang/Double"
def TJxe99ae : u_T := fun k => match k with
  | _ => ("", "", "", false)
def tyJxe99ae : Nat → FieldType := fun k => match k with
  | _ => .int
abbrev wsJxe99ae0 : List Cond := u_ws RJxe99ae TJxe99ae 0
theorem nmJxe99ae : ∀ a, a < 0 → ∀ b, b < 0 → a ≠ b → (TJxe99ae a).2.1 ≠ (TJxe99ae b).2.1 := by decide +kernel
theorem tyJxe99ae_ok : ∀ k, k < 0 → parseFieldDescriptor (TJxe99ae k).2.2.1 = some (tyJxe99ae k) := by decide +kernel
abbrev cJxe99ae_isNaN_b9ae7 : ByteArray := prog_12_method_6_code
def yJxe99ae_isNaN_b9ae7 : MethodName := ⟨RJxe99ae, "isNaN", "(D)Z"⟩
abbrev cJxe99ae_doubleToLongBits_ccdee : ByteArray := prog_12_method_23_code
def yJxe99ae_doubleToLongBits_ccdee : MethodName := ⟨RJxe99ae, "doubleToLongBits", "(D)J"⟩
def RJ6 : String := "java/lang/Integer"
def TJ6 : u_T := fun k => match k with
  | _ => ("", "", "", false)
def tyJ6 : Nat → FieldType := fun k => match k with
  | _ => .int
abbrev wsJ60 : List Cond := u_ws RJ6 TJ6 0
theorem nmJ6 : ∀ a, a < 0 → ∀ b, b < 0 → a ≠ b → (TJ6 a).2.1 ≠ (TJ6 b).2.1 := by decide +kernel
theorem tyJ6_ok : ∀ k, k < 0 → parseFieldDescriptor (TJ6 k).2.2.1 = some (tyJ6 k) := by decide +kernel
abbrev cJ6_bitCount_0f7a4 : ByteArray := prog_17_method_49_code
def yJ6_bitCount_0f7a4 : MethodName := ⟨RJ6, "bitCount", "(I)I"⟩
def RJ9 : String := "java/lang/Math"
def TJ9 : u_T := fun k => match k with
  | _ => ("", "", "", false)
def tyJ9 : Nat → FieldType := fun k => match k with
  | _ => .int
abbrev wsJ90 : List Cond := u_ws RJ9 TJ9 0
theorem nmJ9 : ∀ a, a < 0 → ∀ b, b < 0 → a ≠ b → (TJ9 a).2.1 ≠ (TJ9 b).2.1 := by decide +kernel
theorem tyJ9_ok : ∀ k, k < 0 → parseFieldDescriptor (TJ9 k).2.2.1 = some (tyJ9 k) := by decide +kernel
abbrev cJ9_min_7cf53 : ByteArray := prog_18_method_69_code
def yJ9_min_7cf53 : MethodName := ⟨RJ9, "min", "(II)I"⟩
def RJ10 : String := "java/lang/System"
def TJ10 : u_T := fun k => match k with
  | _ => ("", "", "", false)
def tyJ10 : Nat → FieldType := fun k => match k with
  | _ => .int
abbrev wsJ100 : List Cond := u_ws RJ10 TJ10 0
theorem nmJ10 : ∀ a, a < 0 → ∀ b, b < 0 → a ≠ b → (TJ10 a).2.1 ≠ (TJ10 b).2.1 := by decide +kernel
theorem tyJ10_ok : ∀ k, k < 0 → parseFieldDescriptor (TJ10 k).2.2.1 = some (tyJ10 k) := by decide +kernel
def RL : String := "RollingFobLaw"
abbrev cL_make : ByteArray := method_3_code
def yL_make : MethodName := ⟨RL, "make", "(LRollingFob;III[J)I"⟩
abbrev cL_battery : ByteArray := method_4_code
def yL_battery : MethodName := ⟨RL, "battery", "(LRollingFob;II[J)I"⟩
abbrev cL_press : ByteArray := method_5_code
def yL_press : MethodName := ⟨RL, "press", "(LRollingFob;II[J)I"⟩
abbrev cL_again : ByteArray := method_6_code
def yL_again : MethodName := ⟨RL, "again", "(LRollingFob;II[J)I"⟩
abbrev cL_learn : ByteArray := method_7_code
def yL_learn : MethodName := ⟨RL, "learn", "(LRollingFob;III[J)I"⟩
abbrev cL_forget : ByteArray := method_8_code
def yL_forget : MethodName := ⟨RL, "forget", "(LRollingFob;II[J)I"⟩
abbrev cL_shut : ByteArray := method_9_code
def yL_shut : MethodName := ⟨RL, "shut", "(LRollingFob;I[J)I"⟩
abbrev cL_unlock : ByteArray := method_10_code
def yL_unlock : MethodName := ⟨RL, "unlock", "(LRollingFob;I[J)I"⟩
abbrev cL_set : ByteArray := method_11_code
def yL_set : MethodName := ⟨RL, "set", "(LRollingFob;II[J)I"⟩
abbrev cL_append : ByteArray := method_12_code
def yL_append : MethodName := ⟨RL, "append", "(LRollingFob;I[J)I"⟩
abbrev cL_play : ByteArray := method_13_code
def yL_play : MethodName := ⟨RL, "play", "(LRollingFob;[J)I"⟩
abbrev cL_undo : ByteArray := method_14_code
def yL_undo : MethodName := ⟨RL, "undo", "(LRollingFob;[J)I"⟩
abbrev cL_fob : ByteArray := method_15_code
def yL_fob : MethodName := ⟨RL, "fob", "(LRollingFob;II[J)I"⟩
abbrev cL_slot : ByteArray := method_16_code
def yL_slot : MethodName := ⟨RL, "slot", "(LRollingFob;III[J)I"⟩
abbrev cL_door : ByteArray := method_17_code
def yL_door : MethodName := ⟨RL, "door", "(LRollingFob;II[J)I"⟩
abbrev cL_air : ByteArray := method_18_code
def yL_air : MethodName := ⟨RL, "air", "(LRollingFob;I[J)I"⟩
abbrev cL_count : ByteArray := method_19_code
def yL_count : MethodName := ⟨RL, "count", "(LRollingFob;I[J)I"⟩
abbrev cL_setting : ByteArray := method_20_code
def yL_setting : MethodName := ⟨RL, "setting", "(LRollingFob;I[J)I"⟩
abbrev cL_ifHeard : ByteArray := method_21_code
def yL_ifHeard : MethodName := ⟨RL, "ifHeard", "(LRollingFob;II[J)I"⟩
abbrev cL_opensIn : ByteArray := method_22_code
def yL_opensIn : MethodName := ⟨RL, "opensIn", "(LRollingFob;II[J)I"⟩
abbrev cL_unheard : ByteArray := method_23_code
def yL_unheard : MethodName := ⟨RL, "unheard", "(LRollingFob;II[J)I"⟩
abbrev cL_useful : ByteArray := method_24_code
def yL_useful : MethodName := ⟨RL, "useful", "(LRollingFob;I[J)I"⟩
abbrev cL_law : ByteArray := code
def yL_law : MethodName := ⟨RL, "law", "([I)Z"⟩
abbrev vwCl : List vw_C := [(RX0, TX0, 2), (RX1, TX1, 7), (RX2, TX2, 4), (RX3, TX3, 3), (RX4, TX4, 3), (RX5, TX5, 4), (RX6, TX6, 6), (RX7, TX7, 2), (RX8, TX8, 4), (RX9, TX9, 13)]
end
section
/-! ===== BEGIN words of one list among another's, by their places ===== -/
theorem goodIn_r {big : List Cond} (ws : List Cond) (ps : List Nat) (hp : ws = ps.filterMap (fun i => big[i]?)) (h : ws.all goodWord = true) : GoodIn big ws := by
  intro w hw
  have h1 := List.all_eq_true.mp h w hw
  rw [hp] at hw
  obtain ⟨i, -, hi⟩ := List.mem_filterMap.mp hw
  have hm : w ∈ big := by first | exact List.mem_of_getElem? hi | exact List.getElem?_mem hi
  exact ⟨hm, good_of_word h1⟩
theorem goodIn_app {big a b : List Cond} (ha : GoodIn big a) (hb : GoodIn big b) : GoodIn big (a ++ b) := fun w h => (List.mem_append.mp h).elim (ha w) (hb w)
theorem goodIn_ca {big a b : List Cond} {c : Cond} (ha : GoodIn big (c :: a)) (hb : GoodIn big b) : GoodIn big (c :: (a ++ b)) := fun w h => (List.mem_cons.mp h).elim (fun e => ha w (List.mem_cons.mpr (Or.inl e))) (fun h => (List.mem_append.mp h).elim (fun h => ha w (List.mem_cons.mpr (Or.inr h))) (hb w))
theorem goodIn_sub {big ws : List Cond} (hm : ∀ w ∈ ws, w ∈ big) (h : ws.all goodWord = true) : GoodIn big ws := fun w hw => ⟨hm w hw, good_of_word (List.all_eq_true.mp h w hw)⟩
/-! ===== END ===== -/

/-! ===== BEGIN exceptions that leave a method, and their catching by the caller (launches without stack traces) ===== -/
section VXA
/-! The laws vx_back, vx_callV, vx_callS, vx_callSW, vx_throw0, vx_throwS follow proofs of the library, with one case more: JvmDerived/Free/Laws.lean (Back.of_free), Shelf42/LK1.lean (callV, callS), Shelf/KitTraced.lean (throwNew0V, throwNewS). -/
/-- where a method has thrown q: the class by its name, the cell, what was written, the world -/
def vx_T (XC : String → State → State → Prop) (st : State) (q : Addr) (t : State) (mc ms : Nat) (free : Addr → Prop) : Prop :=
  ∃ (E : String) (ce : Cell) (L : List Loc), XC E st t ∧ t.heap[q]? = some ce ∧ ce.vm = .none ∧ st.vm.findClass E = some ce.cls ∧ st.WarmedH t.vm ∧ st.sameButNew ({ t with vm := st.vm } : State) L mc ms ∧ ∀ z ∈ L, free z.base
def vx_Q (Qc : Array Value → State → Outcome → State → Prop) (XC : String → State → State → Prop) (mc ms : Nat) (free : Addr → Prop) : Array Value → State → Outcome → State → Prop := fun a st o t =>
  (Qc a st o t ∧ ∃ L, FrameEnd st o t L mc ms ∧ ∀ q ∈ L, free q.base) ∨ ∃ q, o = .threw q ∧ vx_T XC st q t mc ms free
/-- a callee that returns or throws -/
def vx_Met (l : Launch) (y : MethodName) (ws : List Cond) (rm : Room) (Pc : Array Value → State → Prop) (Qc : Array Value → State → Outcome → State → Prop) (XC : String → State → State → Prop) (mc ms : Nat) (free : Addr → Prop) : Prop :=
  MetFree l y (headSpec ws rm) Pc (fun _ _ _ _ _ => True) (vx_Q Qc XC mc ms free)
def vx_Post (XC : String → State → State → Prop) (mc ms : Nat) (free : Addr → Prop) : Pt → Array Value → Addr → Pt → Prop := fun A a q B =>
  ∃ (g : JFrame) (mk : MethodId) (t : State) (L : List Loc) (E : String) (ce : Cell), B.U.heap = t.heap ∧ B.U.vm = t.vm ∧ XC E (A.U.calling g mk a) t ∧ t.heap[q]? = some ce ∧ ce.vm = .none ∧ A.U.vm.findClass E = some ce.cls ∧ B.locs = A.locs ++ L ∧ (∀ z ∈ L, free z.base) ∧ B.cells = A.cells + mc ∧ B.slots = A.slots + ms
def vx_Back (l : Launch) (R : Room) (p : Program) (e : Env) (below : List Frame) (s : State) (sargs : Array Value) (y : MethodName) (len W9 : Nat)
    (Pre : Pt → Array Value → Prop) (Post : Pt → Array Value → Option Value → Pt → Prop) (PostX : Pt → Array Value → Addr → Pt → Prop) : Prop :=
  ∀ (m : MethodId) (meth : Method) (c : Code) (A : Pt) (g : JFrame) (ig : Instr) (mk : MethodId) (a : Array Value),
    Stand p l e R s m sargs below meth c A.U A.locs A.cells A.slots → g.method = m → g.locals.size = c.maxLocals → decode c.code g.pc = .ok (ig, len) →
    2 * g.monitorRoom + (g.stack.map fun v => v.category).sum ≤ W9 → A.U.methodNamed? y = some mk → Pre A a →
    (∃ (v : Option Value) (B : Pt), Stand p l e R s m sargs below meth c B.U B.locs B.cells B.slots ∧ Post A a v B ∧
      Steps p.tables e below (doInvoke e (A.U.setTop g) [] mk a).1 (B.U.setTop { g with pc := g.pc + len, stack := v.toList ++ g.stack })) ∨
    (∃ (q : Addr) (B : Pt), Stand p l e R s m sargs below meth c B.U B.locs B.cells B.slots ∧ PostX A a q B ∧
      Steps p.tables e below (doInvoke e (A.U.setTop g) [] mk a).1 ((B.U.setTop g).pushFrame (.throwing q)))
section Payer
variable {l : Launch} {R : Room} {p : Program} {e : Env} {below : List Frame} {s : State} {sargs : Array Value} {y : MethodName} {len W9 : Nat}
theorem vx_back {ws : List Cond} {rm : Room} {Pc : Array Value → State → Prop} {Qc : Array Value → State → Outcome → State → Prop} {XC : String → State → State → Prop} {mc ms : Nat} {free : Addr → Prop} {bytes : ByteArray} {maxL : Nat} {ret : Option FieldType}
    (hM : vx_Met l y ws rm Pc Qc XC mc ms free) (hblind : FrameBlind Pc) (hrc : rm.cells = mc) (hrs : rm.slots = ms)
    (hframes : rm.frames + 1 ≤ R.frames) (hlocals : W9 + (maxL + 11) + rm.locals ≤ R.locals)
    (hws : ∀ w ∈ ws, ∀ a' U, s.WarmedH U.vm → w.before a' U = true) (hcode : Cond.code y bytes maxL ret ∈ ws) (hinit : ∀ a' U, s.WarmedH U.vm → (Cond.initialized y.cls).before a' U = true) :
    vx_Back l R p e below s sargs y len W9 (PreOf R mc ms Pc) (PostOf Qc mc ms free) (vx_Post XC mc ms free) := by
  intro m meth c A g ig mk a X hg hsize hdg hW hn hp
  have h1 : (headSpec ws rm).pre.before a A.U = true := atoms_intro fun w hw => hws w hw _ _ X.warmed
  have h2 : (Cond.code y bytes maxL ret).before a A.U = true := hws _ hcode _ _ X.warmed
  have h3 : (Cond.initialized y.cls).before a A.U = true := hinit _ _ X.warmed
  have h4 : A.cells + (headSpec ws rm).room.cells ≤ R.cells := by rw [show (headSpec ws rm).room.cells = mc from hrc]; exact hp.1
  have h5 : A.slots + (headSpec ws rm).room.slots ≤ R.slots := by rw [show (headSpec ws rm).room.slots = ms from hrs]; exact hp.2.1
  have hPc : Pc a (A.U.calling g mk a) := hblind _ _ _ _ hp.2.2
  obtain ⟨U, Ls, c0, s0⟩ := A
  dsimp only [Pt.U, Pt.locs, Pt.cells, Pt.slots] at h1 h2 h3 h4 h5 X hn hPc ⊢
  obtain ⟨methY, cY, hmY, hcY, -, hlY, -, -, -, -⟩ := Cond.code_spec hn h2
  obtain ⟨kY, hkY, -⟩ := className_of_methodNamed hn
  have hinitY : kY.init = .initialized := Cond.initialized_spec (findClass_of_methodNamed hn) hkY h3
  have h : At U g.method c below := by rw [hg]; exact X.here
  have hlocals9 : W9 + (maxL + 11) + (headSpec ws rm).room.locals ≤ R.locals := hlocals
  have happ : (headSpec ws rm).appliesLoose y e.platform (U.calling g mk a) = true :=
    Spec.appliesLoose_calling (g := g) h hdg hn hkY hinitY
      (X.room_calling (g := g) (R' := (headSpec ws rm).room) hsize hmY hcY hframes (by rw [hlY]; omega) h4 h5) h1
  obtain ⟨mid, hmid⟩ := h.above
  have hfr : (U.setTop g).frames = (.java g :: mid) ++ below := by rw [State.frames_setTop' g h.top, hmid]; rfl
  obtain ⟨o, s₂, hsteps, -, hend, hq⟩ := Steps.callFree hM p X.admits X.cas X.clock (acts := []) hfr happ hPc trivial
  have hq' : vx_Q Qc XC mc ms free a (U.calling g mk a) o s₂ := hq
  rw [State.frames_setTop' g h.top] at hend
  obtain ⟨g₀, hg0⟩ := Option.isSome_iff_exists.mp h.top
  obtain ⟨r, hr⟩ := State.topJava?_eq_some.mp hg0
  have hr' : (({ U with heap := s₂.heap, slotsUsed := s₂.slotsUsed } : State).setVm s₂.vm).frames = .java g₀ :: r := hr
  rcases hq' with ⟨hqc, L, hfe, hL⟩ | ⟨q, rfl, E, ce, L, hx, hce, hcv, hcl, hW₂, hsm, hL⟩
  · obtain ⟨⟨v, rfl⟩, hW₂, e2, q2, q3, q4, q5, q6⟩ := id hfe
    have e3 : s₂ = ({ (U.calling g mk a).setFrames s₂.frames with heap := s₂.heap, slotsUsed := s₂.slotsUsed } : State).setVm s₂.vm := by
      have : s₂ = ({ s₂ with vm := (U.calling g mk a).vm } : State).setVm s₂.vm := rfl
      rw [e2] at this
      exact this
    obtain ⟨c₂, i₂, len₂, hc₂, hd₂, hf₂⟩ := hend
    have hW' : U.WarmedH s₂.vm := hW₂
    have hcc : c₂ = c := by
      have h1 : s₂.code? g.method = U.code? g.method := by
        rw [State.code?_eq, State.code?_eq, hW'.alike.method?]
      exact Option.some.inj (hc₂.symm.trans (h1.trans h.code))
    subst hcc
    have hlen : len₂ = len := by rw [hdg] at hd₂; cases hd₂; rfl
    subst hlen
    have hs₂ : s₂ = (({ U with heap := s₂.heap, slotsUsed := s₂.slotsUsed } : State).setVm s₂.vm).setTop { g with pc := g.pc + len₂, stack := v.toList ++ g.stack } := by
      refine e3.trans ?_
      rw [hf₂, State.calling_eq h.top, State.setFrames_setFrames, State.setTop_of_frames _ hr', hr]
      rfl
    have hsame : U.sameButNew ({ U with heap := s₂.heap, slotsUsed := s₂.slotsUsed } : State) L mc ms := by
      refine ⟨?_, q2, q3, q4, q5, q6⟩
      obtain ⟨t, ht, -⟩ := State.frames_cons hr
      show ({ U with heap := s₂.heap, slotsUsed := s₂.slotsUsed } : State) = { U.setFrames U.frames with heap := s₂.heap, slotsUsed := s₂.slotsUsed }
      rw [State.setFrames_self ht]
    subst hg
    refine Or.inl ⟨v, ⟨(({ U with heap := s₂.heap, slotsUsed := s₂.slotsUsed } : State).setVm s₂.vm), Ls ++ L, c0 + mc, s0 + ms⟩,
      ⟨X.admits, X.cas, X.clock, X.frames, X.room, X.hears, X.method, X.code, (X.here.setHeapUsed s₂.heap s₂.slotsUsed).setVm hW'.alike, X.tail, State.WarmedH.trans X.warmed hW', X.limits, X.bytes, X.same.trans (hsame.setVm s.vm)⟩,
      ⟨g, mk, s₂, L, rfl, rfl, hqc, rfl, hL, rfl, rfl⟩, ?_⟩
    show Steps p.tables e below _ ((({ U with heap := s₂.heap, slotsUsed := s₂.slotsUsed } : State).setVm s₂.vm).setTop { g with pc := g.pc + len₂, stack := v.toList ++ g.stack })
    rw [← hs₂]
    exact hsteps
  · obtain ⟨e2, q2, q3, q4, q5, q6⟩ := id hsm
    have e3 : s₂ = ({ (U.calling g mk a).setFrames s₂.frames with heap := s₂.heap, slotsUsed := s₂.slotsUsed } : State).setVm s₂.vm := by
      have : s₂ = ({ s₂ with vm := (U.calling g mk a).vm } : State).setVm s₂.vm := rfl
      rw [e2] at this
      exact this
    have hf₂ : s₂.frames = .throwing q :: .java g :: U.frames.tail := hend
    have hW' : U.WarmedH s₂.vm := hW₂
    have hs₂ : s₂ = ((({ U with heap := s₂.heap, slotsUsed := s₂.slotsUsed } : State).setVm s₂.vm).setTop g).pushFrame (.throwing q) := by
      refine e3.trans ?_
      rw [hf₂, State.calling_eq h.top, State.setFrames_setFrames, State.pushFrame, State.frames_setTop _ hr', State.setTop_of_frames _ hr', State.setFrames_setFrames, hr]
      rfl
    have hsame : U.sameButNew ({ U with heap := s₂.heap, slotsUsed := s₂.slotsUsed } : State) L mc ms := by
      refine ⟨?_, q2, q3, q4, q5, q6⟩
      obtain ⟨t, ht, -⟩ := State.frames_cons hr
      show ({ U with heap := s₂.heap, slotsUsed := s₂.slotsUsed } : State) = { U.setFrames U.frames with heap := s₂.heap, slotsUsed := s₂.slotsUsed }
      rw [State.setFrames_self ht]
    subst hg
    refine Or.inr ⟨q, ⟨(({ U with heap := s₂.heap, slotsUsed := s₂.slotsUsed } : State).setVm s₂.vm), Ls ++ L, c0 + mc, s0 + ms⟩,
      ⟨X.admits, X.cas, X.clock, X.frames, X.room, X.hears, X.method, X.code, (X.here.setHeapUsed s₂.heap s₂.slotsUsed).setVm hW'.alike, X.tail, State.WarmedH.trans X.warmed hW', X.limits, X.bytes, X.same.trans (hsame.setVm s.vm)⟩,
      ⟨g, mk, s₂, L, E, ce, rfl, rfl, hx, hce, hcv, hcl, rfl, hL, rfl, rfl⟩, ?_⟩
    show Steps p.tables e below _ (((({ U with heap := s₂.heap, slotsUsed := s₂.slotsUsed } : State).setVm s₂.vm).setTop g).pushFrame (.throwing q))
    rw [← hs₂]
    exact hsteps
end Payer
section Calls
variable {p : Program} {l : Launch} {e : Env} {R : Room} {s : State} {m : MethodId} {args : Array Value} {below : List Frame} {meth : Method} {c : Code} {T : State} {locs : List Loc} {cells slots : Nat}
theorem vx_callV (X : Stand p l e R s m args below meth c T locs cells slots) (hexec : p.tables.exec = Jvm.exec) {own C : String} {index : Nat} {y : MethodName} {bytes : ByteArray} {maxL : Nat} {ret : Option FieldType}
    (hown : s.vm.findClass own = some m.cls) (hlink : (Cond.methodLink own index y).before args s = true) (hinst : (Cond.instanceMethod y).before args s = true) (hsel : (Cond.selects C y y).before args s = true)
    (hcode : (Cond.code y bytes maxL ret).before args s = true) (hy : y.cls ≠ "java/lang/invoke/MethodHandle" ∧ y.cls ≠ "java/lang/invoke/VarHandle")
    {W9 : Nat} {Pre : Pt → Array Value → Prop} {Post : Pt → Array Value → Option Value → Pt → Prop} {PostX : Pt → Array Value → Addr → Pt → Prop} (hK : vx_Back l R p e below s args y 3 W9 Pre Post PostX)
    {b : Addr} {cellB : Cell} (hcell : T.heap[b]? = some cellB) (hobj : cellB.vm.isStatics = false) (hcls : s.vm.findClass C = some cellB.cls)
    {g : JFrame} (hg : g.method = m) (hsize : g.locals.size = c.maxLocals) {argsL rest : List Value} (hlen : ∀ sig, parseMethodDescriptor y.desc = some sig → argsL.length = sig.parameters.length)
    (hstack : g.stack = argsL.reverse ++ .ref b :: rest) (hW : 2 * g.monitorRoom + (rest.map fun v => v.category).sum ≤ W9) (hdg : decode c.code g.pc = .ok (.invokevirtual index, 3))
    (hpre : ∀ vm₁, s.WarmedH vm₁ → Pre ⟨T.setVm vm₁, locs, cells, slots⟩ (Value.ref b :: argsL).toArray) :
    (∃ (v : Option Value) (vm₁ : Vm) (B : Pt), s.WarmedH vm₁ ∧ Stand p l e R s m args below meth c B.U B.locs B.cells B.slots ∧ Post ⟨T.setVm vm₁, locs, cells, slots⟩ (Value.ref b :: argsL).toArray v B ∧
      ∀ target, Steps p.tables e below (B.U.setTop { g with pc := g.pc + 3, stack := v.toList ++ rest }) target → Steps p.tables e below (T.setTop g) target) ∨
    (∃ (q : Addr) (vm₁ : Vm) (B : Pt), s.WarmedH vm₁ ∧ Stand p l e R s m args below meth c B.U B.locs B.cells B.slots ∧ PostX ⟨T.setVm vm₁, locs, cells, slots⟩ (Value.ref b :: argsL).toArray q B ∧
      Steps p.tables e below (T.setTop g) ((B.U.setTop { g with stack := rest }).pushFrame (.throwing q))) := by
  obtain ⟨mk, methM, hnamed, hmethM, hstM, habM⟩ := Cond.instanceMethod_spec hinst
  obtain ⟨methM', cM, hmethM', -, -, -, -, -, -, hsigM⟩ := Cond.code_spec hnamed hcode
  cases hmethM.symm.trans hmethM'
  obtain ⟨c2, r2, m2, q1, q2, q3, q4, kP, hkP, hkPi⟩ := Cond.selects_spec hsel
  cases hcls.symm.trans q1
  cases (State.methodFound?_of_named hnamed hy).symm.trans q2
  cases hnamed.symm.trans q3
  have hselP : selectMethod e.platform s.vm cellB.cls mk = .method mk := by rw [Launch.admits_selectMethod X.admits]; exact q4
  obtain ⟨vm₁, X₁, hstep₁⟩ := X.invokevirtual hexec hown hlink hnamed hmethM hstM hkP hkPi hy (a := b) (cell := cellB) hcell
    (fun z h => by rw [h] at hobj; cases hobj) hselP hmethM habM hkP hkPi (g := g) hg (argsL := argsL) (rest := rest) (hlen _ hsigM) hstack hdg
  rcases hK m meth c ⟨T.setVm vm₁, locs, cells, slots⟩ { g with stack := rest } (.invokevirtual index) mk (Value.ref b :: argsL).toArray X₁ hg hsize hdg hW (X₁.named hnamed) (hpre vm₁ X₁.warmed) with ⟨v, B, X', hpost, hsteps⟩ | ⟨q, B, X', hpost, hsteps⟩
  · exact Or.inl ⟨v, vm₁, B, X₁.warmed, X', hpost, fun target h => hstep₁ _ fun acts => by rw [doInvoke_state]; exact hsteps.trans h⟩
  · exact Or.inr ⟨q, vm₁, B, X₁.warmed, X', hpost, hstep₁ _ fun acts => by rw [doInvoke_state]; exact hsteps⟩
theorem vx_callS (X : Stand p l e R s m args below meth c T locs cells slots) (hexec : p.tables.exec = Jvm.exec) {own : String} {index : Nat} {y : MethodName} {bytes : ByteArray} {maxL : Nat} {ret : Option FieldType}
    (hown : s.vm.findClass own = some m.cls) (hlink : (Cond.methodLink own index y).before args s = true) (hstat : (Cond.static y).before args s = true) (hinit : (Cond.initialized y.cls).before args s = true)
    (hcode : (Cond.code y bytes maxL ret).before args s = true) (hy : y.cls ≠ "java/lang/invoke/MethodHandle" ∧ y.cls ≠ "java/lang/invoke/VarHandle")
    {W9 : Nat} {Pre : Pt → Array Value → Prop} {Post : Pt → Array Value → Option Value → Pt → Prop} {PostX : Pt → Array Value → Addr → Pt → Prop} (hK : vx_Back l R p e below s args y 3 W9 Pre Post PostX)
    {g : JFrame} (hg : g.method = m) (hsize : g.locals.size = c.maxLocals) {argsL rest : List Value} (hlen : ∀ sig, parseMethodDescriptor y.desc = some sig → argsL.length = sig.parameters.length)
    (hstack : g.stack = argsL.reverse ++ rest) (hW : 2 * g.monitorRoom + (rest.map fun v => v.category).sum ≤ W9) (hdg : decode c.code g.pc = .ok (.invokestatic index, 3))
    (hpre : ∀ vm₁, s.WarmedH vm₁ → Pre ⟨T.setVm vm₁, locs, cells, slots⟩ argsL.toArray) :
    (∃ (v : Option Value) (vm₁ : Vm) (B : Pt), s.WarmedH vm₁ ∧ Stand p l e R s m args below meth c B.U B.locs B.cells B.slots ∧ Post ⟨T.setVm vm₁, locs, cells, slots⟩ argsL.toArray v B ∧
      ∀ target, Steps p.tables e below (B.U.setTop { g with pc := g.pc + 3, stack := v.toList ++ rest }) target → Steps p.tables e below (T.setTop g) target) ∨
    (∃ (q : Addr) (vm₁ : Vm) (B : Pt), s.WarmedH vm₁ ∧ Stand p l e R s m args below meth c B.U B.locs B.cells B.slots ∧ PostX ⟨T.setVm vm₁, locs, cells, slots⟩ argsL.toArray q B ∧
      Steps p.tables e below (T.setTop g) ((B.U.setTop { g with stack := rest }).pushFrame (.throwing q))) := by
  obtain ⟨mk, hnamed⟩ := Cond.code_named hcode
  obtain ⟨methM, cM, hmethM, -, -, -, -, -, -, hsigM⟩ := Cond.code_spec hnamed hcode
  have hstatic : methM.isStatic = true := Cond.static_spec hnamed hmethM hstat
  obtain ⟨kP, hkP, -⟩ := className_of_methodNamed hnamed
  have hinitP : kP.init = .initialized := Cond.initialized_spec (findClass_of_methodNamed hnamed) hkP hinit
  obtain ⟨vm₁, X₁, hstep₁⟩ := X.invokestatic hexec hown hlink hnamed hmethM hstatic hkP hinitP hy (g := g) hg (argsL := argsL) (rest := rest) (hlen _ hsigM) hstack hdg
  rcases hK m meth c ⟨T.setVm vm₁, locs, cells, slots⟩ { g with stack := rest } (.invokestatic index) mk argsL.toArray X₁ hg hsize hdg hW (X₁.named hnamed) (hpre vm₁ X₁.warmed) with ⟨v, B, X', hpost, hsteps⟩ | ⟨q, B, X', hpost, hsteps⟩
  · exact Or.inl ⟨v, vm₁, B, X₁.warmed, X', hpost, fun target h => hstep₁ _ fun acts => by rw [doInvoke_state]; exact hsteps.trans h⟩
  · exact Or.inr ⟨q, vm₁, B, X₁.warmed, X', hpost, hstep₁ _ fun acts => by rw [doInvoke_state]; exact hsteps⟩
end Calls
theorem vx_cls {s : State} {T : State} {vm₁ : Vm} {E : String} {k : ClassId} (hW : s.WarmedH vm₁) (h : (T.setVm vm₁).vm.findClass E = some k) : s.vm.findClass E = some k := by
  have h1 : vm₁.findClass E = some k := h
  rw [hW.alike.findClass] at h1
  exact h1
/-- the method's frame g, with q thrown over it -/
def vx_W (p : Program) (l : Launch) (e : Env) (R : Room) (s : State) (m : MethodId) (args : Array Value) (below : List Frame) (meth : Method) (c : Code) (H : Heap) (locs : List Loc) (cells slots : Nat) (Q : State → Prop) (g : JFrame) (q : Addr) : Prop :=
  ∀ T : State, T.heap = H → Stand p l e R s m args below meth c T locs cells slots → ∃ t, Steps p.tables e below ((T.setTop g).pushFrame (.throwing q)) t ∧ Q t
def vx_Run (p : Program) (l : Launch) (e : Env) (R : Room) (s : State) (m : MethodId) (args : Array Value) (below : List Frame) (meth : Method) (c : Code) (H : Heap) (locs : List Loc) (cells slots mc ms : Nat) (g : JFrame) (rest : List Value) (Qa : State → Outcome → State → Prop) (XC : String → State → State → Prop) (free : Addr → Prop) : Prop :=
  ∀ T : State, T.heap = H → Stand p l e R s m args below meth c T locs cells slots →
    (∃ (v : Option Value) (st₀ t T' : State) (L : List Loc), st₀.heap = H ∧ Stand p l e R s m args below meth c T' (locs ++ L) (cells + mc) (slots + ms) ∧ (∀ q ∈ L, free q.base) ∧ T'.heap = t.heap ∧ T'.vm = t.vm ∧ Qa st₀ (.returned v) t ∧
      Goes p e below T g T' { g with pc := g.pc + 3, stack := v.toList ++ rest }) ∨
    (∃ (q : Addr) (st₀ t T' : State) (L : List Loc) (E : String) (ce : Cell), st₀.heap = H ∧ Stand p l e R s m args below meth c T' (locs ++ L) (cells + mc) (slots + ms) ∧ (∀ z ∈ L, free z.base) ∧ T'.heap = t.heap ∧ T'.vm = t.vm ∧ XC E st₀ t ∧ t.heap[q]? = some ce ∧ ce.vm = .none ∧ s.vm.findClass E = some ce.cls ∧
      Steps p.tables e below (T.setTop g) ((T'.setTop { g with stack := rest }).pushFrame (.throwing q)))
def vx_X {S : Type} (px : S → Prop) (B : String → S → State → Prop) (A : Nat → Prop) : String → State → State → Prop := fun E st t => ∃ u : S, px u ∧ B E u t ∧ va_F A st t
section Runs
variable {p : Program} {l : Launch} {e : Env} {R : Room} {s : State} {m : MethodId} {args : Array Value} {below : List Frame} {meth : Method} {c : Code} {H : Heap} {locs : List Loc} {cells slots : Nat}
variable {y : MethodName} {bytes cc : ByteArray} {maxL nL mc ms n index : Nat} {ret : Option FieldType} {ws : List Cond} {rm : Room} {Pc : Array Value → State → Prop} {Qc : Array Value → State → Outcome → State → Prop} {XC : String → State → State → Prop} {free : Addr → Prop} {Ts : List Cond} {own C : String} {b : Addr} {As rest : List Value} {g : JFrame}
theorem vx_callBack (cb : CallB R s args own index y bytes maxL ret ws rm mc ms n) (hM : vx_Met l y ws rm Pc Qc XC mc ms free) (hbl : FrameBlind Pc) : vx_Back l R p e below s args y 3 8 (PreOf R mc ms Pc) (PostOf Qc mc ms free) (vx_Post XC mc ms free) := by
  obtain ⟨hrc, hrs, hfr, hlo, hws, hcw, -, hini, -⟩ := cb
  exact vx_back (bytes := bytes) (maxL := maxL) (ret := ret) hM hbl hrc hrs hfr hlo hws hcw (fun a' U hW => word_at hW (Or.inl (by first | rfl | simp [Cond.onTables, Cond.keeps, Cond.steady])) hini)
theorem vx_runV (S : CallFix p m c cc nL s args Ts own) (hM : vx_Met l y ws rm Pc Qc XC mc ms free) (cw : CallW R s args own C index y bytes maxL ret ws rm mc ms n) (hp : PreV s H C b Pc As)
    (hg : g.method = m) (hn : As.length = n) (hsize : g.locals.size = nL) (hstack : g.stack = As.reverse ++ .ref b :: rest) (hW : 2 * g.monitorRoom + (rest.map fun v => v.category).sum ≤ 8) (hdg : decode cc g.pc = .ok (.invokevirtual index, 3)) (hf : cells + mc ≤ R.cells ∧ slots + ms ≤ R.slots) :
    vx_Run p l e R s m args below meth c H locs cells slots mc ms g rest (Qc (Value.ref b :: As).toArray) XC free := by
  have hK : vx_Back l R p e below s args y 3 8 (PreOf R mc ms Pc) (PostOf Qc mc ms free) (vx_Post XC mc ms free) := vx_callBack cw.1 hM hp.1
  obtain ⟨⟨-, -, -, -, -, -, hcode, -, hy, hlen, hl⟩, hin, hse⟩ := cw
  obtain ⟨hx, hb, hml, ho, -⟩ := S
  obtain ⟨-, ⟨cellB, hcB, hoB, hclB⟩, hPc⟩ := hp
  intro T hT X
  rcases vx_callV X hx (C := C) (bytes := bytes) (maxL := maxL) (ret := ret) ho hl hin hse hcode hy hK (by rw [hT]; exact hcB) hoB hclB hg (hsize.trans hml.symm) (argsL := As) (rest := rest) (fun sig h => hn.trans (hlen sig h)) hstack hW (by rw [hb]; exact hdg)
    (fun vm₁ hW₁ => ⟨hf.1, hf.2, hPc (T.setVm vm₁) hT hW₁⟩) with ⟨v, vm₁, ⟨U', l2, c2, s2⟩, hW₁, X', ⟨g', mk, t, L, e1, e2, hq, h1, hL, h2, h3⟩, st⟩ | ⟨q, vm₁, ⟨U', l2, c2, s2⟩, hW₁, X', ⟨g', mk, t, L, E, ce, e1, e2, hq, hce, hcv, hcl, h1, hL, h2, h3⟩, st⟩
  · dsimp only [Pt.U, Pt.locs, Pt.cells, Pt.slots] at X' e1 e2 h1 h2 h3 st
    subst h1; subst h2; subst h3
    exact Or.inl ⟨v, (T.setVm vm₁).calling g' mk (Value.ref b :: As).toArray, t, U', L, hT, X', hL, e1, e2, hq, st⟩
  · dsimp only [Pt.U, Pt.locs, Pt.cells, Pt.slots] at X' e1 e2 h1 h2 h3 st hcl
    subst h1; subst h2; subst h3
    exact Or.inr ⟨q, (T.setVm vm₁).calling g' mk (Value.ref b :: As).toArray, t, U', L, E, ce, hT, X', hL, e1, e2, hq, hce, hcv, vx_cls hW₁ hcl, st⟩
theorem vx_runS (S : CallFix p m c cc nL s args Ts own) (hM : vx_Met l y ws rm Pc Qc XC mc ms free) (cw : CallB R s args own index y bytes maxL ret ws rm mc ms n ∧ (Cond.static y).before args s = true) (hp : PreS s H Pc As)
    (hg : g.method = m) (hn : As.length = n) (hsize : g.locals.size = nL) (hstack : g.stack = As.reverse ++ rest) (hW : 2 * g.monitorRoom + (rest.map fun v => v.category).sum ≤ 8) (hdg : decode cc g.pc = .ok (.invokestatic index, 3)) (hf : cells + mc ≤ R.cells ∧ slots + ms ≤ R.slots) :
    vx_Run p l e R s m args below meth c H locs cells slots mc ms g rest (Qc As.toArray) XC free := by
  have hK : vx_Back l R p e below s args y 3 8 (PreOf R mc ms Pc) (PostOf Qc mc ms free) (vx_Post XC mc ms free) := vx_callBack cw.1 hM hp.1
  obtain ⟨⟨-, -, -, -, -, -, hcode, hini, hy, hlen, hl⟩, hstt⟩ := cw
  obtain ⟨hx, hb, hml, ho, -⟩ := S
  intro T hT X
  rcases vx_callS X hx (bytes := bytes) (maxL := maxL) (ret := ret) ho hl hstt hini hcode hy hK hg (hsize.trans hml.symm) (argsL := As) (rest := rest) (fun sig h => hn.trans (hlen sig h)) hstack hW (by rw [hb]; exact hdg)
    (fun vm₁ hW₁ => ⟨hf.1, hf.2, hp.2 (T.setVm vm₁) hT hW₁⟩) with ⟨v, vm₁, ⟨U', l2, c2, s2⟩, hW₁, X', ⟨g', mk, t, L, e1, e2, hq, h1, hL, h2, h3⟩, st⟩ | ⟨q, vm₁, ⟨U', l2, c2, s2⟩, hW₁, X', ⟨g', mk, t, L, E, ce, e1, e2, hq, hce, hcv, hcl, h1, hL, h2, h3⟩, st⟩
  · dsimp only [Pt.U, Pt.locs, Pt.cells, Pt.slots] at X' e1 e2 h1 h2 h3 st
    subst h1; subst h2; subst h3
    exact Or.inl ⟨v, (T.setVm vm₁).calling g' mk As.toArray, t, U', L, hT, X', hL, e1, e2, hq, st⟩
  · dsimp only [Pt.U, Pt.locs, Pt.cells, Pt.slots] at X' e1 e2 h1 h2 h3 st hcl
    subst h1; subst h2; subst h3
    exact Or.inr ⟨q, (T.setVm vm₁).calling g' mk As.toArray, t, U', L, E, ce, hT, X', hL, e1, e2, hq, hce, hcv, vx_cls hW₁ hcl, st⟩
end Runs
section Rows
variable {p : Program} {l : Launch} {e : Env} {R : Room} {s : State} {m : MethodId} {args : Array Value} {below : List Frame} {meth : Method} {c : Code} {H : Heap} {locs : List Loc} {cells slots : Nat} {Q : State → Prop}
variable {mc ms : Nat} {free : Addr → Prop} {A0 A1 : Nat → Prop} {H0 : Heap} {a : Array Value} {pc : Nat} {ls : Array Slot} {st0 rest : List Value}
theorem vx_keep {st₀ t T' : State} {L : List Loc} (h0 : st₀.heap = H) (e1 : T'.heap = t.heap) (hS : va_S A0 H0 H locs) (hA : ∀ q, q < H.size → A1 q → A0 q) (hf : ∀ q, free q → A0 q) (hL : ∀ q ∈ L, free q.base) (hF : va_F A1 st₀ t) :
    H.size ≤ T'.heap.size ∧ (∀ q : Nat, q < H.size → ¬ A1 q → T'.heap[q]? = H[q]?) ∧ va_S A0 H0 T'.heap (locs ++ L) := by
  obtain ⟨hz, hk⟩ := hF
  rw [h0] at hz hk
  exact ⟨by rw [e1]; exact hz, fun q h1 h2 => by rw [e1]; exact hk q h1 h2,
    ⟨Nat.le_trans hS.1 (by rw [e1]; exact hz), fun q h1 h2 => by rw [e1, hk q (Nat.lt_of_lt_of_le h1 hS.1) (fun z => h2 (hA q (Nat.lt_of_lt_of_le h1 hS.1) z))]; exact hS.2.1 q h1 h2, fun q hq => by
      rcases List.mem_append.mp hq with h | h
      · exact hS.2.2 q h
      · exact hf _ (hL q h)⟩⟩
theorem vx_calli {S SX : Type} {post : Int32 → S → Prop} {px : SX → Prop} {B : S → State → Prop} {BX : String → SX → State → Prop} {AX : Nat → Prop} (hr : vx_Run p l e R s m args below meth c H locs cells slots mc ms (F0 m pc ls st0) rest (va_Qi post B A1 a) (vx_X px BX AX) free) (hS : va_S A0 H0 H locs) (hA : ∀ q, q < H.size → A1 q → A0 q) (hf : ∀ q, free q → A0 q) (hAX : ∀ q, q < H.size → AX q → A0 q)
    (kx : ∀ (E : String) (ce : Cell) (q9 : Addr) (u : SX) (t : State) (H1 : Heap) (locs1 : List Loc), t.heap = H1 → s.vm.Alike t.vm → px u → BX E u t → H.size ≤ H1.size → (∀ q : Nat, q < H.size → ¬ AX q → H1[q]? = H[q]?) → va_S A0 H0 H1 locs1 → H1[q9]? = some ce → ce.vm = .none → s.vm.findClass E = some ce.cls → vx_W p l e R s m args below meth c H1 locs1 (cells + mc) (slots + ms) Q (F0 m pc ls rest) q9)
    (kk : ∀ (r : Int32) (u : S) (t : State) (H1 : Heap) (locs1 : List Loc), t.heap = H1 → s.vm.Alike t.vm → post r u → B u t → H.size ≤ H1.size → (∀ q : Nat, q < H.size → ¬ A1 q → H1[q]? = H[q]?) → va_S A0 H0 H1 locs1 → W p l e R s m args below meth c H1 locs1 (cells + mc) (slots + ms) Q (F0 m (pc + 3) ls (.int r :: rest))) : W p l e R s m args below meth c H locs cells slots Q (F0 m pc ls st0) := by
  intro T hT X
  rcases hr T hT X with ⟨v, st₀, t, T', L, h0, X', hL, e1, e2, ⟨⟨r, u, hv, hp, hb⟩, hF⟩, st⟩ | ⟨q, st₀, t, T', L, E, ce, h0, X', hL, e1, e2, ⟨u, hp, hb, hF⟩, hce, hcv, hcl, st⟩
  · cases hv
    obtain ⟨k1, k2, k3⟩ := vx_keep h0 e1 hS hA hf hL hF
    obtain ⟨t2, a1, b1⟩ := kk r u t T'.heap (locs ++ L) e1.symm (by rw [← e2]; exact X'.warmed.alike) hp hb k1 k2 k3 T' rfl X'
    exact ⟨t2, st t2 a1, b1⟩
  · obtain ⟨k1, k2, k3⟩ := vx_keep h0 e1 hS hAX hf hL hF
    obtain ⟨t2, a1, b1⟩ := kx E ce q u t T'.heap (locs ++ L) e1.symm (by rw [← e2]; exact X'.warmed.alike) hp hb k1 k2 k3 (by rw [e1]; exact hce) hcv hcl T' rfl X'
    exact ⟨t2, st.trans a1, b1⟩
theorem vx_calll {S SX : Type} {post : Int64 → S → Prop} {px : SX → Prop} {B : S → State → Prop} {BX : String → SX → State → Prop} {AX : Nat → Prop} (hr : vx_Run p l e R s m args below meth c H locs cells slots mc ms (F0 m pc ls st0) rest (va_Ql post B A1 a) (vx_X px BX AX) free) (hS : va_S A0 H0 H locs) (hA : ∀ q, q < H.size → A1 q → A0 q) (hf : ∀ q, free q → A0 q) (hAX : ∀ q, q < H.size → AX q → A0 q)
    (kx : ∀ (E : String) (ce : Cell) (q9 : Addr) (u : SX) (t : State) (H1 : Heap) (locs1 : List Loc), t.heap = H1 → s.vm.Alike t.vm → px u → BX E u t → H.size ≤ H1.size → (∀ q : Nat, q < H.size → ¬ AX q → H1[q]? = H[q]?) → va_S A0 H0 H1 locs1 → H1[q9]? = some ce → ce.vm = .none → s.vm.findClass E = some ce.cls → vx_W p l e R s m args below meth c H1 locs1 (cells + mc) (slots + ms) Q (F0 m pc ls rest) q9)
    (kk : ∀ (r : Int64) (u : S) (t : State) (H1 : Heap) (locs1 : List Loc), t.heap = H1 → s.vm.Alike t.vm → post r u → B u t → H.size ≤ H1.size → (∀ q : Nat, q < H.size → ¬ A1 q → H1[q]? = H[q]?) → va_S A0 H0 H1 locs1 → W p l e R s m args below meth c H1 locs1 (cells + mc) (slots + ms) Q (F0 m (pc + 3) ls (.long r :: rest))) : W p l e R s m args below meth c H locs cells slots Q (F0 m pc ls st0) := by
  intro T hT X
  rcases hr T hT X with ⟨v, st₀, t, T', L, h0, X', hL, e1, e2, ⟨⟨r, u, hv, hp, hb⟩, hF⟩, st⟩ | ⟨q, st₀, t, T', L, E, ce, h0, X', hL, e1, e2, ⟨u, hp, hb, hF⟩, hce, hcv, hcl, st⟩
  · cases hv
    obtain ⟨k1, k2, k3⟩ := vx_keep h0 e1 hS hA hf hL hF
    obtain ⟨t2, a1, b1⟩ := kk r u t T'.heap (locs ++ L) e1.symm (by rw [← e2]; exact X'.warmed.alike) hp hb k1 k2 k3 T' rfl X'
    exact ⟨t2, st t2 a1, b1⟩
  · obtain ⟨k1, k2, k3⟩ := vx_keep h0 e1 hS hAX hf hL hF
    obtain ⟨t2, a1, b1⟩ := kx E ce q u t T'.heap (locs ++ L) e1.symm (by rw [← e2]; exact X'.warmed.alike) hp hb k1 k2 k3 (by rw [e1]; exact hce) hcv hcl T' rfl X'
    exact ⟨t2, st.trans a1, b1⟩
theorem vx_callf {S SX : Type} {post : UInt32 → S → Prop} {px : SX → Prop} {B : S → State → Prop} {BX : String → SX → State → Prop} {AX : Nat → Prop} (hr : vx_Run p l e R s m args below meth c H locs cells slots mc ms (F0 m pc ls st0) rest (va_Qf post B A1 a) (vx_X px BX AX) free) (hS : va_S A0 H0 H locs) (hA : ∀ q, q < H.size → A1 q → A0 q) (hf : ∀ q, free q → A0 q) (hAX : ∀ q, q < H.size → AX q → A0 q)
    (kx : ∀ (E : String) (ce : Cell) (q9 : Addr) (u : SX) (t : State) (H1 : Heap) (locs1 : List Loc), t.heap = H1 → s.vm.Alike t.vm → px u → BX E u t → H.size ≤ H1.size → (∀ q : Nat, q < H.size → ¬ AX q → H1[q]? = H[q]?) → va_S A0 H0 H1 locs1 → H1[q9]? = some ce → ce.vm = .none → s.vm.findClass E = some ce.cls → vx_W p l e R s m args below meth c H1 locs1 (cells + mc) (slots + ms) Q (F0 m pc ls rest) q9)
    (kk : ∀ (r : UInt32) (u : S) (t : State) (H1 : Heap) (locs1 : List Loc), t.heap = H1 → s.vm.Alike t.vm → post r u → B u t → H.size ≤ H1.size → (∀ q : Nat, q < H.size → ¬ A1 q → H1[q]? = H[q]?) → va_S A0 H0 H1 locs1 → W p l e R s m args below meth c H1 locs1 (cells + mc) (slots + ms) Q (F0 m (pc + 3) ls (.float r :: rest))) : W p l e R s m args below meth c H locs cells slots Q (F0 m pc ls st0) := by
  intro T hT X
  rcases hr T hT X with ⟨v, st₀, t, T', L, h0, X', hL, e1, e2, ⟨⟨r, u, hv, hp, hb⟩, hF⟩, st⟩ | ⟨q, st₀, t, T', L, E, ce, h0, X', hL, e1, e2, ⟨u, hp, hb, hF⟩, hce, hcv, hcl, st⟩
  · cases hv
    obtain ⟨k1, k2, k3⟩ := vx_keep h0 e1 hS hA hf hL hF
    obtain ⟨t2, a1, b1⟩ := kk r u t T'.heap (locs ++ L) e1.symm (by rw [← e2]; exact X'.warmed.alike) hp hb k1 k2 k3 T' rfl X'
    exact ⟨t2, st t2 a1, b1⟩
  · obtain ⟨k1, k2, k3⟩ := vx_keep h0 e1 hS hAX hf hL hF
    obtain ⟨t2, a1, b1⟩ := kx E ce q u t T'.heap (locs ++ L) e1.symm (by rw [← e2]; exact X'.warmed.alike) hp hb k1 k2 k3 (by rw [e1]; exact hce) hcv hcl T' rfl X'
    exact ⟨t2, st.trans a1, b1⟩
theorem vx_calld {S SX : Type} {post : UInt64 → S → Prop} {px : SX → Prop} {B : S → State → Prop} {BX : String → SX → State → Prop} {AX : Nat → Prop} (hr : vx_Run p l e R s m args below meth c H locs cells slots mc ms (F0 m pc ls st0) rest (va_Qd post B A1 a) (vx_X px BX AX) free) (hS : va_S A0 H0 H locs) (hA : ∀ q, q < H.size → A1 q → A0 q) (hf : ∀ q, free q → A0 q) (hAX : ∀ q, q < H.size → AX q → A0 q)
    (kx : ∀ (E : String) (ce : Cell) (q9 : Addr) (u : SX) (t : State) (H1 : Heap) (locs1 : List Loc), t.heap = H1 → s.vm.Alike t.vm → px u → BX E u t → H.size ≤ H1.size → (∀ q : Nat, q < H.size → ¬ AX q → H1[q]? = H[q]?) → va_S A0 H0 H1 locs1 → H1[q9]? = some ce → ce.vm = .none → s.vm.findClass E = some ce.cls → vx_W p l e R s m args below meth c H1 locs1 (cells + mc) (slots + ms) Q (F0 m pc ls rest) q9)
    (kk : ∀ (r : UInt64) (u : S) (t : State) (H1 : Heap) (locs1 : List Loc), t.heap = H1 → s.vm.Alike t.vm → post r u → B u t → H.size ≤ H1.size → (∀ q : Nat, q < H.size → ¬ A1 q → H1[q]? = H[q]?) → va_S A0 H0 H1 locs1 → W p l e R s m args below meth c H1 locs1 (cells + mc) (slots + ms) Q (F0 m (pc + 3) ls (.double r :: rest))) : W p l e R s m args below meth c H locs cells slots Q (F0 m pc ls st0) := by
  intro T hT X
  rcases hr T hT X with ⟨v, st₀, t, T', L, h0, X', hL, e1, e2, ⟨⟨r, u, hv, hp, hb⟩, hF⟩, st⟩ | ⟨q, st₀, t, T', L, E, ce, h0, X', hL, e1, e2, ⟨u, hp, hb, hF⟩, hce, hcv, hcl, st⟩
  · cases hv
    obtain ⟨k1, k2, k3⟩ := vx_keep h0 e1 hS hA hf hL hF
    obtain ⟨t2, a1, b1⟩ := kk r u t T'.heap (locs ++ L) e1.symm (by rw [← e2]; exact X'.warmed.alike) hp hb k1 k2 k3 T' rfl X'
    exact ⟨t2, st t2 a1, b1⟩
  · obtain ⟨k1, k2, k3⟩ := vx_keep h0 e1 hS hAX hf hL hF
    obtain ⟨t2, a1, b1⟩ := kx E ce q u t T'.heap (locs ++ L) e1.symm (by rw [← e2]; exact X'.warmed.alike) hp hb k1 k2 k3 (by rw [e1]; exact hce) hcv hcl T' rfl X'
    exact ⟨t2, st.trans a1, b1⟩
theorem vx_callv {S SX : Type} {post : S → Prop} {px : SX → Prop} {B : S → State → Prop} {BX : String → SX → State → Prop} {AX : Nat → Prop} (hr : vx_Run p l e R s m args below meth c H locs cells slots mc ms (F0 m pc ls st0) rest (va_Qv post B A1 a) (vx_X px BX AX) free) (hS : va_S A0 H0 H locs) (hA : ∀ q, q < H.size → A1 q → A0 q) (hf : ∀ q, free q → A0 q) (hAX : ∀ q, q < H.size → AX q → A0 q)
    (kx : ∀ (E : String) (ce : Cell) (q9 : Addr) (u : SX) (t : State) (H1 : Heap) (locs1 : List Loc), t.heap = H1 → s.vm.Alike t.vm → px u → BX E u t → H.size ≤ H1.size → (∀ q : Nat, q < H.size → ¬ AX q → H1[q]? = H[q]?) → va_S A0 H0 H1 locs1 → H1[q9]? = some ce → ce.vm = .none → s.vm.findClass E = some ce.cls → vx_W p l e R s m args below meth c H1 locs1 (cells + mc) (slots + ms) Q (F0 m pc ls rest) q9)
    (kk : ∀ (u : S) (t : State) (H1 : Heap) (locs1 : List Loc), t.heap = H1 → s.vm.Alike t.vm → post u → B u t → H.size ≤ H1.size → (∀ q : Nat, q < H.size → ¬ A1 q → H1[q]? = H[q]?) → va_S A0 H0 H1 locs1 → W p l e R s m args below meth c H1 locs1 (cells + mc) (slots + ms) Q (F0 m (pc + 3) ls (rest))) : W p l e R s m args below meth c H locs cells slots Q (F0 m pc ls st0) := by
  intro T hT X
  rcases hr T hT X with ⟨v, st₀, t, T', L, h0, X', hL, e1, e2, ⟨⟨u, hv, hp, hb⟩, hF⟩, st⟩ | ⟨q, st₀, t, T', L, E, ce, h0, X', hL, e1, e2, ⟨u, hp, hb, hF⟩, hce, hcv, hcl, st⟩
  · cases hv
    obtain ⟨k1, k2, k3⟩ := vx_keep h0 e1 hS hA hf hL hF
    obtain ⟨t2, a1, b1⟩ := kk u t T'.heap (locs ++ L) e1.symm (by rw [← e2]; exact X'.warmed.alike) hp hb k1 k2 k3 T' rfl X'
    exact ⟨t2, st t2 a1, b1⟩
  · obtain ⟨k1, k2, k3⟩ := vx_keep h0 e1 hS hAX hf hL hF
    obtain ⟨t2, a1, b1⟩ := kx E ce q u t T'.heap (locs ++ L) e1.symm (by rw [← e2]; exact X'.warmed.alike) hp hb k1 k2 k3 (by rw [e1]; exact hce) hcv hcl T' rfl X'
    exact ⟨t2, st.trans a1, b1⟩
/-- caught by the row x of this method's table; the rows ahead don't take it -/
theorem vx_catch {own name : String} {E : String} {ce : Cell} {q : Addr} (hown : s.vm.findClass own = some m.cls) (pre : List ExceptionTableEntry) (x : ExceptionTableEntry) (suf : List ExceptionTableEntry) (hsplit : c.exceptionTable.toList = pre ++ x :: suf)
    (hpass : ∀ z ∈ pre, covers z pc = false ∨ (z.catchType ≠ 0 ∧ ∃ nm : String, (Cond.classLink own z.catchType nm).before args s = true ∧ va_Nc E nm s)) (hx : covers x pc = true) (h0 : x.catchType ≠ 0)
    (hlink : (Cond.classLink own x.catchType name).before args s = true) (hcast : (Cond.castable E name).before args s = true) (hcell : H[q]? = some ce) (hv : ce.vm = .none) (hcl : s.vm.findClass E = some ce.cls)
    (kk : W p l e R s m args below meth c H locs cells slots Q (F0 m x.handlerPc ls [.ref q])) : vx_W p l e R s m args below meth c H locs cells slots Q (F0 m pc ls rest) q := by
  intro T hT X
  have hpl : e.platform.magicAccessors = ({} : Platform).magicAccessors := by rw [X.admits.platform]
  obtain ⟨c3, c4, hc3, hc4, hasg⟩ := Cond.castable_spec hcast
  cases Option.some.inj (hc3.symm.trans hcl)
  obtain ⟨c5, hc5, hcl5⟩ := Cond.classLink_spec hown hlink e.platform hpl
  cases Option.some.inj (hc4.symm.trans hc5)
  obtain ⟨vm', X', st⟩ := X.thenCaughtThrough q (g := F0 m pc ls rest) rfl (Steps.refl _) (by rw [hT]; exact hcell) (by rw [hv]; rfl) (by obtain ⟨k9, h9, -⟩ := Vm.findClass_spec hcl; exact ⟨k9, h9⟩) pre x suf hsplit
    (fun z hz => by
      rcases hpass z hz with h | ⟨hz0, nm, hl1, hn1⟩
      · exact Or.inl h
      · obtain ⟨c6, hc6, hcl6⟩ := Cond.classLink_spec hown hl1 e.platform hpl
        obtain ⟨a8, b8, h1, h2, h3⟩ := hn1
        cases Option.some.inj (h1.symm.trans hcl)
        cases Option.some.inj (h2.symm.trans hc6)
        exact Or.inr ⟨hz0, _, hcl6, h3⟩) hx (Or.inr ⟨h0, c4, hcl5, hasg⟩)
  obtain ⟨t, a1, b1⟩ := kk (T.setVm vm') hT X'
  exact ⟨t, st.trans a1, b1⟩
end Rows
section Ends
variable {p : Program} {l : Launch} {e : Env} {R : Room} {s : State} {m : MethodId} {args : Array Value} {below : List Frame} {meth : Method} {c : Code} {H : Heap} {locs : List Loc} {cells slots : Nat} {Q : State → Prop}
variable {mc ms : Nat} {free : Addr → Prop} {A0 A1 : Nat → Prop} {H0 : Heap} {a : Array Value} {ls : Array Slot} {st0 rest : List Value}
variable {Qc : Array Value → State → Outcome → State → Prop} {XC : String → State → State → Prop}
/-- what a body that may throw owes at its end -/
def vx_MQ (below : List Frame) (Qc : Array Value → State → Outcome → State → Prop) (XC : String → State → State → Prop) (a : Array Value) (s : State) (mc ms : Nat) (free : Addr → Prop) : State → Prop := fun t =>
  ∃ o, t.status = .running ∧ Ended t below o ∧ vx_Q Qc XC mc ms free a s o t
theorem vx_ret {g : JFrame} {mc ms : Nat} (k : W p l e R s m args below meth c H locs cells slots (MQ below Qc args s mc ms free) g) : W p l e R s m args below meth c H locs cells slots (vx_MQ below Qc XC args s mc ms free) g := by
  intro T hT X
  obtain ⟨t, a1, o, b1, b2, b3, b4⟩ := k T hT X
  exact ⟨t, a1, o, b1, b2, Or.inl ⟨b3, b4⟩⟩
/-- not caught here: it goes on to the caller -/
theorem vx_widen {g : JFrame} {q : Addr} {k n : Nat} (h1 : cells ≤ k) (h2 : slots ≤ n) (kk : vx_W p l e R s m args below meth c H locs k n Q g q) : vx_W p l e R s m args below meth c H locs cells slots Q g q := fun T hT X => kk T hT (stand_widen X h1 h2)
theorem vx_out {pc : Nat} {E : String} {ce : Cell} {q : Addr} {mc ms : Nat} (hout : ∀ x ∈ c.exceptionTable.toList, covers x pc = false) (hlocks : meth.locks = false) (hcell : H[q]? = some ce) (hv : ce.vm = .none) (hcl : s.vm.findClass E = some ce.cls)
    (hx : ∀ t : State, t.heap = H → s.vm.Alike t.vm → XC E s t) (hf : ∀ z ∈ locs, free z.base) (hc : cells ≤ mc) (hs : slots ≤ ms) :
    vx_W p l e R s m args below meth c H locs cells slots (vx_MQ below Qc XC args s mc ms free) (F0 m pc ls rest) q := by
  intro T hT X
  obtain ⟨st1, hrun, hend, hW, hsm⟩ := X.leaveThrown q (g := F0 m pc ls rest) rfl rfl rfl hout hlocks
  have hcell9 : (T.setFrames (.throwing q :: below)).heap[q]? = some ce := by
    show T.heap[q]? = some ce
    rw [hT]; exact hcell
  exact ⟨_, st1, .threw q, hrun, hend, Or.inr ⟨q, rfl, E, ce, locs, hx _ hT hW.alike, hcell9, hv, hcl, hW, hsm.mono hc hs, hf⟩⟩
theorem vx_frame {U : State} {k n : Nat} (h : s.sameButNew ({ U with vm := s.vm } : State) locs k n) : s.heap.size ≤ U.heap.size ∧ ∀ q : Nat, q < s.heap.size → (∀ z ∈ locs, z.base ≠ q) → U.heap[q]? = s.heap[q]? := by
  obtain ⟨-, h2, -, -, -, h6⟩ := h
  refine ⟨h2, fun q hq hz => ?_⟩
  obtain ⟨c9, e1, e2, e3, e4⟩ := h6 q _ (Array.getElem?_eq_getElem hq)
  have hs : c9.slots = (s.heap[q]).slots := Array.ext_getElem? fun i => e4 i fun hm => hz _ hm rfl
  have h9 : c9 = s.heap[q] := by
    rw [hs] at e2
    exact e2
  have e5 : U.heap[q]? = some c9 := e1
  rw [e5, h9, Array.getElem?_eq_getElem hq]
/-- the words of a throw but the four that speak of the heap -/
def vx_no (w : Cond) : Bool := decide (w ≠ .isRef (.static Bundle.tN "UNASSIGNED_STACK" Bundle.steD)) && decide (w ≠ .isRef (.static Bundle.tN "SUPPRESSED_SENTINEL" Bundle.listD)) && decide (w ≠ .laysStatic Bundle.tN "UNASSIGNED_STACK" Bundle.steD) && decide (w ≠ .laysStatic Bundle.tN "SUPPRESSED_SENTINEL" Bundle.listD)
def vx_at0 (own : String) (ic : Nat) (X : String) (names : List String) : List Cond := (Bundle.ownAtoms0 own ic X names).filter vx_no
def vx_atS (own : String) (ic : Nat) (X : String) (names : List String) : List Cond := (Bundle.ownAtoms own ic X names).filter vx_no
/-- a word that the tables alone decide, or a good one -/
def vx_ot (w : Cond) : Bool := w.onTables || goodWord w
theorem vx_ot_at {args a' : Array Value} {s U : State} {w : Cond} (hW : s.WarmedH U.vm) (hvm : s.vm = U.vm) (hg : vx_ot w = true) (h : w.before args s = true) : w.before a' U = true := by
  simp only [vx_ot, Bool.or_eq_true] at hg
  rcases hg with hg | hg
  · exact va_tabs hg hvm h
  · exact word_at hW (good_of_word hg) h
/-- a list's words: the good ones out of the method's own list, the others by premises of their own -/
theorem vx_hat {args : Array Value} {s : State} {L B : List Cond} (h1 : ∀ w ∈ L.filter goodWord, w.before args s = true) (h2 : ∀ w ∈ L.filter (fun w => !goodWord w), w ∈ B) (h3 : ∀ w ∈ B, w.before args s = true) : ∀ w ∈ L, w.before args s = true := by
  intro w hw
  by_cases g : goodWord w = true
  · exact h1 w (List.mem_filter.mpr ⟨hw, g⟩)
  · refine h3 w (h2 w (List.mem_filter.mpr ⟨hw, ?_⟩))
    show (!goodWord w) = true
    cases hgw : goodWord w
    · rfl
    · exact absurd hgw g
theorem vx_c {args : Array Value} {s : State} {w : Cond} {B : List Cond} (h : w.before args s = true) (t : ∀ w ∈ B, w.before args s = true) : ∀ w' ∈ w :: B, w'.before args s = true := fun w' h' => (List.mem_cons.mp h').elim (fun e => by rw [e]; exact h) (t w')
theorem vx_n {args : Array Value} {s : State} : ∀ w ∈ ([] : List Cond), w.before args s = true := fun _ h => nomatch h
theorem vx_own {args : Array Value} {s : State} {L : List Cond} (h1 : ∀ w ∈ L.filter vx_no, w.before args s = true)
    (hU : (Cond.isRef (.static Bundle.tN "UNASSIGNED_STACK" Bundle.steD)).before args s = true) (hN : (Cond.isRef (.static Bundle.tN "SUPPRESSED_SENTINEL" Bundle.listD)).before args s = true)
    (lU : (Cond.laysStatic Bundle.tN "UNASSIGNED_STACK" Bundle.steD).before args s = true) (lN : (Cond.laysStatic Bundle.tN "SUPPRESSED_SENTINEL" Bundle.listD).before args s = true) : ∀ w ∈ L, w.before args s = true := by
  intro w hw
  by_cases e1 : w = .isRef (.static Bundle.tN "UNASSIGNED_STACK" Bundle.steD)
  · rw [e1]; exact hU
  · by_cases e2 : w = .isRef (.static Bundle.tN "SUPPRESSED_SENTINEL" Bundle.listD)
    · rw [e2]; exact hN
    · by_cases e3 : w = .laysStatic Bundle.tN "UNASSIGNED_STACK" Bundle.steD
      · rw [e3]; exact lU
      · by_cases e4 : w = .laysStatic Bundle.tN "SUPPRESSED_SENTINEL" Bundle.listD
        · rw [e4]; exact lN
        · exact h1 w (List.mem_filter.mpr ⟨hw, by unfold vx_no; rw [decide_eq_true e1, decide_eq_true e2, decide_eq_true e3, decide_eq_true e4]; rfl⟩)
/-- where a static field lies, its class's statics cell in H -/
def vx_L (C n d : String) (A : Nat → Prop) (U : State) (H : Heap) : Prop := ∃ (c : ClassId) (k : Class) (i : Nat) (f : Field) (a : Nat) (cell : Cell), U.vm.findClass C = some c ∧ U.fieldFound? C n d = some (c, k, i, f) ∧ f.isStatic = true ∧ k.statics = some a ∧ H[a]? = some cell ∧ cell.vm.isStatics = true ∧ cell.cls = c ∧ f.slot < cell.slots.size ∧ k.staticTypes[f.slot]? = some f.type ∧ ¬ A a
theorem vx_L.moved {C n d : String} {A : Nat → Prop} {u U : State} {H : Heap} (hvm : u.vm.Alike U.vm) (h : vx_L C n d A u H) : vx_L C n d A U H := by
  obtain ⟨c, k, i, f, a, cell, h1, h2, h3, h4, h5, h6, h7, h8, h9, h10⟩ := h
  obtain ⟨k', hi', he⟩ := State.fieldFound?_setVm hvm h2
  exact ⟨c, k', i, f, a, cell, by rw [hvm.findClass]; exact h1, hi', h3, by rw [he]; exact h4, h5, h6, h7, h8, by rw [he]; exact h9, h10⟩
theorem vx_L.kept {C n d : String} {A : Nat → Prop} {U : State} {H H1 : Heap} (h : vx_L C n d A U H) (hq : ∀ a : Nat, a < H.size → ¬ A a → H1[a]? = H[a]?) : vx_L C n d A U H1 := by
  obtain ⟨c, k, i, f, a, cell, h1, h2, h3, h4, h5, h6, h7, h8, h9, h10⟩ := h
  exact ⟨c, k, i, f, a, cell, h1, h2, h3, h4, by rw [hq a (Array.getElem?_eq_some_iff.mp h5).1 h10]; exact h5, h6, h7, h8, h9, h10⟩
theorem vx_L.narrow {C n d : String} {A B : Nat → Prop} {U : State} {H : Heap} (h : vx_L C n d A U H) (hAB : ∀ q, B q → A q) : vx_L C n d B U H := by
  obtain ⟨c, k, i, f, a, cell, h1, h2, h3, h4, h5, h6, h7, h8, h9, h10⟩ := h
  exact ⟨c, k, i, f, a, cell, h1, h2, h3, h4, h5, h6, h7, h8, h9, fun z => h10 (hAB _ z)⟩
theorem vx_L.word {C n d : String} {A : Nat → Prop} {s : State} {args : Array Value} (h : vx_L C n d A s s.heap) : (Cond.laysStatic C n d).before args s = true := by
  obtain ⟨c, k, i, f, a, cell, h1, h2, h3, h4, h5, h6, h7, h8, h9, -⟩ := h
  show (Cond.laysStatic C n d).holds args s none s [] = true
  exact Cond.laysStatic_of h1 h2 h3 h4 h5 h6 h7 h8 h9
/-- .. and what it holds: null or some reference -/
def vx_Zq (C n d : String) (A : Nat → Prop) (U : State) (H : Heap) : Prop := va_Zq C n d A U H ∧ vx_L C n d A U H
theorem vx_Zq.moved {C n d : String} {A : Nat → Prop} {u U : State} {H : Heap} (hvm : u.vm.Alike U.vm) (h : vx_Zq C n d A u H) : vx_Zq C n d A U H := ⟨va_Zq.moved hvm h.1, vx_L.moved hvm h.2⟩
theorem vx_Zq.kept {C n d : String} {A : Nat → Prop} {U : State} {H H1 : Heap} (h : vx_Zq C n d A U H) (hq : ∀ a : Nat, a < H.size → ¬ A a → H1[a]? = H[a]?) : vx_Zq C n d A U H1 := ⟨va_Zq.kept h.1 hq, vx_L.kept h.2 hq⟩
theorem vx_Zq.narrow {C n d : String} {A B : Nat → Prop} {U : State} {H : Heap} (h : vx_Zq C n d A U H) (hAB : ∀ q, B q → A q) : vx_Zq C n d B U H := ⟨va_Zq.narrow h.1 hAB, vx_L.narrow h.2 hAB⟩
theorem vx_Zqof {args : Array Value} {s : State} {C n d : String} {A : Nat → Prop} (hl : (Cond.laysStatic C n d).before args s = true) (hini : (Cond.initialized C).before args s = true) (h : (Cond.isRef (.static C n d)).before args s = true) (hA : ∀ a : Nat, a < s.heap.size → ¬ A a) : vx_Zq C n d A s s.heap := by
  refine ⟨va_Zqof hl hini h hA, ?_⟩
  obtain ⟨c, k, i, f, a, cell, h1, h2, h3, h4, h5, h6, h7, h8, h9⟩ := Cond.laysStatic_spec hl
  exact ⟨c, k, i, f, a, cell, h1, h2, h3, h4, h5, h6, h7, h8, h9, hA a (Array.getElem?_eq_some_iff.mp h5).1⟩
theorem vx_isRef {C n d : String} {v : Value} {A : Nat → Prop} {s : State} {args : Array Value} (h : va_Z C n d v A s s.heap) (hv : v.isRef = true) : (Cond.isRef (.static C n d)).before args s = true := by
  obtain ⟨cf, kf, fi, f, a, cell, h1, h2, h3, h4, h5, h6, h7, -⟩ := h
  have he : (Term.static C n d).eval args s none [] s = some v := by
    simp [Term.eval, State.fieldNamed?, h1, h2, h4, h5, h6, h7]
  simp only [Cond.before, Cond.holds, Cond.value, he]
  cases v <;> simp_all [Value.isRef]
theorem vx_isRefq {C n d : String} {A : Nat → Prop} {s : State} {args : Array Value} (h : va_Zq C n d A s s.heap) : (Cond.isRef (.static C n d)).before args s = true := by
  rcases h with h | ⟨t, h⟩
  · exact vx_isRef h rfl
  · exact vx_isRef h rfl
/-- the same frame, seen from here: as if the method were called anew in this heap -/
theorem vx_rebase {T : State} (X : Stand p l e R s m args below meth c T locs cells slots) {R' : Room} (hf : R'.frames ≤ R.frames) (hl : R'.locals ≤ R.locals) (hc : cells + R'.cells ≤ R.cells) (hs : slots + R'.slots ≤ R.slots) :
    Stand p l e R' ((T.setVm s.vm).setFrames (.invoking m args :: below)) m args below meth c T [] 0 0 := by
  have htop : (T.setVm s.vm).topJava?.isSome := X.here.top
  have hF : ((T.setVm s.vm).setFrames (.invoking m args :: below)).frames = .invoking m args :: below := State.frames_setFrames _ (State.cur_lt_of_top htop)
  obtain ⟨g₀, hg0⟩ := Option.isSome_iff_exists.mp htop
  obtain ⟨r, hr⟩ := State.topJava?_eq_some.mp hg0
  have hl9 : e.platform.stackLimits (T.setVm s.vm).me = e.platform.stackLimits s.me := X.limits
  have hb9 : (T.setVm s.vm).me.stackBytes = s.me.stackBytes := X.bytes
  refine ⟨X.admits, X.cas, X.clock, hF, ?_, X.hears, X.method, X.code, X.here, X.tail, X.warmed, ?_, ?_, ?_⟩
  · have h := X.room
    have hU : ((T.setVm s.vm).setFrames (.invoking m args :: below)).localsInUse = s.localsInUse := by
      rw [State.localsInUse_invoking hF (meth := meth) (c := c) X.method X.code, State.localsInUse_invoking X.frames X.method X.code]
    simp only [State.hasRoom, Bool.and_eq_true, decide_eq_true_eq] at h ⊢
    obtain ⟨⟨⟨⟨h1, h2, h3, h4, h5, h6⟩, h7⟩, h8⟩, h9⟩ := h
    rw [X.frames, List.length_cons] at h2 h3
    have q1 := X.heapSize
    have q2 := X.used
    simp only [hF, hU, List.length_cons, State.stackLimits_setFrames, State.stackBytes_setFrames, hl9, hb9]
    refine ⟨⟨⟨⟨by omega, by omega, by omega, by omega, by omega, h6⟩, ?_⟩, ?_⟩, X.book⟩
    · show T.heap.size + R'.cells ≤ e.platform.maxCells
      omega
    · show T.slotsUsed + R'.slots ≤ e.platform.maxSlots
      omega
  · rw [State.stackLimits_setFrames]; rfl
  · rw [State.stackBytes_setFrames]; rfl
  · refine ⟨?_, Nat.le_refl _, Nat.le_refl _, ?_, ?_, fun a c9 h9 => ⟨c9, h9, rfl, rfl, fun _ _ => rfl⟩⟩
    · obtain ⟨t, ht, -⟩ := State.frames_cons hr
      show T.setVm s.vm = { ((T.setVm s.vm).setFrames (.invoking m args :: below)).setFrames (T.setVm s.vm).frames with heap := T.heap, slotsUsed := T.slotsUsed }
      rw [State.setFrames_setFrames, State.setFrames_self ht]
      rfl
    · show T.slotsUsed = T.slotsUsed + ((T.heap.toList.drop T.heap.size).map (·.slots.size)).sum
      rw [List.drop_eq_nil_of_le (Nat.le_of_eq Array.length_toList)]
      rfl
    · show ((T.heap.toList.drop T.heap.size).map (·.slots.size)).sum ≤ 0
      rw [List.drop_eq_nil_of_le (Nat.le_of_eq Array.length_toList)]
      exact Nat.le_refl _
/-- 'throw new E()': new; dup; invokespecial; athrow -/
theorem vx_throw0 {cc : ByteArray} {pc : Nat} (hexec : p.tables.exec = Jvm.exec) (hb : c.code = cc) (hl : l.stackTraces = false) {own cls : String} {names : List String} {ik ic mc ms : Nat} {A : Nat → Prop}
    (hown : s.vm.findClass own = some m.cls) (hcls : Bundle.fit cls = true) (hnames : ∀ n ∈ names, Bundle.fit n = true)
    (hk : (Cond.classLink own ik cls).before args s = true) (hini : (Cond.initialized cls).before args s = true) (hat : ∀ w ∈ vx_at0 own ic cls names, w.before args s = true)
    (hgood : ∀ w ∈ Cond.classLink own ik cls :: Cond.initialized cls :: vx_at0 own ic cls names, vx_ot w = true)
    (hU : vx_Zq Bundle.tN "UNASSIGNED_STACK" Bundle.steD A s s.heap) (hN : vx_Zq Bundle.tN "SUPPRESSED_SENTINEL" Bundle.listD A s s.heap) (hS : va_S A s.heap H locs) (hsize : ls.size = c.maxLocals)
    (d0 : decode cc pc = .ok (.new ik, 3)) (d3 : decode cc (pc + 3) = .ok (.dup, 1)) (d4 : decode cc (pc + 4) = .ok (.invokespecial ic, 3)) (d7 : decode cc (pc + 7) = .ok (.athrow, 1))
    (hout : ∀ x ∈ c.exceptionTable.toList, covers x (pc + 7) = false)
    (hRframes : names.length + 3 < R.frames) (hRlocals : (rest.map fun v => v.category).sum + (13 * (names.length + 1) + 42) ≤ R.locals) (hRcells : cells + 1 ≤ R.cells) (hRslots : slots + 6 ≤ R.slots) (hlocks : meth.locks = false)
    (hx : ∀ t : State, s.vm.Alike t.vm → H.size ≤ t.heap.size → (∀ q : Nat, q < H.size → t.heap[q]? = H[q]?) → XC cls s t)
    (hf : ∀ z ∈ locs, free z.base) (hc : cells + 1 ≤ mc) (hs : slots + 6 ≤ ms) :
    W p l e R s m args below meth c H locs cells slots (vx_MQ below Qc XC args s mc ms free) (F0 m pc ls rest) := by
  intro T hT X
  have htr : e.platform.stackTraces = false := (show e.platform.stackTraces = l.stackTraces by rw [X.admits.platform]).trans hl
  have Y := vx_rebase X (R' := { frames := R.frames, locals := R.locals, cells := 1, slots := 6 }) (Nat.le_refl _) (Nat.le_refl _) hRcells hRslots
  obtain ⟨s', hA⟩ : ∃ z, z = (T.setVm s.vm).setFrames (.invoking m args :: below) := ⟨_, rfl⟩
  rw [← hA] at Y
  have hvm : s'.vm = s.vm := by rw [hA]; rfl
  have hhp : s'.heap = H := by rw [hA]; exact hT
  have hW0 : s.WarmedH s'.vm := by rw [hvm]; exact State.WarmedH.refl s
  have hat' : ∀ w ∈ vx_at0 own ic cls names, w.before args s' = true := fun w hw => vx_ot_at hW0 hvm.symm (hgood w (List.mem_cons_of_mem _ (List.mem_cons_of_mem _ hw))) (hat w hw)
  have hk' : (Cond.classLink own ik cls).before args s' = true := vx_ot_at hW0 hvm.symm (hgood _ List.mem_cons_self) hk
  have hini' : (Cond.initialized cls).before args s' = true := vx_ot_at hW0 hvm.symm (hgood _ (List.mem_cons_of_mem _ List.mem_cons_self)) hini
  have hU' : vx_Zq Bundle.tN "UNASSIGNED_STACK" Bundle.steD A s' s'.heap := by rw [hhp]; exact vx_Zq.moved hW0.alike (hU.kept hS.2.1)
  have hN' : vx_Zq Bundle.tN "SUPPRESSED_SENTINEL" Bundle.listD A s' s'.heap := by rw [hhp]; exact vx_Zq.moved hW0.alike (hN.kept hS.2.1)
  have h : ∀ w ∈ Bundle.ownAtoms0 own ic cls names, w.before args s' = true := vx_own hat' (vx_isRefq hU'.1) (vx_isRefq hN'.1) hU'.2.word hN'.2.word
  have hown' : s'.vm.findClass own = some m.cls := by rw [hvm]; exact hown
  have hins : (Cond.instantiable cls 6).before args s' = true := h _ (by simp [Bundle.ownAtoms0])
  obtain ⟨vm₁, cX, kX, hfX, hkX, -, -, X₁, st1⟩ := Y.newCold hexec (own := own) (C := cls) (index := ik) (n := 6) hown' hk' hins hini'
    (g := F0 m pc ls rest) rfl (by rw [hb]; exact d0) (Nat.le_refl _) (Nat.le_refl _)
  generalize hT1 : (T.setVm vm₁).pushCell { cls := cX, slots := kX.instanceTypes.map defaultValue, vm := .none } = T1 at X₁ st1
  have hcat : (Value.ref T.heap.size).category = 1 := rfl
  have hcellA : T1.heap[T.heap.size]? = some (freshCell cX kX) := by rw [← hT1]; exact State.heap_pushCell_size _ _
  have d3' : decode c.code (pc + 3) = .ok (.dup, 1) := by rw [hb]; exact d3
  obtain ⟨U, hsteps, hrun, hend, hW, hsame, ce, hce, hO⟩ := X₁.ctorThrow0 hexec htr (own := own) (cls := cls) (names := names) (ic := ic) hown' hcls hnames h (fun x hx => nomatch hx) hfX hkX hcellA (by rw [hhp, hT]; exact Nat.le_refl _)
    (g := { method := m, pc := pc + 4, locals := ls, stack := .ref T.heap.size :: .ref T.heap.size :: rest, locked := none }) rfl hsize rfl rfl (rest := rest) rfl
    (by rw [hb]; exact d4) (by rw [hb]; exact d7) hout hRframes (by simp only [List.map_cons, List.sum_cons, hcat]; omega) hlocks
  obtain ⟨f1, f2⟩ := vx_frame hsame
  rw [hhp] at f1 f2
  have hWs : s.WarmedH U.vm := State.WarmedH.trans hW0 hW
  have hcl : s.vm.findClass cls = some ce.cls := by
    have h9 := hO.cls
    rw [hvm] at h9
    exact h9
  have hall : s.sameButNew ({ U with vm := s.vm } : State) locs mc ms := by
    subst hA
    obtain ⟨e1, e2⟩ := hsame
    rw [State.setFrames_setFrames] at e1
    have h2 : (T.setVm s.vm).sameButNew ({ U with vm := s.vm } : State) [] (0 + 1) (0 + 6) := ⟨e1, e2⟩
    have h3 := X.same.trans h2
    rw [List.append_nil] at h3
    exact h3.mono hc hs
  refine ⟨U, ?_, .threw T.heap.size, hrun, hend, Or.inr ⟨T.heap.size, rfl, cls, ce, locs, hx U hWs.alike f1 (fun q hq => f2 q hq (fun z hz => nomatch hz)), hce, hO.vm, hcl, hWs, hall, hf⟩⟩
  refine st1 _ ?_
  show Steps p.tables e below (T1.setTop { method := m, pc := pc + 3, locals := ls, stack := .ref T.heap.size :: rest, locked := none }) _
  jvm_step X₁.here [X₁.here.top, hexec, d3', Value.category]
  exact hsteps
/-- 'throw new E("text")': new; dup; ldc; invokespecial; athrow -/
theorem vx_throwS {cc : ByteArray} {pc : Nat} (hexec : p.tables.exec = Jvm.exec) (hb : c.code = cc) (hl : l.stackTraces = false) {own cls text : String} {names : List String} {ik is ic mc ms sa : Nat} {A : Nat → Prop}
    (hown : s.vm.findClass own = some m.cls) (hcls : Bundle.fit cls = true) (hnames : ∀ n ∈ names, Bundle.fit n = true)
    (hk : (Cond.classLink own ik cls).before args s = true) (hini : (Cond.initialized cls).before args s = true) (hstr : vk_R own is text sa s) (hat : ∀ w ∈ vx_atS own ic cls names, w.before args s = true)
    (hgood : ∀ w ∈ Cond.classLink own ik cls :: Cond.initialized cls :: vx_atS own ic cls names, vx_ot w = true)
    (hU : vx_Zq Bundle.tN "UNASSIGNED_STACK" Bundle.steD A s s.heap) (hN : vx_Zq Bundle.tN "SUPPRESSED_SENTINEL" Bundle.listD A s s.heap) (hS : va_S A s.heap H locs) (hsize : ls.size = c.maxLocals)
    (d0 : decode cc pc = .ok (.new ik, 3)) (d3 : decode cc (pc + 3) = .ok (.dup, 1)) (d4 : decode cc (pc + 4) = .ok (.ldc is, 2)) (d6 : decode cc (pc + 6) = .ok (.invokespecial ic, 3)) (d9 : decode cc (pc + 9) = .ok (.athrow, 1))
    (hout : ∀ x ∈ c.exceptionTable.toList, covers x (pc + 9) = false)
    (hRframes : names.length + 3 < R.frames) (hRlocals : (rest.map fun v => v.category).sum + (13 * (names.length + 1) + 43) ≤ R.locals) (hRcells : cells + 1 ≤ R.cells) (hRslots : slots + 6 ≤ R.slots) (hlocks : meth.locks = false)
    (hx : ∀ t : State, s.vm.Alike t.vm → H.size ≤ t.heap.size → (∀ q : Nat, q < H.size → t.heap[q]? = H[q]?) → XC cls s t)
    (hf : ∀ z ∈ locs, free z.base) (hc : cells + 1 ≤ mc) (hs : slots + 6 ≤ ms) :
    W p l e R s m args below meth c H locs cells slots (vx_MQ below Qc XC args s mc ms free) (F0 m pc ls rest) := by
  intro T hT X
  have htr : e.platform.stackTraces = false := (show e.platform.stackTraces = l.stackTraces by rw [X.admits.platform]).trans hl
  have Y := vx_rebase X (R' := { frames := R.frames, locals := R.locals, cells := 1, slots := 6 }) (Nat.le_refl _) (Nat.le_refl _) hRcells hRslots
  obtain ⟨s', hA⟩ : ∃ z, z = (T.setVm s.vm).setFrames (.invoking m args :: below) := ⟨_, rfl⟩
  rw [← hA] at Y
  have hvm : s'.vm = s.vm := by rw [hA]; rfl
  have hhp : s'.heap = H := by rw [hA]; exact hT
  have hW0 : s.WarmedH s'.vm := by rw [hvm]; exact State.WarmedH.refl s
  have hat' : ∀ w ∈ vx_atS own ic cls names, w.before args s' = true := fun w hw => vx_ot_at hW0 hvm.symm (hgood w (List.mem_cons_of_mem _ (List.mem_cons_of_mem _ hw))) (hat w hw)
  have hk' : (Cond.classLink own ik cls).before args s' = true := vx_ot_at hW0 hvm.symm (hgood _ List.mem_cons_self) hk
  have hini' : (Cond.initialized cls).before args s' = true := vx_ot_at hW0 hvm.symm (hgood _ (List.mem_cons_of_mem _ List.mem_cons_self)) hini
  have hU' : vx_Zq Bundle.tN "UNASSIGNED_STACK" Bundle.steD A s' s'.heap := by rw [hhp]; exact vx_Zq.moved hW0.alike (hU.kept hS.2.1)
  have hN' : vx_Zq Bundle.tN "SUPPRESSED_SENTINEL" Bundle.listD A s' s'.heap := by rw [hhp]; exact vx_Zq.moved hW0.alike (hN.kept hS.2.1)
  have h : ∀ w ∈ Bundle.ownAtoms own ic cls names, w.before args s' = true := vx_own hat' (vx_isRefq hU'.1) (vx_isRefq hN'.1) hU'.2.word hN'.2.word
  have hown' : s'.vm.findClass own = some m.cls := by rw [hvm]; exact hown
  have hins : (Cond.instantiable cls 6).before args s' = true := h _ (by simp [Bundle.ownAtoms])
  obtain ⟨vm₁, cX, kX, hfX, hkX, -, -, X₁, st1⟩ := Y.newCold hexec (own := own) (C := cls) (index := ik) (n := 6) hown' hk' hins hini'
    (g := F0 m pc ls rest) rfl (by rw [hb]; exact d0) (Nat.le_refl _) (Nat.le_refl _)
  generalize hT1 : (T.setVm vm₁).pushCell { cls := cX, slots := kX.instanceTypes.map defaultValue, vm := .none } = T1 at X₁ st1
  have hcat : (Value.ref T.heap.size).category = 1 := rfl
  have hcellA : T1.heap[T.heap.size]? = some (freshCell cX kX) := by rw [← hT1]; exact State.heap_pushCell_size _ _
  have d3' : decode c.code (pc + 3) = .ok (.dup, 1) := by rw [hb]; exact d3
  have d4' : decode c.code (pc + 4) = .ok (.ldc is, 2) := by rw [hb]; exact d4
  have hstr' : vk_R own is text sa s' := vk_R.warm hW0 hstr
  obtain ⟨U, hsteps, hrun, hend, hW, hsame, ce, hce, hO⟩ := X₁.ctorThrowS hexec htr (own := own) (cls := cls) (names := names) (ic := ic) hown' hcls hnames h (fun x hx => nomatch hx) hfX hkX hcellA (by rw [hhp, hT]; exact Nat.le_refl _) (msg := .ref sa) rfl
    (g := { method := m, pc := pc + 6, locals := ls, stack := .ref sa :: .ref T.heap.size :: .ref T.heap.size :: rest, locked := none }) rfl hsize rfl rfl (rest := rest) rfl
    (by rw [hb]; exact d6) (by rw [hb]; exact d9) hout hRframes (by simp only [List.map_cons, List.sum_cons, hcat]; omega) hlocks
  obtain ⟨f1, f2⟩ := vx_frame hsame
  rw [hhp] at f1 f2
  have hWs : s.WarmedH U.vm := State.WarmedH.trans hW0 hW
  have hcl : s.vm.findClass cls = some ce.cls := by
    have h9 := hO.cls
    rw [hvm] at h9
    exact h9
  have hall : s.sameButNew ({ U with vm := s.vm } : State) locs mc ms := by
    subst hA
    obtain ⟨e1, e2⟩ := hsame
    rw [State.setFrames_setFrames] at e1
    have h2 : (T.setVm s.vm).sameButNew ({ U with vm := s.vm } : State) [] (0 + 1) (0 + 6) := ⟨e1, e2⟩
    have h3 := X.same.trans h2
    rw [List.append_nil] at h3
    exact h3.mono hc hs
  refine ⟨U, ?_, .threw T.heap.size, hrun, hend, Or.inr ⟨T.heap.size, rfl, cls, ce, locs, hx U hWs.alike f1 (fun q hq => f2 q hq (fun z hz => nomatch hz)), hce, hO.vm, hcl, hWs, hall, hf⟩⟩
  refine st1 _ ?_
  show Steps p.tables e below (T1.setTop { method := m, pc := pc + 3, locals := ls, stack := .ref T.heap.size :: rest, locked := none }) _
  jvm_step X₁.here [X₁.here.top, hexec, d3', Value.category]
  exact X₁.ldcString hexec (own := own) (text := text) (index := is) (a := sa) hown' hstr'.1 hstr'.2
    (g := { method := m, pc := pc + 4, locals := ls, stack := .ref T.heap.size :: .ref T.heap.size :: rest, locked := none }) rfl d4' _ hsteps
/-- 'throw new E("text")', the text by a wide index -/
theorem vx_throwSW {cc : ByteArray} {pc : Nat} (hexec : p.tables.exec = Jvm.exec) (hb : c.code = cc) (hl : l.stackTraces = false) {own cls text : String} {names : List String} {ik is ic mc ms sa : Nat} {A : Nat → Prop}
    (hown : s.vm.findClass own = some m.cls) (hcls : Bundle.fit cls = true) (hnames : ∀ n ∈ names, Bundle.fit n = true)
    (hk : (Cond.classLink own ik cls).before args s = true) (hini : (Cond.initialized cls).before args s = true) (hstr : vk_R own is text sa s) (hat : ∀ w ∈ vx_atS own ic cls names, w.before args s = true)
    (hgood : ∀ w ∈ Cond.classLink own ik cls :: Cond.initialized cls :: vx_atS own ic cls names, vx_ot w = true)
    (hU : vx_Zq Bundle.tN "UNASSIGNED_STACK" Bundle.steD A s s.heap) (hN : vx_Zq Bundle.tN "SUPPRESSED_SENTINEL" Bundle.listD A s s.heap) (hS : va_S A s.heap H locs) (hsize : ls.size = c.maxLocals)
    (d0 : decode cc pc = .ok (.new ik, 3)) (d3 : decode cc (pc + 3) = .ok (.dup, 1)) (d4 : decode cc (pc + 4) = .ok (.ldc_w is, 3)) (d7 : decode cc (pc + 7) = .ok (.invokespecial ic, 3)) (d10 : decode cc (pc + 10) = .ok (.athrow, 1))
    (hout : ∀ x ∈ c.exceptionTable.toList, covers x (pc + 10) = false)
    (hRframes : names.length + 3 < R.frames) (hRlocals : (rest.map fun v => v.category).sum + (13 * (names.length + 1) + 43) ≤ R.locals) (hRcells : cells + 1 ≤ R.cells) (hRslots : slots + 6 ≤ R.slots) (hlocks : meth.locks = false)
    (hx : ∀ t : State, s.vm.Alike t.vm → H.size ≤ t.heap.size → (∀ q : Nat, q < H.size → t.heap[q]? = H[q]?) → XC cls s t)
    (hf : ∀ z ∈ locs, free z.base) (hc : cells + 1 ≤ mc) (hs : slots + 6 ≤ ms) :
    W p l e R s m args below meth c H locs cells slots (vx_MQ below Qc XC args s mc ms free) (F0 m pc ls rest) := by
  intro T hT X
  have htr : e.platform.stackTraces = false := (show e.platform.stackTraces = l.stackTraces by rw [X.admits.platform]).trans hl
  have Y := vx_rebase X (R' := { frames := R.frames, locals := R.locals, cells := 1, slots := 6 }) (Nat.le_refl _) (Nat.le_refl _) hRcells hRslots
  obtain ⟨s', hA⟩ : ∃ z, z = (T.setVm s.vm).setFrames (.invoking m args :: below) := ⟨_, rfl⟩
  rw [← hA] at Y
  have hvm : s'.vm = s.vm := by rw [hA]; rfl
  have hhp : s'.heap = H := by rw [hA]; exact hT
  have hW0 : s.WarmedH s'.vm := by rw [hvm]; exact State.WarmedH.refl s
  have hat' : ∀ w ∈ vx_atS own ic cls names, w.before args s' = true := fun w hw => vx_ot_at hW0 hvm.symm (hgood w (List.mem_cons_of_mem _ (List.mem_cons_of_mem _ hw))) (hat w hw)
  have hk' : (Cond.classLink own ik cls).before args s' = true := vx_ot_at hW0 hvm.symm (hgood _ List.mem_cons_self) hk
  have hini' : (Cond.initialized cls).before args s' = true := vx_ot_at hW0 hvm.symm (hgood _ (List.mem_cons_of_mem _ List.mem_cons_self)) hini
  have hU' : vx_Zq Bundle.tN "UNASSIGNED_STACK" Bundle.steD A s' s'.heap := by rw [hhp]; exact vx_Zq.moved hW0.alike (hU.kept hS.2.1)
  have hN' : vx_Zq Bundle.tN "SUPPRESSED_SENTINEL" Bundle.listD A s' s'.heap := by rw [hhp]; exact vx_Zq.moved hW0.alike (hN.kept hS.2.1)
  have h : ∀ w ∈ Bundle.ownAtoms own ic cls names, w.before args s' = true := vx_own hat' (vx_isRefq hU'.1) (vx_isRefq hN'.1) hU'.2.word hN'.2.word
  have hown' : s'.vm.findClass own = some m.cls := by rw [hvm]; exact hown
  have hins : (Cond.instantiable cls 6).before args s' = true := h _ (by simp [Bundle.ownAtoms])
  obtain ⟨vm₁, cX, kX, hfX, hkX, -, -, X₁, st1⟩ := Y.newCold hexec (own := own) (C := cls) (index := ik) (n := 6) hown' hk' hins hini'
    (g := F0 m pc ls rest) rfl (by rw [hb]; exact d0) (Nat.le_refl _) (Nat.le_refl _)
  generalize hT1 : (T.setVm vm₁).pushCell { cls := cX, slots := kX.instanceTypes.map defaultValue, vm := .none } = T1 at X₁ st1
  have hcat : (Value.ref T.heap.size).category = 1 := rfl
  have hcellA : T1.heap[T.heap.size]? = some (freshCell cX kX) := by rw [← hT1]; exact State.heap_pushCell_size _ _
  have d3' : decode c.code (pc + 3) = .ok (.dup, 1) := by rw [hb]; exact d3
  have d4' : decode c.code (pc + 4) = .ok (.ldc_w is, 3) := by rw [hb]; exact d4
  have hstr' : vk_R own is text sa s' := vk_R.warm hW0 hstr
  obtain ⟨U, hsteps, hrun, hend, hW, hsame, ce, hce, hO⟩ := X₁.ctorThrowS hexec htr (own := own) (cls := cls) (names := names) (ic := ic) hown' hcls hnames h (fun x hx => nomatch hx) hfX hkX hcellA (by rw [hhp, hT]; exact Nat.le_refl _) (msg := .ref sa) rfl
    (g := { method := m, pc := pc + 7, locals := ls, stack := .ref sa :: .ref T.heap.size :: .ref T.heap.size :: rest, locked := none }) rfl hsize rfl rfl (rest := rest) rfl
    (by rw [hb]; exact d7) (by rw [hb]; exact d10) hout hRframes (by simp only [List.map_cons, List.sum_cons, hcat]; omega) hlocks
  obtain ⟨f1, f2⟩ := vx_frame hsame
  rw [hhp] at f1 f2
  have hWs : s.WarmedH U.vm := State.WarmedH.trans hW0 hW
  have hcl : s.vm.findClass cls = some ce.cls := by
    have h9 := hO.cls
    rw [hvm] at h9
    exact h9
  have hall : s.sameButNew ({ U with vm := s.vm } : State) locs mc ms := by
    subst hA
    obtain ⟨e1, e2⟩ := hsame
    rw [State.setFrames_setFrames] at e1
    have h2 : (T.setVm s.vm).sameButNew ({ U with vm := s.vm } : State) [] (0 + 1) (0 + 6) := ⟨e1, e2⟩
    have h3 := X.same.trans h2
    rw [List.append_nil] at h3
    exact h3.mono hc hs
  refine ⟨U, ?_, .threw T.heap.size, hrun, hend, Or.inr ⟨T.heap.size, rfl, cls, ce, locs, hx U hWs.alike f1 (fun q hq => f2 q hq (fun z hz => nomatch hz)), hce, hO.vm, hcl, hWs, hall, hf⟩⟩
  refine st1 _ ?_
  show Steps p.tables e below (T1.setTop { method := m, pc := pc + 3, locals := ls, stack := .ref T.heap.size :: rest, locked := none }) _
  jvm_step X₁.here [X₁.here.top, hexec, d3', Value.category]
  exact X₁.ldcStringW hexec (own := own) (text := text) (index := is) (a := sa) hown' hstr'.1 hstr'.2
    (g := { method := m, pc := pc + 4, locals := ls, stack := .ref T.heap.size :: .ref T.heap.size :: rest, locked := none }) rfl d4' _ hsteps
end Ends
section Bodies
variable {l : Launch}
theorem vx_ofW {y : MethodName} {ws ws' : List Cond} {rm : Room} {Pc : Array Value → State → Prop} {Qc : Array Value → State → Outcome → State → Prop} {XC : String → State → State → Prop} {mc ms : Nat} {free : Addr → Prop} {cc : ByteArray} {maxL : Nat} {ret : Option FieldType}
    (hy : plainName y.cls = true) (hw : ws = Cond.code y cc maxL ret :: ws')
    (body : ∀ p e s m args below meth c s₁, BodyLoose p l y (headSpec ws rm) cc maxL ret e s m args below meth c s₁ → c.maxLocals = maxL → (∀ x ∈ c.exceptionTable.toList, False) → Pc args s →
      W p l e (headSpec ws rm).room s m args below meth c s.heap [] 0 0 (vx_MQ below Qc XC args s mc ms free) (entryFrame m args maxL)) : vx_Met l y ws rm Pc Qc XC mc ms free := by
  refine MetFree.of_bodyS (code := cc) (maxLocals := maxL) (ret := ret) hy ?_ ?_
  · intro args s m h hn
    obtain ⟨meth, c, h1, h2, h3, h4, h5, h6, -, -⟩ := Cond.code_spec hn (atoms_spec (ws := ws) h _ (by rw [hw]; exact List.mem_cons_self))
    exact ⟨meth, c, h1, h2, h3, h4, h5, h6⟩
  · intro p e s m args below meth c s₁ B hml hP _
    have hh0 : s₁.heap = s.heap := by rw [B.state]; rfl
    have ht : ∀ x ∈ c.exceptionTable.toList, False := by
      obtain ⟨meth9, c9, h1, h2, -, -, -, -, h7, -⟩ := Cond.code_spec B.named (atoms_spec (ws := ws) B.pre _ (by rw [hw]; exact List.mem_cons_self))
      cases Option.some.inj (h1.symm.trans B.method)
      cases Option.some.inj (h2.symm.trans (Stand.of_body B).code)
      intro x hx
      rw [Array.isEmpty_iff.mp h7] at hx
      cases hx
    obtain ⟨t, a1, o, b1, b2, b3⟩ := body p e s m args below meth c s₁ B hml ht hP s₁ hh0 (Stand.of_body B)
    exact ⟨t, o, a1, b1, b2, b3⟩
/-- the table of a body with handlers -/
theorem vx_table {p : Program} {x y : MethodName} {S : Spec} {cc bytes : ByteArray} {maxL maxL' : Nat} {ret ret' : Option FieldType} {e : Env} {s s₁ : State} {m : MethodId} {args : Array Value} {below : List Frame} {meth : Method} {c : Code} {hh : List (Nat × Nat × Nat × Nat)}
    (B : BodyLoose p l y S cc maxL ret e s m args below meth c s₁) (h : (Cond.codeWith y bytes maxL' ret' hh).before args s = true) : c.exceptionTable.toList = tableOf hh := by
  obtain ⟨m9, meth9, c9, hn9, h1, h2, -, -, h6, -⟩ := Cond.codeWith_spec h
  cases Option.some.inj (hn9.symm.trans B.named)
  cases Option.some.inj (h1.symm.trans B.method)
  cases Option.some.inj (h2.symm.trans (Stand.of_body B).code)
  rw [← h6, table_eq]
end Bodies
end VXA
/-! ===== END ===== -/
/-! ===== BEGIN a static call of a method with an exception table ===== -/
section VXS
variable {p : Program} {l : Launch} {e : Env} {R : Room} {s : State} {m : MethodId} {args : Array Value} {below : List Frame} {meth : Method} {c : Code} {T : State} {H : Heap} {locs : List Loc} {cells slots : Nat}
abbrev vx_CSW (R : Room) (s : State) (args : Array Value) (own : String) (index : Nat) (y : MethodName) (bytes : ByteArray) (maxL : Nat) (ret : Option FieldType) (hh : List (Nat × Nat × Nat × Nat)) (ws : List Cond) (rm : Room) (mc ms n : Nat) : Prop :=
  (rm.cells = mc ∧ rm.slots = ms ∧ rm.frames + 1 ≤ R.frames ∧ 8 + (maxL + 11) + rm.locals ≤ R.locals ∧ (∀ w ∈ ws, ∀ (a' : Array Value) (U : State), s.WarmedH U.vm → w.before a' U = true) ∧ Cond.codeWith y bytes maxL ret hh ∈ ws) ∧
  (Cond.codeWith y bytes maxL ret hh).before args s = true ∧ (Cond.initialized y.cls).before args s = true ∧ (y.cls ≠ "java/lang/invoke/MethodHandle" ∧ y.cls ≠ "java/lang/invoke/VarHandle") ∧
  (∀ sig, parseMethodDescriptor y.desc = some sig → n = sig.parameters.length) ∧ (Cond.methodLink own index y).before args s = true ∧ (Cond.static y).before args s = true
theorem vx_cwSW {own : String} {index maxL mc ms : Nat} {y : MethodName} {bytes : ByteArray} {ret : Option FieldType} {hh : List (Nat × Nat × Nat × Nat)} {Ts ws ws' : List Cond} {rm : Room} (n : Nat) (ht : ∀ w ∈ Ts, w.before args s = true) (hT : GoodIn Ts (va_wsS own index y ws)) (hw : ws = Cond.codeWith y bytes maxL ret hh :: ws') (hrc : rm.cells = mc) (hrs : rm.slots = ms)
    (hd : y.cls ≠ "java/lang/invoke/MethodHandle" ∧ y.cls ≠ "java/lang/invoke/VarHandle" ∧ (parseMethodDescriptor y.desc).map (fun d => d.parameters.length) = some n) (hR : rm.frames + 1 ≤ R.frames ∧ 8 + (maxL + 11) + rm.locals ≤ R.locals) :
    vx_CSW R s args own index y bytes maxL ret hh ws rm mc ms n := by
  have ok : ∀ w ∈ va_wsS own index y ws, w.before args s = true := fun w h => ht w (hT w h).1
  have hG : GoodIn Ts ws := fun w h => hT w (by unfold va_wsS; exact List.mem_append_right _ h)
  have hc : Cond.codeWith y bytes maxL ret hh ∈ ws := by rw [hw]; exact List.mem_cons_self
  refine ⟨⟨hrc, hrs, hR.1, hR.2, pay_in ht hG, hc⟩, ht _ (hG _ hc).1, ok _ (by simp [va_wsS]), ⟨hd.1, hd.2.1⟩, fun sig h => ?_, ok _ (by simp [va_wsS]), ok _ (by simp [va_wsS])⟩
  have h2 := hd.2.2
  rw [h] at h2
  exact (Option.some.inj h2).symm
theorem vx_callSW (X : Stand p l e R s m args below meth c T locs cells slots) (hexec : p.tables.exec = Jvm.exec) {own : String} {index : Nat} {y : MethodName} {bytes : ByteArray} {maxL : Nat} {ret : Option FieldType} {hh : List (Nat × Nat × Nat × Nat)}
    (hown : s.vm.findClass own = some m.cls) (hlink : (Cond.methodLink own index y).before args s = true) (hstat : (Cond.static y).before args s = true) (hinit : (Cond.initialized y.cls).before args s = true)
    (hcode : (Cond.codeWith y bytes maxL ret hh).before args s = true) (hy : y.cls ≠ "java/lang/invoke/MethodHandle" ∧ y.cls ≠ "java/lang/invoke/VarHandle")
    {W9 : Nat} {Pre : Pt → Array Value → Prop} {Post : Pt → Array Value → Option Value → Pt → Prop} (hK : Back l R p e below s args y 3 W9 Pre Post)
    {g : JFrame} (hg : g.method = m) (hsize : g.locals.size = c.maxLocals) {argsL rest : List Value} (hlen : ∀ sig, parseMethodDescriptor y.desc = some sig → argsL.length = sig.parameters.length)
    (hstack : g.stack = argsL.reverse ++ rest) (hW : 2 * g.monitorRoom + (rest.map fun v => v.category).sum ≤ W9) (hdg : decode c.code g.pc = .ok (.invokestatic index, 3))
    (hpre : ∀ vm₁, s.WarmedH vm₁ → Pre ⟨T.setVm vm₁, locs, cells, slots⟩ argsL.toArray) :
    ∃ (v : Option Value) (vm₁ : Vm) (B : Pt), s.WarmedH vm₁ ∧ Stand p l e R s m args below meth c B.U B.locs B.cells B.slots ∧ Post ⟨T.setVm vm₁, locs, cells, slots⟩ argsL.toArray v B ∧
      ∀ target, Steps p.tables e below (B.U.setTop { g with pc := g.pc + 3, stack := v.toList ++ rest }) target → Steps p.tables e below (T.setTop g) target := by
  obtain ⟨mk, methM, cM, hnamed, hmethM, -, -, -, -, -, -, hsigM⟩ := Cond.codeWith_spec hcode
  have hstatic : methM.isStatic = true := Cond.static_spec hnamed hmethM hstat
  obtain ⟨kP, hkP, -⟩ := className_of_methodNamed hnamed
  have hinitP : kP.init = .initialized := Cond.initialized_spec (findClass_of_methodNamed hnamed) hkP hinit
  obtain ⟨vm₁, X₁, hstep₁⟩ := X.invokestatic hexec hown hlink hnamed hmethM hstatic hkP hinitP hy (g := g) hg (argsL := argsL) (rest := rest) (hlen _ hsigM) hstack hdg
  obtain ⟨v, B, X', hpost, hsteps⟩ := hK m meth c ⟨T.setVm vm₁, locs, cells, slots⟩ { g with stack := rest } (.invokestatic index) mk argsL.toArray X₁ hg hsize hdg hW (X₁.named hnamed) (hpre vm₁ X₁.warmed)
  exact ⟨v, vm₁, B, X₁.warmed, X', hpost, fun target h => hstep₁ _ fun acts => by rw [doInvoke_state]; exact hsteps.trans h⟩
theorem vx_runSW {y : MethodName} {bytes cc : ByteArray} {maxL nL mc ms n index : Nat} {ret : Option FieldType} {hh : List (Nat × Nat × Nat × Nat)} {ws : List Cond} {rm : Room} {Pc : Array Value → State → Prop} {Qc : Array Value → State → Outcome → State → Prop} {free : Addr → Prop} {Ts : List Cond} {own : String} {As rest : List Value} {g : JFrame}
    (S : CallFix p m c cc nL s args Ts own) (hM : Met l y ws rm Pc Qc mc ms free) (cw : vx_CSW R s args own index y bytes maxL ret hh ws rm mc ms n) (hp : PreS s H Pc As)
    (hg : g.method = m) (hn : As.length = n) (hsize : g.locals.size = nL) (hstack : g.stack = As.reverse ++ rest) (hW : 2 * g.monitorRoom + (rest.map fun v => v.category).sum ≤ 8) (hdg : decode cc g.pc = .ok (.invokestatic index, 3)) (hf : cells + mc ≤ R.cells ∧ slots + ms ≤ R.slots) :
    va_Run p l e R s m args below meth c H locs cells slots mc ms g rest (Qc As.toArray) (free) := by
  obtain ⟨⟨hrc, hrs, hfr, hlo, hws, hcw⟩, hcode, hini, hy, hlen, hl, hstt⟩ := cw
  have hK : Back l R p e below s args y 3 8 (PreOf R mc ms Pc) (PostOf Qc mc ms free) := va_backW (hh := hh) (bytes := bytes) (maxL := maxL) (ret := ret) hM hp.1 hrc hrs hfr hlo hws hcw (fun a' U hW => word_at hW (Or.inl (by first | rfl | simp [Cond.onTables, Cond.keeps, Cond.steady])) hini)
  obtain ⟨hx, hb, hml, ho, -⟩ := S
  intro T hT X
  obtain ⟨v, vm₁, ⟨U', l2, c2, s2⟩, hW₁, X', ⟨g', mk, t, L, e1, e2, hq, h1, hL, h2, h3⟩, st⟩ := vx_callSW X hx (hh := hh) (bytes := bytes) (maxL := maxL) (ret := ret) ho hl hstt hini hcode hy hK hg (hsize.trans hml.symm) (argsL := As) (rest := rest) (fun sig h => hn.trans (hlen sig h)) hstack hW (by rw [hb]; exact hdg)
    (fun vm₁ hW₁ => ⟨hf.1, hf.2, hp.2 (T.setVm vm₁) hT hW₁⟩)
  dsimp only [Pt.U, Pt.locs, Pt.cells, Pt.slots] at X' e1 e2 h1 h2 h3 st
  subst h1; subst h2; subst h3
  exact ⟨v, (T.setVm vm₁).calling g' mk As.toArray, t, U', L, hT, X', hL, e1, e2, hq, st⟩
/-- not caught here, past rows that name other classes: it goes on to the caller -/
theorem vx_outP {p : Program} {l : Launch} {e : Env} {R : Room} {s : State} {m : MethodId} {args : Array Value} {below : List Frame} {meth : Method} {c : Code} {H : Heap} {locs : List Loc} {cells slots : Nat} {free : Addr → Prop} {ls : Array Slot} {rest : List Value} {Qc : Array Value → State → Outcome → State → Prop} {XC : String → State → State → Prop}
    {pc : Nat} {own E : String} {ce : Cell} {q : Addr} {mc ms : Nat} (hown : s.vm.findClass own = some m.cls) (hlocks : meth.locks = false)
    (hpass : ∀ z ∈ c.exceptionTable.toList, covers z pc = false ∨ (z.catchType ≠ 0 ∧ ∃ nm : String, (Cond.classLink own z.catchType nm).before args s = true ∧ va_Nc E nm s)) (hcell : H[q]? = some ce) (hv : ce.vm = .none) (hcl : s.vm.findClass E = some ce.cls)
    (hx : ∀ t : State, t.heap = H → s.vm.Alike t.vm → XC E s t) (hf : ∀ z ∈ locs, free z.base) (hc : cells ≤ mc) (hs : slots ≤ ms) :
    vx_W p l e R s m args below meth c H locs cells slots (vx_MQ below Qc XC args s mc ms free) (F0 m pc ls rest) q := by
  intro T hT X
  have hpl : e.platform.magicAccessors = ({} : Platform).magicAccessors := by rw [X.admits.platform]
  obtain ⟨vm', hW', X', st⟩ := X.outThrough hlocks q (g := F0 m pc ls rest) rfl rfl rfl (cell := ce) (by rw [hT]; exact hcell) (by rw [hv]; rfl)
    (by obtain ⟨k9, h9, -⟩ := Vm.findClass_spec hcl; exact ⟨k9, h9⟩) (fun z hz => by
      rcases hpass z hz with h | ⟨hz0, nm, hl1, hn1⟩
      · exact Or.inl h
      · obtain ⟨c6, hc6, hcl6⟩ := Cond.classLink_spec hown hl1 e.platform hpl
        obtain ⟨a8, b8, h1, h2, h3⟩ := hn1
        cases Option.some.inj (h1.symm.trans hcl)
        cases Option.some.inj (h2.symm.trans hc6)
        exact Or.inr ⟨hz0, _, hcl6, h3⟩)
  obtain ⟨g₀, hfr⟩ := X'.frames_eq
  have hcell9 : ((T.setVm vm').setFrames (.throwing q :: below)).heap[q]? = some ce := by
    show T.heap[q]? = some ce
    rw [hT]; exact hcell
  have hend : Ended ((T.setVm vm').setFrames (.throwing q :: below)) below (.threw q) := State.frames_setFrames _ (State.cur_lt_of_frames hfr)
  refine ⟨(T.setVm vm').setFrames (.throwing q :: below), ?_, .threw q, X'.here.running, hend, Or.inr ⟨q, rfl, E, ce, locs, hx _ hT (X'.ends _).1.alike, hcell9, hv, hcl, (X'.ends _).1, (X'.ends _).2.mono hc hs, hf⟩⟩
  rw [X.pushThrowing_eq]
  exact st
/-- a thing of a world lies in the heap -/
theorem vx_lt {D : va_G} {cl : List vw_C} {ws : va_W} {H1 : Heap} (h : va_P D cl ws H1) {k : Nat} {q : Nat × va_E} (hk : ws[k]? = some q) : q.1 < H1.size := (h k q hk).lt
end VXS
/-! ===== END ===== -/
/-! ===== BEGIN methods with a table of their own: called by a name, returning or throwing ===== -/
section VXH
/-! vx_backW, vx_callVX, vx_callSX, vx_callVW, vx_runVW, vx_runVX, vx_runSX, vx_ofWH follow the same proofs as their sisters above (Free/Laws.lean, Shelf42/LK1.lean); vx_outP calls Shelf42/NT130.lean (outThrough). -/
section
variable {l : Launch} {R : Room} {p : Program} {e : Env} {below : List Frame} {s : State} {sargs : Array Value} {y : MethodName} {len W9 : Nat}
theorem vx_backW {ws : List Cond} {rm : Room} {Pc : Array Value → State → Prop} {Qc : Array Value → State → Outcome → State → Prop} {XC : String → State → State → Prop} {mc ms : Nat} {free : Addr → Prop} {bytes : ByteArray} {maxL : Nat} {ret : Option FieldType} {hh : List (Nat × Nat × Nat × Nat)}
    (hM : vx_Met l y ws rm Pc Qc XC mc ms free) (hblind : FrameBlind Pc) (hrc : rm.cells = mc) (hrs : rm.slots = ms)
    (hframes : rm.frames + 1 ≤ R.frames) (hlocals : W9 + (maxL + 11) + rm.locals ≤ R.locals)
    (hws : ∀ w ∈ ws, ∀ a' U, s.WarmedH U.vm → w.before a' U = true) (hcode : Cond.codeWith y bytes maxL ret hh ∈ ws) (hinit : ∀ a' U, s.WarmedH U.vm → (Cond.initialized y.cls).before a' U = true) :
    vx_Back l R p e below s sargs y len W9 (PreOf R mc ms Pc) (PostOf Qc mc ms free) (vx_Post XC mc ms free) := by
  intro m meth c A g ig mk a X hg hsize hdg hW hn hp
  have h1 : (headSpec ws rm).pre.before a A.U = true := atoms_intro fun w hw => hws w hw _ _ X.warmed
  have h2 : (Cond.codeWith y bytes maxL ret hh).before a A.U = true := hws _ hcode _ _ X.warmed
  have h3 : (Cond.initialized y.cls).before a A.U = true := hinit _ _ X.warmed
  have h4 : A.cells + (headSpec ws rm).room.cells ≤ R.cells := by rw [show (headSpec ws rm).room.cells = mc from hrc]; exact hp.1
  have h5 : A.slots + (headSpec ws rm).room.slots ≤ R.slots := by rw [show (headSpec ws rm).room.slots = ms from hrs]; exact hp.2.1
  have hPc : Pc a (A.U.calling g mk a) := hblind _ _ _ _ hp.2.2
  obtain ⟨U, Ls, c0, s0⟩ := A
  dsimp only [Pt.U, Pt.locs, Pt.cells, Pt.slots] at h1 h2 h3 h4 h5 X hn hPc ⊢
  obtain ⟨m9, methY, cY, hn9, hmY, hcY, -, hlY, -⟩ := Cond.codeWith_spec h2
  cases Option.some.inj (hn9.symm.trans hn)
  obtain ⟨kY, hkY, -⟩ := className_of_methodNamed hn
  have hinitY : kY.init = .initialized := Cond.initialized_spec (findClass_of_methodNamed hn) hkY h3
  have h : At U g.method c below := by rw [hg]; exact X.here
  have hlocals9 : W9 + (maxL + 11) + (headSpec ws rm).room.locals ≤ R.locals := hlocals
  have happ : (headSpec ws rm).appliesLoose y e.platform (U.calling g mk a) = true :=
    Spec.appliesLoose_calling (g := g) h hdg hn hkY hinitY
      (X.room_calling (g := g) (R' := (headSpec ws rm).room) hsize hmY hcY hframes (by rw [hlY]; omega) h4 h5) h1
  obtain ⟨mid, hmid⟩ := h.above
  have hfr : (U.setTop g).frames = (.java g :: mid) ++ below := by rw [State.frames_setTop' g h.top, hmid]; rfl
  obtain ⟨o, s₂, hsteps, -, hend, hq⟩ := Steps.callFree hM p X.admits X.cas X.clock (acts := []) hfr happ hPc trivial
  have hq' : vx_Q Qc XC mc ms free a (U.calling g mk a) o s₂ := hq
  rw [State.frames_setTop' g h.top] at hend
  obtain ⟨g₀, hg0⟩ := Option.isSome_iff_exists.mp h.top
  obtain ⟨r, hr⟩ := State.topJava?_eq_some.mp hg0
  have hr' : (({ U with heap := s₂.heap, slotsUsed := s₂.slotsUsed } : State).setVm s₂.vm).frames = .java g₀ :: r := hr
  rcases hq' with ⟨hqc, L, hfe, hL⟩ | ⟨q, rfl, E, ce, L, hx, hce, hcv, hcl, hW₂, hsm, hL⟩
  · obtain ⟨⟨v, rfl⟩, hW₂, e2, q2, q3, q4, q5, q6⟩ := id hfe
    have e3 : s₂ = ({ (U.calling g mk a).setFrames s₂.frames with heap := s₂.heap, slotsUsed := s₂.slotsUsed } : State).setVm s₂.vm := by
      have : s₂ = ({ s₂ with vm := (U.calling g mk a).vm } : State).setVm s₂.vm := rfl
      rw [e2] at this
      exact this
    obtain ⟨c₂, i₂, len₂, hc₂, hd₂, hf₂⟩ := hend
    have hW' : U.WarmedH s₂.vm := hW₂
    have hcc : c₂ = c := by
      have h1 : s₂.code? g.method = U.code? g.method := by
        rw [State.code?_eq, State.code?_eq, hW'.alike.method?]
      exact Option.some.inj (hc₂.symm.trans (h1.trans h.code))
    subst hcc
    have hlen : len₂ = len := by rw [hdg] at hd₂; cases hd₂; rfl
    subst hlen
    have hs₂ : s₂ = (({ U with heap := s₂.heap, slotsUsed := s₂.slotsUsed } : State).setVm s₂.vm).setTop { g with pc := g.pc + len₂, stack := v.toList ++ g.stack } := by
      refine e3.trans ?_
      rw [hf₂, State.calling_eq h.top, State.setFrames_setFrames, State.setTop_of_frames _ hr', hr]
      rfl
    have hsame : U.sameButNew ({ U with heap := s₂.heap, slotsUsed := s₂.slotsUsed } : State) L mc ms := by
      refine ⟨?_, q2, q3, q4, q5, q6⟩
      obtain ⟨t, ht, -⟩ := State.frames_cons hr
      show ({ U with heap := s₂.heap, slotsUsed := s₂.slotsUsed } : State) = { U.setFrames U.frames with heap := s₂.heap, slotsUsed := s₂.slotsUsed }
      rw [State.setFrames_self ht]
    subst hg
    refine Or.inl ⟨v, ⟨(({ U with heap := s₂.heap, slotsUsed := s₂.slotsUsed } : State).setVm s₂.vm), Ls ++ L, c0 + mc, s0 + ms⟩,
      ⟨X.admits, X.cas, X.clock, X.frames, X.room, X.hears, X.method, X.code, (X.here.setHeapUsed s₂.heap s₂.slotsUsed).setVm hW'.alike, X.tail, State.WarmedH.trans X.warmed hW', X.limits, X.bytes, X.same.trans (hsame.setVm s.vm)⟩,
      ⟨g, mk, s₂, L, rfl, rfl, hqc, rfl, hL, rfl, rfl⟩, ?_⟩
    show Steps p.tables e below _ ((({ U with heap := s₂.heap, slotsUsed := s₂.slotsUsed } : State).setVm s₂.vm).setTop { g with pc := g.pc + len₂, stack := v.toList ++ g.stack })
    rw [← hs₂]
    exact hsteps
  · obtain ⟨e2, q2, q3, q4, q5, q6⟩ := id hsm
    have e3 : s₂ = ({ (U.calling g mk a).setFrames s₂.frames with heap := s₂.heap, slotsUsed := s₂.slotsUsed } : State).setVm s₂.vm := by
      have : s₂ = ({ s₂ with vm := (U.calling g mk a).vm } : State).setVm s₂.vm := rfl
      rw [e2] at this
      exact this
    have hf₂ : s₂.frames = .throwing q :: .java g :: U.frames.tail := hend
    have hW' : U.WarmedH s₂.vm := hW₂
    have hs₂ : s₂ = ((({ U with heap := s₂.heap, slotsUsed := s₂.slotsUsed } : State).setVm s₂.vm).setTop g).pushFrame (.throwing q) := by
      refine e3.trans ?_
      rw [hf₂, State.calling_eq h.top, State.setFrames_setFrames, State.pushFrame, State.frames_setTop _ hr', State.setTop_of_frames _ hr', State.setFrames_setFrames, hr]
      rfl
    have hsame : U.sameButNew ({ U with heap := s₂.heap, slotsUsed := s₂.slotsUsed } : State) L mc ms := by
      refine ⟨?_, q2, q3, q4, q5, q6⟩
      obtain ⟨t, ht, -⟩ := State.frames_cons hr
      show ({ U with heap := s₂.heap, slotsUsed := s₂.slotsUsed } : State) = { U.setFrames U.frames with heap := s₂.heap, slotsUsed := s₂.slotsUsed }
      rw [State.setFrames_self ht]
    subst hg
    refine Or.inr ⟨q, ⟨(({ U with heap := s₂.heap, slotsUsed := s₂.slotsUsed } : State).setVm s₂.vm), Ls ++ L, c0 + mc, s0 + ms⟩,
      ⟨X.admits, X.cas, X.clock, X.frames, X.room, X.hears, X.method, X.code, (X.here.setHeapUsed s₂.heap s₂.slotsUsed).setVm hW'.alike, X.tail, State.WarmedH.trans X.warmed hW', X.limits, X.bytes, X.same.trans (hsame.setVm s.vm)⟩,
      ⟨g, mk, s₂, L, E, ce, rfl, rfl, hx, hce, hcv, hcl, rfl, hL, rfl, rfl⟩, ?_⟩
    show Steps p.tables e below _ (((({ U with heap := s₂.heap, slotsUsed := s₂.slotsUsed } : State).setVm s₂.vm).setTop g).pushFrame (.throwing q))
    rw [← hs₂]
    exact hsteps
end
variable {p : Program} {l : Launch} {e : Env} {R : Room} {s : State} {m : MethodId} {args : Array Value} {below : List Frame} {meth : Method} {c : Code} {T : State} {H : Heap} {locs : List Loc} {cells slots : Nat}
theorem vx_callVX (X : Stand p l e R s m args below meth c T locs cells slots) (hexec : p.tables.exec = Jvm.exec) {own C : String} {index : Nat} {y : MethodName} {bytes : ByteArray} {maxL : Nat} {ret : Option FieldType} {hh : List (Nat × Nat × Nat × Nat)}
    (hown : s.vm.findClass own = some m.cls) (hlink : (Cond.methodLink own index y).before args s = true) (hinst : (Cond.instanceMethod y).before args s = true) (hsel : (Cond.selects C y y).before args s = true)
    (hcode : (Cond.codeWith y bytes maxL ret hh).before args s = true) (hy : y.cls ≠ "java/lang/invoke/MethodHandle" ∧ y.cls ≠ "java/lang/invoke/VarHandle")
    {W9 : Nat} {Pre : Pt → Array Value → Prop} {Post : Pt → Array Value → Option Value → Pt → Prop} {PostX : Pt → Array Value → Addr → Pt → Prop} (hK : vx_Back l R p e below s args y 3 W9 Pre Post PostX)
    {b : Addr} {cellB : Cell} (hcell : T.heap[b]? = some cellB) (hobj : cellB.vm.isStatics = false) (hcls : s.vm.findClass C = some cellB.cls)
    {g : JFrame} (hg : g.method = m) (hsize : g.locals.size = c.maxLocals) {argsL rest : List Value} (hlen : ∀ sig, parseMethodDescriptor y.desc = some sig → argsL.length = sig.parameters.length)
    (hstack : g.stack = argsL.reverse ++ .ref b :: rest) (hW : 2 * g.monitorRoom + (rest.map fun v => v.category).sum ≤ W9) (hdg : decode c.code g.pc = .ok (.invokevirtual index, 3))
    (hpre : ∀ vm₁, s.WarmedH vm₁ → Pre ⟨T.setVm vm₁, locs, cells, slots⟩ (Value.ref b :: argsL).toArray) :
    (∃ (v : Option Value) (vm₁ : Vm) (B : Pt), s.WarmedH vm₁ ∧ Stand p l e R s m args below meth c B.U B.locs B.cells B.slots ∧ Post ⟨T.setVm vm₁, locs, cells, slots⟩ (Value.ref b :: argsL).toArray v B ∧
      ∀ target, Steps p.tables e below (B.U.setTop { g with pc := g.pc + 3, stack := v.toList ++ rest }) target → Steps p.tables e below (T.setTop g) target) ∨
    (∃ (q : Addr) (vm₁ : Vm) (B : Pt), s.WarmedH vm₁ ∧ Stand p l e R s m args below meth c B.U B.locs B.cells B.slots ∧ PostX ⟨T.setVm vm₁, locs, cells, slots⟩ (Value.ref b :: argsL).toArray q B ∧
      Steps p.tables e below (T.setTop g) ((B.U.setTop { g with stack := rest }).pushFrame (.throwing q))) := by
  obtain ⟨mk, methM, hnamed, hmethM, hstM, habM⟩ := Cond.instanceMethod_spec hinst
  obtain ⟨m8, methM', cM, hn8, hmethM', -, -, -, -, -, -, hsigM⟩ := Cond.codeWith_spec hcode
  cases Option.some.inj (hn8.symm.trans hnamed)
  cases hmethM.symm.trans hmethM'
  obtain ⟨c2, r2, m2, q1, q2, q3, q4, kP, hkP, hkPi⟩ := Cond.selects_spec hsel
  cases hcls.symm.trans q1
  cases (State.methodFound?_of_named hnamed hy).symm.trans q2
  cases hnamed.symm.trans q3
  have hselP : selectMethod e.platform s.vm cellB.cls mk = .method mk := by rw [Launch.admits_selectMethod X.admits]; exact q4
  obtain ⟨vm₁, X₁, hstep₁⟩ := X.invokevirtual hexec hown hlink hnamed hmethM hstM hkP hkPi hy (a := b) (cell := cellB) hcell
    (fun z h => by rw [h] at hobj; cases hobj) hselP hmethM habM hkP hkPi (g := g) hg (argsL := argsL) (rest := rest) (hlen _ hsigM) hstack hdg
  rcases hK m meth c ⟨T.setVm vm₁, locs, cells, slots⟩ { g with stack := rest } (.invokevirtual index) mk (Value.ref b :: argsL).toArray X₁ hg hsize hdg hW (X₁.named hnamed) (hpre vm₁ X₁.warmed) with ⟨v, B, X', hpost, hsteps⟩ | ⟨q, B, X', hpost, hsteps⟩
  · exact Or.inl ⟨v, vm₁, B, X₁.warmed, X', hpost, fun target h => hstep₁ _ fun acts => by rw [doInvoke_state]; exact hsteps.trans h⟩
  · exact Or.inr ⟨q, vm₁, B, X₁.warmed, X', hpost, hstep₁ _ fun acts => by rw [doInvoke_state]; exact hsteps⟩
theorem vx_callSX (X : Stand p l e R s m args below meth c T locs cells slots) (hexec : p.tables.exec = Jvm.exec) {own : String} {index : Nat} {y : MethodName} {bytes : ByteArray} {maxL : Nat} {ret : Option FieldType} {hh : List (Nat × Nat × Nat × Nat)}
    (hown : s.vm.findClass own = some m.cls) (hlink : (Cond.methodLink own index y).before args s = true) (hstat : (Cond.static y).before args s = true) (hinit : (Cond.initialized y.cls).before args s = true)
    (hcode : (Cond.codeWith y bytes maxL ret hh).before args s = true) (hy : y.cls ≠ "java/lang/invoke/MethodHandle" ∧ y.cls ≠ "java/lang/invoke/VarHandle")
    {W9 : Nat} {Pre : Pt → Array Value → Prop} {Post : Pt → Array Value → Option Value → Pt → Prop} {PostX : Pt → Array Value → Addr → Pt → Prop} (hK : vx_Back l R p e below s args y 3 W9 Pre Post PostX)
    {g : JFrame} (hg : g.method = m) (hsize : g.locals.size = c.maxLocals) {argsL rest : List Value} (hlen : ∀ sig, parseMethodDescriptor y.desc = some sig → argsL.length = sig.parameters.length)
    (hstack : g.stack = argsL.reverse ++ rest) (hW : 2 * g.monitorRoom + (rest.map fun v => v.category).sum ≤ W9) (hdg : decode c.code g.pc = .ok (.invokestatic index, 3))
    (hpre : ∀ vm₁, s.WarmedH vm₁ → Pre ⟨T.setVm vm₁, locs, cells, slots⟩ argsL.toArray) :
    (∃ (v : Option Value) (vm₁ : Vm) (B : Pt), s.WarmedH vm₁ ∧ Stand p l e R s m args below meth c B.U B.locs B.cells B.slots ∧ Post ⟨T.setVm vm₁, locs, cells, slots⟩ argsL.toArray v B ∧
      ∀ target, Steps p.tables e below (B.U.setTop { g with pc := g.pc + 3, stack := v.toList ++ rest }) target → Steps p.tables e below (T.setTop g) target) ∨
    (∃ (q : Addr) (vm₁ : Vm) (B : Pt), s.WarmedH vm₁ ∧ Stand p l e R s m args below meth c B.U B.locs B.cells B.slots ∧ PostX ⟨T.setVm vm₁, locs, cells, slots⟩ argsL.toArray q B ∧
      Steps p.tables e below (T.setTop g) ((B.U.setTop { g with stack := rest }).pushFrame (.throwing q))) := by
  obtain ⟨mk, methM, cM, hnamed, hmethM, -, -, -, -, -, -, hsigM⟩ := Cond.codeWith_spec hcode
  have hstatic : methM.isStatic = true := Cond.static_spec hnamed hmethM hstat
  obtain ⟨kP, hkP, -⟩ := className_of_methodNamed hnamed
  have hinitP : kP.init = .initialized := Cond.initialized_spec (findClass_of_methodNamed hnamed) hkP hinit
  obtain ⟨vm₁, X₁, hstep₁⟩ := X.invokestatic hexec hown hlink hnamed hmethM hstatic hkP hinitP hy (g := g) hg (argsL := argsL) (rest := rest) (hlen _ hsigM) hstack hdg
  rcases hK m meth c ⟨T.setVm vm₁, locs, cells, slots⟩ { g with stack := rest } (.invokestatic index) mk argsL.toArray X₁ hg hsize hdg hW (X₁.named hnamed) (hpre vm₁ X₁.warmed) with ⟨v, B, X', hpost, hsteps⟩ | ⟨q, B, X', hpost, hsteps⟩
  · exact Or.inl ⟨v, vm₁, B, X₁.warmed, X', hpost, fun target h => hstep₁ _ fun acts => by rw [doInvoke_state]; exact hsteps.trans h⟩
  · exact Or.inr ⟨q, vm₁, B, X₁.warmed, X', hpost, hstep₁ _ fun acts => by rw [doInvoke_state]; exact hsteps⟩
theorem vx_callVW (X : Stand p l e R s m args below meth c T locs cells slots) (hexec : p.tables.exec = Jvm.exec) {own C : String} {index : Nat} {y : MethodName} {bytes : ByteArray} {maxL : Nat} {ret : Option FieldType} {hh : List (Nat × Nat × Nat × Nat)}
    (hown : s.vm.findClass own = some m.cls) (hlink : (Cond.methodLink own index y).before args s = true) (hinst : (Cond.instanceMethod y).before args s = true) (hsel : (Cond.selects C y y).before args s = true)
    (hcode : (Cond.codeWith y bytes maxL ret hh).before args s = true) (hy : y.cls ≠ "java/lang/invoke/MethodHandle" ∧ y.cls ≠ "java/lang/invoke/VarHandle")
    {W9 : Nat} {Pre : Pt → Array Value → Prop} {Post : Pt → Array Value → Option Value → Pt → Prop} (hK : Back l R p e below s args y 3 W9 Pre Post)
    {b : Addr} {cellB : Cell} (hcell : T.heap[b]? = some cellB) (hobj : cellB.vm.isStatics = false) (hcls : s.vm.findClass C = some cellB.cls)
    {g : JFrame} (hg : g.method = m) (hsize : g.locals.size = c.maxLocals) {argsL rest : List Value} (hlen : ∀ sig, parseMethodDescriptor y.desc = some sig → argsL.length = sig.parameters.length)
    (hstack : g.stack = argsL.reverse ++ .ref b :: rest) (hW : 2 * g.monitorRoom + (rest.map fun v => v.category).sum ≤ W9) (hdg : decode c.code g.pc = .ok (.invokevirtual index, 3))
    (hpre : ∀ vm₁, s.WarmedH vm₁ → Pre ⟨T.setVm vm₁, locs, cells, slots⟩ (Value.ref b :: argsL).toArray) :
    ∃ (v : Option Value) (vm₁ : Vm) (B : Pt), s.WarmedH vm₁ ∧ Stand p l e R s m args below meth c B.U B.locs B.cells B.slots ∧ Post ⟨T.setVm vm₁, locs, cells, slots⟩ (Value.ref b :: argsL).toArray v B ∧
      ∀ target, Steps p.tables e below (B.U.setTop { g with pc := g.pc + 3, stack := v.toList ++ rest }) target → Steps p.tables e below (T.setTop g) target := by
  obtain ⟨mk, methM, hnamed, hmethM, hstM, habM⟩ := Cond.instanceMethod_spec hinst
  obtain ⟨m8, methM', cM, hn8, hmethM', -, -, -, -, -, -, hsigM⟩ := Cond.codeWith_spec hcode
  cases Option.some.inj (hn8.symm.trans hnamed)
  cases hmethM.symm.trans hmethM'
  obtain ⟨c2, r2, m2, q1, q2, q3, q4, kP, hkP, hkPi⟩ := Cond.selects_spec hsel
  cases hcls.symm.trans q1
  cases (State.methodFound?_of_named hnamed hy).symm.trans q2
  cases hnamed.symm.trans q3
  have hselP : selectMethod e.platform s.vm cellB.cls mk = .method mk := by rw [Launch.admits_selectMethod X.admits]; exact q4
  obtain ⟨vm₁, X₁, hstep₁⟩ := X.invokevirtual hexec hown hlink hnamed hmethM hstM hkP hkPi hy (a := b) (cell := cellB) hcell
    (fun z h => by rw [h] at hobj; cases hobj) hselP hmethM habM hkP hkPi (g := g) hg (argsL := argsL) (rest := rest) (hlen _ hsigM) hstack hdg
  obtain ⟨v, B, X', hpost, hsteps⟩ := hK m meth c ⟨T.setVm vm₁, locs, cells, slots⟩ { g with stack := rest } (.invokevirtual index) mk (Value.ref b :: argsL).toArray X₁ hg hsize hdg hW (X₁.named hnamed) (hpre vm₁ X₁.warmed)
  exact ⟨v, vm₁, B, X₁.warmed, X', hpost, fun target h => hstep₁ _ fun acts => by rw [doInvoke_state]; exact hsteps.trans h⟩
abbrev vx_CVW (R : Room) (s : State) (args : Array Value) (own C : String) (index : Nat) (y : MethodName) (bytes : ByteArray) (maxL : Nat) (ret : Option FieldType) (hh : List (Nat × Nat × Nat × Nat)) (ws : List Cond) (rm : Room) (mc ms n : Nat) : Prop :=
  (rm.cells = mc ∧ rm.slots = ms ∧ rm.frames + 1 ≤ R.frames ∧ 8 + (maxL + 11) + rm.locals ≤ R.locals ∧ (∀ w ∈ ws, ∀ (a' : Array Value) (U : State), s.WarmedH U.vm → w.before a' U = true) ∧ Cond.codeWith y bytes maxL ret hh ∈ ws) ∧
  (Cond.codeWith y bytes maxL ret hh).before args s = true ∧ (Cond.initialized y.cls).before args s = true ∧ (y.cls ≠ "java/lang/invoke/MethodHandle" ∧ y.cls ≠ "java/lang/invoke/VarHandle") ∧
  (∀ sig, parseMethodDescriptor y.desc = some sig → n = sig.parameters.length) ∧ (Cond.methodLink own index y).before args s = true ∧ (Cond.instanceMethod y).before args s = true ∧ (Cond.selects C y y).before args s = true
theorem vx_cwVW {own C : String} {index maxL mc ms : Nat} {y : MethodName} {bytes : ByteArray} {ret : Option FieldType} {hh : List (Nat × Nat × Nat × Nat)} {Ts ws ws' : List Cond} {rm : Room} (n : Nat) (ht : ∀ w ∈ Ts, w.before args s = true) (hT : GoodIn Ts (wsV own index C y ws)) (hw : ws = Cond.codeWith y bytes maxL ret hh :: ws') (hrc : rm.cells = mc) (hrs : rm.slots = ms)
    (hd : y.cls = C ∧ y.cls ≠ "java/lang/invoke/MethodHandle" ∧ y.cls ≠ "java/lang/invoke/VarHandle" ∧ (parseMethodDescriptor y.desc).map (fun d => d.parameters.length) = some n) (hR : rm.frames + 1 ≤ R.frames ∧ 8 + (maxL + 11) + rm.locals ≤ R.locals) :
    vx_CVW R s args own C index y bytes maxL ret hh ws rm mc ms n := by
  obtain ⟨hC, hd⟩ := hd
  subst hC
  have ok : ∀ w ∈ wsV own index y.cls y ws, w.before args s = true := fun w h => ht w (hT w h).1
  have hG : GoodIn Ts ws := fun w h => hT w (by unfold wsV; exact List.mem_append_right _ h)
  have hc : Cond.codeWith y bytes maxL ret hh ∈ ws := by rw [hw]; exact List.mem_cons_self
  refine ⟨⟨hrc, hrs, hR.1, hR.2, pay_in ht hG, hc⟩, ht _ (hG _ hc).1, ok _ (by simp [wsV]), ⟨hd.1, hd.2.1⟩, fun sig h => ?_, ok _ (by simp [wsV]), ok _ (by simp [wsV]), ok _ (by simp [wsV])⟩
  have h2 := hd.2.2
  rw [h] at h2
  exact (Option.some.inj h2).symm
theorem vx_runVW {y : MethodName} {bytes cc : ByteArray} {maxL nL mc ms n index : Nat} {ret : Option FieldType} {hh : List (Nat × Nat × Nat × Nat)} {ws : List Cond} {rm : Room} {Pc : Array Value → State → Prop} {Qc : Array Value → State → Outcome → State → Prop} {free : Addr → Prop} {Ts : List Cond} {own C : String} {b : Addr} {As rest : List Value} {g : JFrame}
    (S : CallFix p m c cc nL s args Ts own) (hM : Met l y ws rm Pc Qc mc ms free) (cw : vx_CVW R s args own C index y bytes maxL ret hh ws rm mc ms n) (hp : PreV s H C b Pc As)
    (hg : g.method = m) (hn : As.length = n) (hsize : g.locals.size = nL) (hstack : g.stack = As.reverse ++ .ref b :: rest) (hW : 2 * g.monitorRoom + (rest.map fun v => v.category).sum ≤ 8) (hdg : decode cc g.pc = .ok (.invokevirtual index, 3)) (hf : cells + mc ≤ R.cells ∧ slots + ms ≤ R.slots) :
    va_Run p l e R s m args below meth c H locs cells slots mc ms g rest (Qc (Value.ref b :: As).toArray) free := by
  obtain ⟨⟨hrc, hrs, hfr, hlo, hws, hcw⟩, hcode, hini, hy, hlen, hl, hin, hse⟩ := cw
  have hK : Back l R p e below s args y 3 8 (PreOf R mc ms Pc) (PostOf Qc mc ms free) := va_backW (hh := hh) (bytes := bytes) (maxL := maxL) (ret := ret) hM hp.1 hrc hrs hfr hlo hws hcw (fun a' U hW => word_at hW (Or.inl (by first | rfl | simp [Cond.onTables, Cond.keeps, Cond.steady])) hini)
  obtain ⟨hx, hb, hml, ho, -⟩ := S
  obtain ⟨-, ⟨cellB, hcB, hoB, hclB⟩, hPc⟩ := hp
  intro T hT X
  obtain ⟨v, vm₁, ⟨U', l2, c2, s2⟩, hW₁, X', ⟨g', mk, t, L, e1, e2, hq, h1, hL, h2, h3⟩, st⟩ := vx_callVW X hx (C := C) (hh := hh) (bytes := bytes) (maxL := maxL) (ret := ret) ho hl hin hse hcode hy hK (by rw [hT]; exact hcB) hoB hclB hg (hsize.trans hml.symm) (argsL := As) (rest := rest) (fun sig h => hn.trans (hlen sig h)) hstack hW (by rw [hb]; exact hdg)
    (fun vm₁ hW₁ => ⟨hf.1, hf.2, hPc (T.setVm vm₁) hT hW₁⟩)
  dsimp only [Pt.U, Pt.locs, Pt.cells, Pt.slots] at X' e1 e2 h1 h2 h3 st
  subst h1; subst h2; subst h3
  exact ⟨v, (T.setVm vm₁).calling g' mk (Value.ref b :: As).toArray, t, U', L, hT, X', hL, e1, e2, hq, st⟩
section
variable {y : MethodName} {bytes cc : ByteArray} {maxL nL mc ms n index : Nat} {ret : Option FieldType} {ws : List Cond} {rm : Room} {Pc : Array Value → State → Prop} {Qc : Array Value → State → Outcome → State → Prop} {XC : String → State → State → Prop} {free : Addr → Prop} {Ts : List Cond} {own C : String} {b : Addr} {As rest : List Value} {g : JFrame}
theorem vx_runVX {hh : List (Nat × Nat × Nat × Nat)} (S : CallFix p m c cc nL s args Ts own) (hM : vx_Met l y ws rm Pc Qc XC mc ms free) (cw : vx_CVW R s args own C index y bytes maxL ret hh ws rm mc ms n) (hp : PreV s H C b Pc As)
    (hg : g.method = m) (hn : As.length = n) (hsize : g.locals.size = nL) (hstack : g.stack = As.reverse ++ .ref b :: rest) (hW : 2 * g.monitorRoom + (rest.map fun v => v.category).sum ≤ 8) (hdg : decode cc g.pc = .ok (.invokevirtual index, 3)) (hf : cells + mc ≤ R.cells ∧ slots + ms ≤ R.slots) :
    vx_Run p l e R s m args below meth c H locs cells slots mc ms g rest (Qc (Value.ref b :: As).toArray) XC free := by
  obtain ⟨⟨hrc, hrs, hfr, hlo, hws, hcw⟩, hcode, hini, hy, hlen, hl, hin, hse⟩ := cw
  have hK : vx_Back l R p e below s args y 3 8 (PreOf R mc ms Pc) (PostOf Qc mc ms free) (vx_Post XC mc ms free) := vx_backW (hh := hh) (bytes := bytes) (maxL := maxL) (ret := ret) hM hp.1 hrc hrs hfr hlo hws hcw (fun a' U hW => word_at hW (Or.inl (by first | rfl | simp [Cond.onTables, Cond.keeps, Cond.steady])) hini)
  obtain ⟨hx, hb, hml, ho, -⟩ := S
  obtain ⟨-, ⟨cellB, hcB, hoB, hclB⟩, hPc⟩ := hp
  intro T hT X
  rcases vx_callVX X hx (C := C) (hh := hh) (bytes := bytes) (maxL := maxL) (ret := ret) ho hl hin hse hcode hy hK (by rw [hT]; exact hcB) hoB hclB hg (hsize.trans hml.symm) (argsL := As) (rest := rest) (fun sig h => hn.trans (hlen sig h)) hstack hW (by rw [hb]; exact hdg)
    (fun vm₁ hW₁ => ⟨hf.1, hf.2, hPc (T.setVm vm₁) hT hW₁⟩) with ⟨v, vm₁, ⟨U', l2, c2, s2⟩, hW₁, X', ⟨g', mk, t, L, e1, e2, hq, h1, hL, h2, h3⟩, st⟩ | ⟨q, vm₁, ⟨U', l2, c2, s2⟩, hW₁, X', ⟨g', mk, t, L, E, ce, e1, e2, hq, hce, hcv, hcl, h1, hL, h2, h3⟩, st⟩
  · dsimp only [Pt.U, Pt.locs, Pt.cells, Pt.slots] at X' e1 e2 h1 h2 h3 st
    subst h1; subst h2; subst h3
    exact Or.inl ⟨v, (T.setVm vm₁).calling g' mk (Value.ref b :: As).toArray, t, U', L, hT, X', hL, e1, e2, hq, st⟩
  · dsimp only [Pt.U, Pt.locs, Pt.cells, Pt.slots] at X' e1 e2 h1 h2 h3 st hcl
    subst h1; subst h2; subst h3
    exact Or.inr ⟨q, (T.setVm vm₁).calling g' mk (Value.ref b :: As).toArray, t, U', L, E, ce, hT, X', hL, e1, e2, hq, hce, hcv, vx_cls hW₁ hcl, st⟩
theorem vx_runSX {hh : List (Nat × Nat × Nat × Nat)} (S : CallFix p m c cc nL s args Ts own) (hM : vx_Met l y ws rm Pc Qc XC mc ms free) (cw : vx_CSW R s args own index y bytes maxL ret hh ws rm mc ms n) (hp : PreS s H Pc As)
    (hg : g.method = m) (hn : As.length = n) (hsize : g.locals.size = nL) (hstack : g.stack = As.reverse ++ rest) (hW : 2 * g.monitorRoom + (rest.map fun v => v.category).sum ≤ 8) (hdg : decode cc g.pc = .ok (.invokestatic index, 3)) (hf : cells + mc ≤ R.cells ∧ slots + ms ≤ R.slots) :
    vx_Run p l e R s m args below meth c H locs cells slots mc ms g rest (Qc As.toArray) XC free := by
  obtain ⟨⟨hrc, hrs, hfr, hlo, hws, hcw⟩, hcode, hini, hy, hlen, hl, hstt⟩ := cw
  have hK : vx_Back l R p e below s args y 3 8 (PreOf R mc ms Pc) (PostOf Qc mc ms free) (vx_Post XC mc ms free) := vx_backW (hh := hh) (bytes := bytes) (maxL := maxL) (ret := ret) hM hp.1 hrc hrs hfr hlo hws hcw (fun a' U hW => word_at hW (Or.inl (by first | rfl | simp [Cond.onTables, Cond.keeps, Cond.steady])) hini)
  obtain ⟨hx, hb, hml, ho, -⟩ := S
  intro T hT X
  rcases vx_callSX X hx (hh := hh) (bytes := bytes) (maxL := maxL) (ret := ret) ho hl hstt hini hcode hy hK hg (hsize.trans hml.symm) (argsL := As) (rest := rest) (fun sig h => hn.trans (hlen sig h)) hstack hW (by rw [hb]; exact hdg)
    (fun vm₁ hW₁ => ⟨hf.1, hf.2, hp.2 (T.setVm vm₁) hT hW₁⟩) with ⟨v, vm₁, ⟨U', l2, c2, s2⟩, hW₁, X', ⟨g', mk, t, L, e1, e2, hq, h1, hL, h2, h3⟩, st⟩ | ⟨q, vm₁, ⟨U', l2, c2, s2⟩, hW₁, X', ⟨g', mk, t, L, E, ce, e1, e2, hq, hce, hcv, hcl, h1, hL, h2, h3⟩, st⟩
  · dsimp only [Pt.U, Pt.locs, Pt.cells, Pt.slots] at X' e1 e2 h1 h2 h3 st
    subst h1; subst h2; subst h3
    exact Or.inl ⟨v, (T.setVm vm₁).calling g' mk As.toArray, t, U', L, hT, X', hL, e1, e2, hq, st⟩
  · dsimp only [Pt.U, Pt.locs, Pt.cells, Pt.slots] at X' e1 e2 h1 h2 h3 st hcl
    subst h1; subst h2; subst h3
    exact Or.inr ⟨q, (T.setVm vm₁).calling g' mk As.toArray, t, U', L, E, ce, hT, X', hL, e1, e2, hq, hce, hcv, vx_cls hW₁ hcl, st⟩
end
end VXH
theorem vx_ofWH {l : Launch} {y : MethodName} {ws ws' : List Cond} {rm : Room} {Pc : Array Value → State → Prop} {Qc : Array Value → State → Outcome → State → Prop} {XC : String → State → State → Prop} {mc ms : Nat} {free : Addr → Prop} {cc : ByteArray} {maxL : Nat} {ret : Option FieldType} {hh : List (Nat × Nat × Nat × Nat)}
    (hy : plainName y.cls = true) (hw : ws = Cond.codeWith y cc maxL ret hh :: ws')
    (body : ∀ p e s m args below meth c s₁, BodyLoose p l y (headSpec ws rm) cc maxL ret e s m args below meth c s₁ → c.maxLocals = maxL → Pc args s →
      W p l e (headSpec ws rm).room s m args below meth c s.heap [] 0 0 (vx_MQ below Qc XC args s mc ms free) (entryFrame m args maxL)) : vx_Met l y ws rm Pc Qc XC mc ms free := by
  refine MetFree.of_bodyS (code := cc) (maxLocals := maxL) (ret := ret) hy ?_ ?_
  · intro args s m h hn
    obtain ⟨m9, meth, c, hn9, h1, h2, h3, h4, -, h5, h6, -⟩ := Cond.codeWith_spec (atoms_spec (ws := ws) h _ (by rw [hw]; exact List.mem_cons_self))
    cases hn.symm.trans hn9
    exact ⟨meth, c, h1, h2, h3, h4, h5, h6⟩
  · intro p e s m args below meth c s₁ B hml hP _
    have hh0 : s₁.heap = s.heap := by rw [B.state]; rfl
    obtain ⟨t, a1, o, b1, b2, b3⟩ := body p e s m args below meth c s₁ B hml hP s₁ hh0 (Stand.of_body B)
    exact ⟨t, o, a1, b1, b2, b3⟩
/-! ===== END ===== -/

/-! ===== BEGIN printed: names, fields, word lists, decode rows ===== -/
end
section
/-! ===== the words of the tables that serve any method; the memory as a function of block and place; the world; the judgement RM ===== -/
def TB : List Cond := lw_tbl.filter goodWord
theorem tbm {i : Nat} {w : Cond} (h : lw_tbl[i]? = some w) (g : goodWord w = true) : w ∈ TB := List.mem_filter.mpr ⟨List.mem_of_getElem? h, g⟩
theorem goodTB {c : Cond} (hc : c ∈ TB) : GoodIn TB (c :: TB) := fun w h => by
  have hm : w ∈ TB := (List.mem_cons.mp h).elim (fun e => e ▸ hc) id
  exact ⟨hm, good_of_word (List.mem_filter.mp hm).2⟩
theorem fwTB : ∀ q ∈ vwCl, ∀ w ∈ u_ws q.1 q.2.1 q.2.2, w ∈ TB := by decide +kernel
theorem nmTB : ∀ q ∈ vwCl, ∀ a, a < q.2.2 → ∀ b, b < q.2.2 → a ≠ b → (q.2.1 a).2.1 ≠ (q.2.1 b).2.1 := by decide +kernel
abbrev Mem : Type := Nat → Nat → Int32
def up (x : Mem) (b n : Nat) (v : Int32) : Mem := fun b' n' => if b' = b ∧ n' = n then v else x b' n'
theorem up_s (x : Mem) (b n : Nat) (v : Int32) : up x b n v b n = v := by simp [up]
theorem up_ne (x : Mem) {b n b' n' : Nat} (v : Int32) (h : ¬ (b' = b ∧ n' = n)) : up x b n v b' n' = x b' n' := by simp [up, h]
theorem up_b (x : Mem) {b n b' : Nat} (n' : Nat) (v : Int32) (h : b' ≠ b) : up x b n v b' n' = x b' n' := by simp [up, h]
theorem up_n (x : Mem) {b n b' n' : Nat} (v : Int32) (h : n' ≠ n) : up x b n v b' n' = x b' n' := by simp [up, h]
abbrev Ads : Type := Nat → Nat → Nat → Nat
def ixB (k : Nat) : List (Nat × Nat × Nat) := [(k,0,0),(k,1,0),(k,2,0),(k,2,1),(k,2,2),(k,2,3),(k,3,0),(k,4,0),(k,4,1),(k,4,2),(k,5,0),(k,5,1),(k,5,2),(k,20,0),(k,20,1),(k,20,2),(k,20,3),(k,21,0),(k,21,1),(k,21,2),(k,21,3),(k,22,0),(k,22,1),(k,22,2),(k,22,3),(k,6,0),(k,7,0),(k,8,0)]
def ixC : List (Nat × Nat × Nat) := (List.range 7).flatMap ixB ++ [(7,4,0),(7,5,0),(7,20,0),(7,20,1),(7,20,2),(7,20,3),(8,9,0),(8,10,0),(8,11,0),(8,12,0),(9,13,0)]
def ixM : List (Nat × Nat × Nat) := [(15,14,0),(10,15,0),(11,15,0),(12,16,0),(13,17,0),(14,18,0)]
def idx : List (Nat × Nat × Nat) := ixC ++ ixM
/-- what the object c, j of the block k holds -/
def EE (cy : Nat → ClassId) (ad : Ads) (x : Mem) (k c j : Nat) : va_E := match c with
  | 0 => .inr (6, [.ref (ad k 1 0), .ref (ad k 3 0), .ref (ad k 6 0), .ref (ad k 8 0), .int (x k 3), .int (x k 4)])
  | 1 => .inl (cy 1, 4, .inr (.inr (.inr (.inr (fun i => some (ad k 2 i))))))
  | 2 => .inr (2, [.int (x k (14 + 4 * j)), .int (x k (15 + 4 * j)), .int (x k (16 + 4 * j)), .int (x k (17 + 4 * j))])
  | 3 => .inl (cy 2, 3, .inr (.inr (.inr (.inr (fun i => some (ad k 4 i))))))
  | 4 => .inr (1, [.ref (ad k 5 j), .int (x k (30 + 22 * j)), .int (x k (31 + 22 * j)), .int (x k (32 + 22 * j)), .int (x k (33 + 22 * j)), .int (x k (34 + 22 * j)), .int (x k (35 + 22 * j))])
  | 5 => .inl (cy 3, 4, .inr (.inr (.inr (.inr (fun i => some (ad k (j + 20) i))))))
  | 6 => .inr (0, [.ref (ad k 7 0), .int (x k 5)])
  | 7 => .inl (cy 0, 8, .inl (fun i => if i < 8 then x k (6 + i) else 0))
  | 8 => .inr (4, [.int (x k 0), .int (x k 1), .int (x k 2)])
  | 9 => .inr (8, [.ref (ad 0 0 0), .ref (ad 8 10 0), .ref (ad 8 12 0), .ref (ad 7 4 0)])
  | 10 => .inr (3, [.ref (ad 8 11 0), .int (x 8 0), .int (x 8 1)])
  | 11 => .inl (cy 4, 6, .inr (.inr (.inr (.inr (fun i => some (ad (i + 1) 0 0))))))
  | 12 => .inr (7, [.ref (ad 9 13 0), .int (x 8 2)])
  | 13 => .inl (cy 0, 60, .inl (x 9))
  | 14 => .inr (9, [.ref (ad 10 15 0), .ref (ad 11 15 0), .ref (ad 12 16 0), .int (x 15 0), .ref (ad 13 17 0), .int (x 15 1), .int (x 15 2), .int (x 15 3), .int (x 15 4), .ref (ad 14 18 0), .int (x 15 5), .int (x 15 6), .int (x 15 7)])
  | 15 => .inl (cy 0, 96, .inl (x k))
  | 16 => .inl (cy 0, 576, .inl (x k))
  | 17 => .inl (cy 0, 60, .inl (x k))
  | 18 => .inl (cy 0, 93, .inl (x k))
  | 19 => .inr (5, [])
  | d + 20 => .inr (5, [.int (x k (36 + 22 * d + 4 * j)), .int (x k (37 + 22 * d + 4 * j)), .int (x k (38 + 22 * d + 4 * j)), .int (x k (39 + 22 * d + 4 * j))])
/-- whose the place n of the block b is -/
def ow (b n : Nat) : Nat × Nat × Nat :=
  if b < 8 then
    if n < 3 then (b, 8, 0) else if n < 5 then (b, 0, 0) else if n = 5 then (b, 6, 0) else if n < 14 then (b, 7, 0) else if n < 30 then (b, 2, (n - 14) / 4)
    else if (n - 30) % 22 < 6 then (b, 4, (n - 30) / 22) else (b, (n - 30) / 22 + 20, ((n - 30) % 22 - 6) / 4)
  else if b = 8 then (if n < 2 then (8, 10, 0) else (8, 12, 0))
  else if b = 9 then (9, 13, 0)
  else if b = 12 then (12, 16, 0) else if b = 13 then (13, 17, 0) else if b = 14 then (14, 18, 0) else if b = 15 then (15, 14, 0) else (b, 15, 0)
/-- the objects that there may be -/
def dm (k c j : Nat) : Prop := match c with
  | 0 => k < 7 ∧ j = 0
  | 1 => k < 7 ∧ j = 0
  | 2 => k < 7 ∧ j < 4
  | 3 => k < 7 ∧ j = 0
  | 4 => k < 8 ∧ j < 3 ∧ (k = 7 → j = 0)
  | 5 => k < 8 ∧ j < 3 ∧ (k = 7 → j = 0)
  | 6 => k < 7 ∧ j = 0
  | 7 => k < 7 ∧ j = 0
  | 8 => k < 7 ∧ j = 0
  | 9 => k = 8 ∧ j = 0
  | 10 => k = 8 ∧ j = 0
  | 11 => k = 8 ∧ j = 0
  | 12 => k = 8 ∧ j = 0
  | 13 => k = 9 ∧ j = 0
  | 14 => k = 15 ∧ j = 0
  | 15 => (k = 10 ∨ k = 11) ∧ j = 0
  | 16 => k = 12 ∧ j = 0
  | 17 => k = 13 ∧ j = 0
  | 18 => k = 14 ∧ j = 0
  | 19 => False
  | d + 20 => k < 8 ∧ d < 3 ∧ j < 4 ∧ (k = 7 → d = 0)
def dmB (k c j : Nat) : Bool := match c with
  | 0 => decide (k < 7) && decide (j = 0)
  | 1 => decide (k < 7) && decide (j = 0)
  | 2 => decide (k < 7) && decide (j < 4)
  | 3 => decide (k < 7) && decide (j = 0)
  | 4 => decide (k < 8) && decide (j < 3) && (decide (k ≠ 7) || decide (j = 0))
  | 5 => decide (k < 8) && decide (j < 3) && (decide (k ≠ 7) || decide (j = 0))
  | 6 => decide (k < 7) && decide (j = 0)
  | 7 => decide (k < 7) && decide (j = 0)
  | 8 => decide (k < 7) && decide (j = 0)
  | 9 => decide (k = 8) && decide (j = 0)
  | 10 => decide (k = 8) && decide (j = 0)
  | 11 => decide (k = 8) && decide (j = 0)
  | 12 => decide (k = 8) && decide (j = 0)
  | 13 => decide (k = 9) && decide (j = 0)
  | 14 => decide (k = 15) && decide (j = 0)
  | 15 => (decide (k = 10) || decide (k = 11)) && decide (j = 0)
  | 16 => decide (k = 12) && decide (j = 0)
  | 17 => decide (k = 13) && decide (j = 0)
  | 18 => decide (k = 14) && decide (j = 0)
  | 19 => false
  | d + 20 => decide (k < 8) && decide (d < 3) && decide (j < 4) && (decide (k ≠ 7) || decide (d = 0))
theorem dm_iff (k c j : Nat) : dm k c j ↔ dmB k c j = true := by
  unfold dm dmB
  split <;> simp <;> omega
theorem dmB_idx0 : ((List.range 16).all fun k => (List.range 23).all fun c => (List.range 4).all fun j => !dmB k c j || idx.contains (k, c, j)) = true := by decide +kernel
theorem dmB_idx (k : Nat) (hk : k < 16) (c : Nat) (hc : c < 23) (j : Nat) (hj : j < 4) (h : dmB k c j = true) : (k, c, j) ∈ idx := by
  have h1 := List.all_eq_true.mp (List.all_eq_true.mp (List.all_eq_true.mp dmB_idx0 k (List.mem_range.mpr hk)) c (List.mem_range.mpr hc)) j (List.mem_range.mpr hj)
  rw [h] at h1
  simpa using h1
theorem idx_dmB : ∀ i ∈ idx, dmB i.1 i.2.1 i.2.2 = true := by decide +kernel
theorem idx_nd : va_nd ((List.range idx.length)) = true := by decide +kernel
theorem dm_lt {k c j : Nat} (h : dm k c j) : k < 16 ∧ c < 23 ∧ j < 4 := by
  unfold dm at h
  split at h <;> first | exact h.elim | omega
theorem dm_mem {k c j : Nat} (h : dm k c j) : (k, c, j) ∈ idx := dmB_idx k (dm_lt h).1 c (dm_lt h).2.1 j (dm_lt h).2.2 ((dm_iff k c j).mp h)
theorem mem_dm {k c j : Nat} (h : (k, c, j) ∈ idx) : dm k c j := (dm_iff k c j).mpr (idx_dmB _ h)
theorem ow_slot {b d s f : Nat} (hb : b < 8) (hd : d < 3) (hs : s < 4) (hf : f < 4) : ow b (36 + 22 * d + 4 * s + f) = (b, d + 20, s) := by
  have e1 : (36 + 22 * d + 4 * s + f - 30) / 22 = d := by omega
  have e2 : (36 + 22 * d + 4 * s + f - 30) % 22 = 6 + 4 * s + f := by omega
  have e3 : (6 + 4 * s + f - 6) / 4 = s := by omega
  unfold ow
  rw [if_pos hb, if_neg (by omega), if_neg (by omega), if_neg (by omega), if_neg (by omega), if_neg (by omega), e1, e2, if_neg (by omega), e3]
theorem ow_door {b d f : Nat} (hb : b < 8) (hd : d < 3) (hf : f < 6) : ow b (30 + 22 * d + f) = (b, 4, d) := by
  have e1 : (30 + 22 * d + f - 30) / 22 = d := by omega
  have e2 : (30 + 22 * d + f - 30) % 22 = f := by omega
  unfold ow
  rw [if_pos hb, if_neg (by omega), if_neg (by omega), if_neg (by omega), if_neg (by omega), if_neg (by omega), e1, e2, if_pos (by omega)]
theorem ow_fob {b j f : Nat} (hb : b < 8) (hj : j < 4) (hf : f < 4) : ow b (14 + 4 * j + f) = (b, 2, j) := by
  have e1 : (14 + 4 * j + f - 14) / 4 = j := by omega
  unfold ow
  rw [if_pos hb, if_neg (by omega), if_neg (by omega), if_neg (by omega), if_neg (by omega), if_pos (by omega), e1]
theorem ow_air {b i : Nat} (hb : b < 8) (hi : i < 8) : ow b (6 + i) = (b, 7, 0) := by
  unfold ow
  rw [if_pos hb, if_neg (by omega), if_neg (by omega), if_neg (by omega), if_pos (by omega)]
theorem ow_set {b f : Nat} (hb : b < 8) (hf : f < 3) : ow b f = (b, 8, 0) := by
  unfold ow
  rw [if_pos hb, if_pos hf]
theorem ow_sta {b f : Nat} (hb : b < 8) (h1 : 3 ≤ f) (hf : f < 5) : ow b f = (b, 0, 0) := by
  unfold ow
  rw [if_pos hb, if_neg (by omega), if_pos hf]
theorem ow_len {b : Nat} (hb : b < 8) : ow b 5 = (b, 6, 0) := by
  unfold ow
  rw [if_pos hb]
  rfl
theorem ow_h {n : Nat} (h : n < 2) : ow 8 n = (8, 10, 0) := by
  unfold ow
  rw [if_neg (by omega), if_pos rfl, if_pos h]
theorem ow_t : ow 8 2 = (8, 12, 0) := rfl
theorem ow_c (n : Nat) : ow 9 n = (9, 13, 0) := rfl
theorem ow_10 (n : Nat) : ow 10 n = (10, 15, 0) := rfl
theorem ow_11 (n : Nat) : ow 11 n = (11, 15, 0) := rfl
theorem ow_12 (n : Nat) : ow 12 n = (12, 16, 0) := rfl
theorem ow_13 (n : Nat) : ow 13 n = (13, 17, 0) := rfl
theorem ow_14 (n : Nat) : ow 14 n = (14, 18, 0) := rfl
theorem ow_15 (n : Nat) : ow 15 n = (15, 14, 0) := rfl
theorem EE_congr {cy : Nat → ClassId} {ad : Ads} {x y : Mem} {k c j : Nat} (hd : dm k c j) (h : ∀ b n, ow b n = (k, c, j) → x b n = y b n) : EE cy ad x k c j = EE cy ad y k c j := by
  have f : ∀ b n, ow b n = (k, c, j) → y b n = x b n := fun b n q => (h b n q).symm
  unfold dm at hd
  split at hd <;> simp only [EE]
  · obtain ⟨hk, rfl⟩ := hd
    rw [f k 3 (ow_sta (by omega) (by omega) (by omega)), f k 4 (ow_sta (by omega) (by omega) (by omega))]
  · obtain ⟨hk, hj⟩ := hd
    rw [f k (14 + 4 * j) (ow_fob (f := 0) (by omega) hj (by omega)), f k (15 + 4 * j) (by rw [show 15 + 4 * j = 14 + 4 * j + 1 by omega]; exact ow_fob (by omega) hj (by omega)), f k (16 + 4 * j) (by rw [show 16 + 4 * j = 14 + 4 * j + 2 by omega]; exact ow_fob (by omega) hj (by omega)), f k (17 + 4 * j) (by rw [show 17 + 4 * j = 14 + 4 * j + 3 by omega]; exact ow_fob (by omega) hj (by omega))]
  · obtain ⟨hk, hj, -⟩ := hd
    rw [f k (30 + 22 * j) (ow_door (f := 0) hk hj (by omega)), f k (31 + 22 * j) (by rw [show 31 + 22 * j = 30 + 22 * j + 1 by omega]; exact ow_door hk hj (by omega)), f k (32 + 22 * j) (by rw [show 32 + 22 * j = 30 + 22 * j + 2 by omega]; exact ow_door hk hj (by omega)), f k (33 + 22 * j) (by rw [show 33 + 22 * j = 30 + 22 * j + 3 by omega]; exact ow_door hk hj (by omega)), f k (34 + 22 * j) (by rw [show 34 + 22 * j = 30 + 22 * j + 4 by omega]; exact ow_door hk hj (by omega)), f k (35 + 22 * j) (by rw [show 35 + 22 * j = 30 + 22 * j + 5 by omega]; exact ow_door hk hj (by omega))]
  · obtain ⟨hk, rfl⟩ := hd
    rw [f k 5 (ow_len (by omega))]
  · obtain ⟨hk, rfl⟩ := hd
    congr 4
    funext i
    by_cases hi : i < 8
    · rw [if_pos hi, if_pos hi, f k (6 + i) (ow_air (by omega) hi)]
    · rw [if_neg hi, if_neg hi]
  · obtain ⟨hk, rfl⟩ := hd
    rw [f k 0 (ow_set (by omega) (by omega)), f k 1 (ow_set (by omega) (by omega)), f k 2 (ow_set (by omega) (by omega))]
  · obtain ⟨rfl, rfl⟩ := hd
    rw [f 8 0 rfl, f 8 1 rfl]
  · obtain ⟨rfl, rfl⟩ := hd
    rw [f 8 2 rfl]
  · obtain ⟨rfl, rfl⟩ := hd
    rw [show y 9 = x 9 from funext fun n => f 9 n rfl]
  · obtain ⟨rfl, rfl⟩ := hd
    rw [f 15 0 rfl, f 15 1 rfl, f 15 2 rfl, f 15 3 rfl, f 15 4 rfl, f 15 5 rfl, f 15 6 rfl, f 15 7 rfl]
  · obtain ⟨rfl | rfl, rfl⟩ := hd
    · rw [show y 10 = x 10 from funext fun n => f 10 n rfl]
    · rw [show y 11 = x 11 from funext fun n => f 11 n rfl]
  · obtain ⟨rfl, rfl⟩ := hd
    rw [show y 12 = x 12 from funext fun n => f 12 n rfl]
  · obtain ⟨rfl, rfl⟩ := hd
    rw [show y 13 = x 13 from funext fun n => f 13 n rfl]
  · obtain ⟨rfl, rfl⟩ := hd
    rw [show y 14 = x 14 from funext fun n => f 14 n rfl]
  · rename_i d
    obtain ⟨hk, hd3, hj, -⟩ := hd
    rw [f k (36 + 22 * d + 4 * j) (ow_slot (f := 0) hk hd3 hj (by omega)), f k (37 + 22 * d + 4 * j) (by rw [show 37 + 22 * d + 4 * j = 36 + 22 * d + 4 * j + 1 by omega]; exact ow_slot hk hd3 hj (by omega)), f k (38 + 22 * d + 4 * j) (by rw [show 38 + 22 * d + 4 * j = 36 + 22 * d + 4 * j + 2 by omega]; exact ow_slot hk hd3 hj (by omega)), f k (39 + 22 * d + 4 * j) (by rw [show 39 + 22 * d + 4 * j = 36 + 22 * d + 4 * j + 3 by omega]; exact ow_slot hk hd3 hj (by omega))]
theorem EE_up {cy : Nat → ClassId} {ad : Ads} {x : Mem} {k c j b n : Nat} {v : Int32} (hd : dm k c j) (h : ow b n ≠ (k, c, j)) : EE cy ad (up x b n v) k c j = EE cy ad x k c j :=
  EE_congr hd fun b' n' q => up_ne x v (fun z => h (by rw [← q, z.1, z.2]))
/-- the world -/
def wl (cy : Nat → ClassId) (ad : Ads) (x : Mem) : va_W := idx.map (fun i => (ad i.1 i.2.1 i.2.2, EE cy ad x i.1 i.2.1 i.2.2))
def IJ (ad : Ads) : Prop := ∀ i ∈ idx, ∀ j ∈ idx, ad i.1 i.2.1 i.2.2 = ad j.1 j.2.1 j.2.2 → i = j
def AA (ad : Ads) (sz : Nat) : Nat → Prop := fun q => (∃ i ∈ idx, q = ad i.1 i.2.1 i.2.2) ∨ sz ≤ q
theorem idx_ndp : idx.Nodup := by decide +kernel
theorem wl_at {cy : Nat → ClassId} {ad : Ads} {x : Mem} {q0 : Nat} {q : Nat × va_E} (h : (wl cy ad x)[q0]? = some q) : ∃ i, idx[q0]? = some i ∧ i ∈ idx ∧ q = (ad i.1 i.2.1 i.2.2, EE cy ad x i.1 i.2.1 i.2.2) := by
  unfold wl at h
  rw [List.getElem?_map] at h
  cases hi : idx[q0]? with
  | none => rw [hi] at h; cases h
  | some i => rw [hi] at h; exact ⟨i, rfl, List.mem_of_getElem? hi, (Option.some.inj h).symm⟩
theorem wl_D {cy : Nat → ClassId} {ad : Ads} {x : Mem} {A : Nat → Prop} (hI : IJ ad) (hA : ∀ i ∈ idx, A (ad i.1 i.2.1 i.2.2)) : va_D A (wl cy ad x) := by
  refine ⟨fun a b p q hp hq e => ?_, fun k q hq => ?_⟩
  · obtain ⟨i, h1, h2, rfl⟩ := wl_at hp
    obtain ⟨j, h3, h4, rfl⟩ := wl_at hq
    have hij := hI i h2 j h4 e
    subst hij
    have hl := (List.getElem?_eq_some_iff.mp h1).1
    exact (List.getElem?_inj hl idx_ndp).mp (by rw [h1, h3])
  · obtain ⟨i, h1, h2, rfl⟩ := wl_at hq
    exact hA i h2
theorem wl_get {cy : Nat → ClassId} {ad : Ads} (x : Mem) {k c j : Nat} (h : dm k c j) : ∃ q0 : Nat, (wl cy ad x)[q0]? = some (ad k c j, EE cy ad x k c j) ∧ idx[q0]? = some (k, c, j) := by
  obtain ⟨q0, hq⟩ := List.getElem?_of_mem (dm_mem h)
  exact ⟨q0, by unfold wl; rw [List.getElem?_map, hq]; rfl, hq⟩
theorem wl_set {cy : Nat → ClassId} {ad : Ads} {x y : Mem} {k c j q0 : Nat} (hq : idx[q0]? = some (k, c, j)) (h : ∀ k' c' j', dm k' c' j' → (k', c', j') ≠ (k, c, j) → EE cy ad y k' c' j' = EE cy ad x k' c' j') : (wl cy ad x).set q0 (ad k c j, EE cy ad y k c j) = wl cy ad y := by
  have hl := (List.getElem?_eq_some_iff.mp hq).1
  apply List.ext_getElem?
  intro n
  by_cases hn : n = q0
  · subst hn
    rw [List.getElem?_set_self (by unfold wl; rw [List.length_map]; exact hl)]
    unfold wl
    rw [List.getElem?_map, hq]
    rfl
  · rw [List.getElem?_set_ne (Ne.symm hn)]
    unfold wl
    rw [List.getElem?_map, List.getElem?_map]
    cases hi : idx[n]? with
    | none => rfl
    | some i =>
      obtain ⟨k', c', j'⟩ := i
      have hne : (k', c', j') ≠ (k, c, j) := fun e => hn ((List.getElem?_inj (List.getElem?_eq_some_iff.mp hi).1 idx_ndp).mp (by rw [hi, hq, e]))
      show some (_, _) = some (_, _)
      rw [h k' c' j' (mem_dm (List.mem_of_getElem? hi)) hne]
/-- the words of private methods that a nest mate calls -/
def nestL : List (String × Nat × MethodName × String) := [("RollingFob$Fob", 24, yX8_counterBehind, "RollingFob"), ("RollingFob$Fob", 28, yX8_numberOf, "RollingFob"), ("RollingFob$Slot", 31, yX8_counterBehind, "RollingFob"), ("RollingFob$Slot", 35, yX8_numberOf, "RollingFob")]
def NW (U : State) : Prop := ∀ q ∈ nestL, va_Nw (.methodLinkNest q.1 q.2.1 q.2.2.1 q.2.2.2) U
theorem NW.warm {s U : State} (hW : s.WarmedH U.vm) (h : NW s) : NW U := fun q hq => va_Nw.warmM hW (h q hq)
theorem NW.same {u U : State} (hvm : u.vm = U.vm) (h : NW u) : NW U := fun q hq => va_Nw.same rfl hvm (h q hq)
abbrev tys (cy : Nat → ClassId) : List (ClassId × FieldType) := [(cy 0, .int), (cy 1, .object "RollingFob$Fob"), (cy 2, .object "RollingFob$Door"), (cy 3, .object "RollingFob$Slot"), (cy 4, .object "RollingFob$State"), (cy 5, .long)]
/-- what stands throughout a method's walk -/
def CX (p : Program) (s : State) (m : MethodId) (args : Array Value) (meth : Method) (c : Code) (cc : ByteArray) (nL : Nat) (own : String) (ret : Option FieldType) (D : va_G) (cy : Nat → ClassId) (ad : Ads) : Prop :=
  CallFix p m c cc nL s args TB own ∧ meth.sig.returnType = ret ∧ meth.locks = false ∧ va_K D vwCl (tys cy) s ∧ IJ ad ∧ NW s
/-- the judgement: at this place, with these locals and this stack, over any heap that G says, the end is reached -/
def RM (p : Program) (l : Launch) (e : Env) (R : Room) (s : State) (m : MethodId) (args : Array Value) (below : List Frame) (meth : Method) (c : Code) (nL : Nat) (A : Nat → Prop) (G : Heap → Prop) (nc ns : Nat) (Q : State → Prop) (pc : Nat) (ls : List (Nat × Value)) (st : List Value) : Prop :=
  ∀ (H : Heap) (locs : List Loc) (la : Array Slot), G H → va_S A s.heap H locs → lv_has la nL ls → W p l e R s m args below meth c H locs nc ns Q (F0 m pc la st)
abbrev GG (D : va_G) (cy : Nat → ClassId) (ad : Ads) (x : Mem) : Heap → Prop := va_P D vwCl (wl cy ad x)
theorem AA_in {ad : Ads} {sz : Nat} : ∀ i ∈ idx, AA ad sz (ad i.1 i.2.1 i.2.2) := fun i h => Or.inl ⟨i, h, rfl⟩
/-- a contract: an int, or a boolean, is answered -/
def Cti (l : Launch) (y : MethodName) (cc : ByteArray) (nL : Nat) (ret : Option FieldType) (rm : Room) (D : va_G) (cy : Nat → ClassId) (ad : Ads) (As : List Value) (x : Mem) (post : Int32 → Mem → Prop) : Prop :=
  ∀ sz, Met l y (.code y cc nL ret :: TB) rm (va_Pc As (fun U => U.heap.size = sz ∧ va_P D vwCl (wl cy ad x) U.heap ∧ va_K D vwCl (tys cy) U ∧ NW U)) (va_Qi post (fun z t => va_P D vwCl (wl cy ad z) t.heap) (AA ad sz)) 0 0 (AA ad sz)
def Ctv (l : Launch) (y : MethodName) (cc : ByteArray) (nL : Nat) (ret : Option FieldType) (rm : Room) (D : va_G) (cy : Nat → ClassId) (ad : Ads) (As : List Value) (x : Mem) (post : Mem → Prop) : Prop :=
  ∀ sz, Met l y (.code y cc nL ret :: TB) rm (va_Pc As (fun U => U.heap.size = sz ∧ va_P D vwCl (wl cy ad x) U.heap ∧ va_K D vwCl (tys cy) U ∧ NW U)) (va_Qv post (fun z t => va_P D vwCl (wl cy ad z) t.heap) (AA ad sz)) 0 0 (AA ad sz)
def Ctl (l : Launch) (y : MethodName) (cc : ByteArray) (nL : Nat) (ret : Option FieldType) (rm : Room) (D : va_G) (cy : Nat → ClassId) (ad : Ads) (As : List Value) (x : Mem) (post : Int64 → Mem → Prop) : Prop :=
  ∀ sz, Met l y (.code y cc nL ret :: TB) rm (va_Pc As (fun U => U.heap.size = sz ∧ va_P D vwCl (wl cy ad x) U.heap ∧ va_K D vwCl (tys cy) U ∧ NW U)) (va_Ql post (fun z t => va_P D vwCl (wl cy ad z) t.heap) (AA ad sz)) 0 0 (AA ad sz)
def Ctd (l : Launch) (y : MethodName) (cc : ByteArray) (nL : Nat) (ret : Option FieldType) (rm : Room) (D : va_G) (cy : Nat → ClassId) (ad : Ads) (As : List Value) (x : Mem) (post : UInt64 → Mem → Prop) : Prop :=
  ∀ sz, Met l y (.code y cc nL ret :: TB) rm (va_Pc As (fun U => U.heap.size = sz ∧ va_P D vwCl (wl cy ad x) U.heap ∧ va_K D vwCl (tys cy) U ∧ NW U)) (va_Qd post (fun z t => va_P D vwCl (wl cy ad z) t.heap) (AA ad sz)) 0 0 (AA ad sz)
/-- what a walk ends in -/
def QQ (Qc : (Nat → Prop) → Array Value → State → Outcome → State → Prop) (below : List Frame) (args : Array Value) (s : State) (ad : Ads) : State → Prop := MQ below (Qc (AA ad s.heap.size)) args s 0 0 (AA ad s.heap.size)
abbrev Qi (D : va_G) (cy : Nat → ClassId) (ad : Ads) (post : Int32 → Mem → Prop) : (Nat → Prop) → Array Value → State → Outcome → State → Prop := va_Qi post (fun z t => va_P D vwCl (wl cy ad z) t.heap)
abbrev Qv (D : va_G) (cy : Nat → ClassId) (ad : Ads) (post : Mem → Prop) : (Nat → Prop) → Array Value → State → Outcome → State → Prop := va_Qv post (fun z t => va_P D vwCl (wl cy ad z) t.heap)
abbrev Ql (D : va_G) (cy : Nat → ClassId) (ad : Ads) (post : Int64 → Mem → Prop) : (Nat → Prop) → Array Value → State → Outcome → State → Prop := va_Ql post (fun z t => va_P D vwCl (wl cy ad z) t.heap)
abbrev Qd (D : va_G) (cy : Nat → ClassId) (ad : Ads) (post : UInt64 → Mem → Prop) : (Nat → Prop) → Array Value → State → Outcome → State → Prop := va_Qd post (fun z t => va_P D vwCl (wl cy ad z) t.heap)
theorem rm_entry {l : Launch} {y : MethodName} {cc : ByteArray} {nL : Nat} {ret : Option FieldType} {rm : Room} {D : va_G} {cy : Nat → ClassId} {ad : Ads} {As : List Value} {x : Mem} {Qc : (Nat → Prop) → Array Value → State → Outcome → State → Prop} (hI : IJ ad) (hy : plainName y.cls = true) (hl : (lg_sl As).length ≤ nL)
    (body : ∀ p e s m args below meth c, CX p s m args meth c cc nL y.cls ret D cy ad → RM p l e rm s m args below meth c nL (AA ad s.heap.size) (GG D cy ad x) 0 0 (QQ Qc below args s ad) 0 (lv_args 0 As) []) (sz : Nat) :
    Met l y (.code y cc nL ret :: TB) rm (va_Pc As (fun U => U.heap.size = sz ∧ va_P D vwCl (wl cy ad x) U.heap ∧ va_K D vwCl (tys cy) U ∧ NW U)) (Qc (AA ad sz)) 0 0 (AA ad sz) := by
  refine Met.ofW (cc := cc) (maxL := nL) (ret := ret) hy rfl ?_
  intro p e s m args below meth c s₁ B hml hv
  obtain ⟨rfl, hsz, hP, hK, hN⟩ := hv
  subst hsz
  have hts := atoms_spec (ws := .code y cc nL ret :: TB) B.pre
  have hc : CX p s m As.toArray meth c cc nL y.cls ret D cy ad := ⟨⟨B.exec, B.bytes, hml, findClass_of_methodNamed B.named, fun w h => hts w (List.mem_cons_of_mem _ h)⟩, B.returns, B.notSynchronized, hK, hI, hN⟩
  have h := body p e s m As.toArray below meth c hc
  rw [lg_entry_eq]
  exact h s.heap [] _ hP va_S.rf (lv_entry As hl)
end
section
section ROWS
variable {p : Program} {l : Launch} {e : Env} {R : Room} {s : State} {m : MethodId} {args : Array Value} {below : List Frame} {meth : Method} {c : Code} {cc : ByteArray} {nL : Nat} {own : String} {ret : Option FieldType} {D : va_G} {cy : Nat → ClassId} {ad : Ads} {A : Nat → Prop} {G : Heap → Prop} {nc ns : Nat} {Q : State → Prop} {x : Mem} {pc : Nat} {ls : List (Nat × Value)} {st : List Value}
def lk : List (Nat × Value) → Nat → Option Value
  | [], _ => none
  | q :: t, i => cond (Nat.beq q.1 i) (some q.2) (lk t i)
theorem lk_mem : ∀ {ls : List (Nat × Value)} {i : Nat} {v : Value}, lk ls i = some v → (i, v) ∈ ls
  | [], _, _, h => by cases h
  | q :: t, i, v, h => by
    unfold lk at h
    cases hb : Nat.beq q.1 i with
    | true =>
      rw [hb] at h
      have h1 : q.2 = v := Option.some.inj h
      have h2 : q.1 = i := Nat.eq_of_beq_eq_true hb
      rw [← h1, ← h2]
      exact List.mem_cons_self
    | false =>
      rw [hb] at h
      exact List.mem_cons_of_mem _ (lk_mem h)
theorem lk_at {la : Array Slot} {n i : Nat} {ls : List (Nat × Value)} {v : Value} (h : lv_has la n ls) (hk : lk ls i = some v) : la[i]? = some (.val v) := h.2.2 (i, v) (lk_mem hk)
def ins (i : Nat) (v : Value) : List (Nat × Value) → List (Nat × Value)
  | [] => [(i, v)]
  | q :: t => cond (Nat.blt i q.1) ((i, v) :: q :: t) (q :: ins i v t)
theorem ins_mem {i : Nat} {v : Value} : ∀ {ls : List (Nat × Value)} {q : Nat × Value}, q ∈ ins i v ls → q ∈ (i, v) :: ls
  | [], _, h => h
  | a :: t, q, h => by
    unfold ins at h
    cases hb : Nat.blt i a.1 with
    | true => rw [hb] at h; exact h
    | false =>
      rw [hb] at h
      rcases List.mem_cons.mp h with h1 | h1
      · rw [h1]; exact List.mem_cons_of_mem _ List.mem_cons_self
      · rcases List.mem_cons.mp (ins_mem h1) with h2 | h2
        · rw [h2]; exact List.mem_cons_self
        · exact List.mem_cons_of_mem _ (List.mem_cons_of_mem _ h2)
theorem has_mono {la : Array Slot} {n : Nat} {ls ls' : List (Nat × Value)} (h : lv_has la n ls) (hs : ∀ q ∈ ls', q ∈ ls) : lv_has la n ls' := ⟨h.1, h.2.1, fun q hq => h.2.2 q (hs q hq)⟩
def l1 (i : Nat) (v : Value) (ls : List (Nat × Value)) : List (Nat × Value) := ins i v (ls.filter (fun q => !(q.1 == i) && !(q.1 + 1 == i && q.2.category == 2)))
def l2 (i : Nat) (v : Value) (ls : List (Nat × Value)) : List (Nat × Value) := ins i v (ls.filter (fun q => !(q.1 == i) && (!(q.1 == i + 1) && !(q.1 + 1 == i && q.2.category == 2))))
/-- a part of the locals: by their places -/
def pk (ls : List (Nat × Value)) (ks : List Nat) : List (Nat × Value) := ks.filterMap (fun k => (lk ls k).map (fun v => (k, v)))
theorem pk_mem {ls : List (Nat × Value)} {ks : List Nat} {q : Nat × Value} (h : q ∈ pk ls ks) : q ∈ ls := by
  obtain ⟨k, -, hk⟩ := List.mem_filterMap.mp h
  cases hl : lk ls k with
  | none => rw [hl] at hk; cases hk
  | some v => rw [hl] at hk; cases hk; exact lk_mem hl
theorem rm_iconst (hc : CX p s m args meth c cc nL own ret D cy ad) {n : Int} {v : Int32} (hd : decode cc pc = .ok (.iconst n, 1)) (hv : Int32.ofInt n = v) (kk : RM p l e R s m args below meth c nL A G nc ns Q (pc + 1) ls (.int v :: st)) : RM p l e R s m args below meth c nL A G nc ns Q pc ls st :=
  fun H locs la hP hS hl => lv_iconst hc.1.1 hc.1.2.1 hd hv (kk H locs la hP hS hl)
theorem rm_bipush (hc : CX p s m args meth c cc nL own ret D cy ad) {n : Int} {v : Int32} (hd : decode cc pc = .ok (.bipush n, 2)) (hv : (Int8.ofInt n).toInt32 = v) (kk : RM p l e R s m args below meth c nL A G nc ns Q (pc + 2) ls (.int v :: st)) : RM p l e R s m args below meth c nL A G nc ns Q pc ls st :=
  fun H locs la hP hS hl => lv_bipush hc.1.1 hc.1.2.1 hd hv (kk H locs la hP hS hl)
theorem rm_sipush (hc : CX p s m args meth c cc nL own ret D cy ad) {n : Int} {v : Int32} (hd : decode cc pc = .ok (.sipush n, 3)) (hv : (Int16.ofInt n).toInt32 = v) (kk : RM p l e R s m args below meth c nL A G nc ns Q (pc + 3) ls (.int v :: st)) : RM p l e R s m args below meth c nL A G nc ns Q pc ls st :=
  fun H locs la hP hS hl => lv_sipush hc.1.1 hc.1.2.1 hd hv (kk H locs la hP hS hl)
theorem rm_lconst (hc : CX p s m args meth c cc nL own ret D cy ad) {n : Fin 2} {v : Int64} (hd : decode cc pc = .ok (.lconst n, 1)) (hv : Int64.ofNat (n : Nat) = v) (kk : RM p l e R s m args below meth c nL A G nc ns Q (pc + 1) ls (.long v :: st)) : RM p l e R s m args below meth c nL A G nc ns Q pc ls st :=
  fun H locs la hP hS hl => lv_lconst hc.1.1 hc.1.2.1 hd hv (kk H locs la hP hS hl)
theorem rm_dconst0 (hc : CX p s m args meth c cc nL own ret D cy ad) (hd : decode cc pc = .ok (.dconst 0, 1)) (kk : RM p l e R s m args below meth c nL A G nc ns Q (pc + 1) ls (.double FP.dconst0 :: st)) : RM p l e R s m args below meth c nL A G nc ns Q pc ls st :=
  fun H locs la hP hS hl => lv_dconst0 hc.1.1 hc.1.2.1 hd (kk H locs la hP hS hl)
theorem rm_dconst1 (hc : CX p s m args meth c cc nL own ret D cy ad) (hd : decode cc pc = .ok (.dconst 1, 1)) (kk : RM p l e R s m args below meth c nL A G nc ns Q (pc + 1) ls (.double FP.dconst1 :: st)) : RM p l e R s m args below meth c nL A G nc ns Q pc ls st :=
  fun H locs la hP hS hl => lv_dconst1 hc.1.1 hc.1.2.1 hd (kk H locs la hP hS hl)
theorem rm_ldc (hc : CX p s m args meth c cc nL own ret D cy ad) {i : Nat} {v : Int32} (hd : decode cc pc = .ok (.ldc i, 2)) (hk : Cond.constant own i v ∈ TB) (kk : RM p l e R s m args below meth c nL A G nc ns Q (pc + 2) ls (.int v :: st)) : RM p l e R s m args below meth c nL A G nc ns Q pc ls st :=
  fun H locs la hP hS hl => lv_ldc hc.1.1 hc.1.2.1 hc.1.2.2.2.1 (hc.1.2.2.2.2 _ hk) hd (kk H locs la hP hS hl)
theorem rm_ldc2 (hc : CX p s m args meth c cc nL own ret D cy ad) {i : Nat} {v : Int64} (hd : decode cc pc = .ok (.ldc2_w i, 3)) (hk : Cond.constantLong own i v ∈ TB) (kk : RM p l e R s m args below meth c nL A G nc ns Q (pc + 3) ls (.long v :: st)) : RM p l e R s m args below meth c nL A G nc ns Q pc ls st :=
  fun H locs la hP hS hl => lv_ldc2 hc.1.1 hc.1.2.1 hc.1.2.2.2.1 (hc.1.2.2.2.2 _ hk) hd (kk H locs la hP hS hl)
theorem rm_ldc2d (hc : CX p s m args meth c cc nL own ret D cy ad) {i : Nat} {v : UInt64} (hd : decode cc pc = .ok (.ldc2_w i, 3)) (hk : Cond.constantDouble own i v ∈ TB) (kk : RM p l e R s m args below meth c nL A G nc ns Q (pc + 3) ls (.double v :: st)) : RM p l e R s m args below meth c nL A G nc ns Q pc ls st :=
  fun H locs la hP hS hl => lv_ldc2d hc.1.1 hc.1.2.1 hc.1.2.2.2.1 (hc.1.2.2.2.2 _ hk) hd (kk H locs la hP hS hl)
theorem rm_iload_n (hc : CX p s m args meth c cc nL own ret D cy ad) {k : Fin 4} {i : Nat} {v : Int32} (hd : decode cc pc = .ok (.iload_n k, 1)) (hi : (k : Nat) = i) (hk : lk ls i = some (.int v)) (kk : RM p l e R s m args below meth c nL A G nc ns Q (pc + 1) ls (.int v :: st)) : RM p l e R s m args below meth c nL A G nc ns Q pc ls st :=
  fun H locs la hP hS hl => lv_iload_n hc.1.1 hc.1.2.1 hd hi (lk_at hl hk) (kk H locs la hP hS hl)
theorem rm_iload (hc : CX p s m args meth c cc nL own ret D cy ad) {i : Nat} {v : Int32} (hd : decode cc pc = .ok (.iload i, 2)) (hk : lk ls i = some (.int v)) (kk : RM p l e R s m args below meth c nL A G nc ns Q (pc + 2) ls (.int v :: st)) : RM p l e R s m args below meth c nL A G nc ns Q pc ls st :=
  fun H locs la hP hS hl => lv_iload hc.1.1 hc.1.2.1 hd (lk_at hl hk) (kk H locs la hP hS hl)
theorem rm_lload_n (hc : CX p s m args meth c cc nL own ret D cy ad) {k : Fin 4} {i : Nat} {v : Int64} (hd : decode cc pc = .ok (.lload_n k, 1)) (hi : (k : Nat) = i) (hk : lk ls i = some (.long v)) (kk : RM p l e R s m args below meth c nL A G nc ns Q (pc + 1) ls (.long v :: st)) : RM p l e R s m args below meth c nL A G nc ns Q pc ls st :=
  fun H locs la hP hS hl => lv_lload_n hc.1.1 hc.1.2.1 hd hi (lk_at hl hk) (kk H locs la hP hS hl)
theorem rm_lload (hc : CX p s m args meth c cc nL own ret D cy ad) {i : Nat} {v : Int64} (hd : decode cc pc = .ok (.lload i, 2)) (hk : lk ls i = some (.long v)) (kk : RM p l e R s m args below meth c nL A G nc ns Q (pc + 2) ls (.long v :: st)) : RM p l e R s m args below meth c nL A G nc ns Q pc ls st :=
  fun H locs la hP hS hl => lv_lload hc.1.1 hc.1.2.1 hd (lk_at hl hk) (kk H locs la hP hS hl)
theorem rm_dload_n (hc : CX p s m args meth c cc nL own ret D cy ad) {k : Fin 4} {i : Nat} {v : UInt64} (hd : decode cc pc = .ok (.dload_n k, 1)) (hi : (k : Nat) = i) (hk : lk ls i = some (.double v)) (kk : RM p l e R s m args below meth c nL A G nc ns Q (pc + 1) ls (.double v :: st)) : RM p l e R s m args below meth c nL A G nc ns Q pc ls st :=
  fun H locs la hP hS hl => lv_dload_n hc.1.1 hc.1.2.1 hd hi (lk_at hl hk) (kk H locs la hP hS hl)
theorem rm_dload (hc : CX p s m args meth c cc nL own ret D cy ad) {i : Nat} {v : UInt64} (hd : decode cc pc = .ok (.dload i, 2)) (hk : lk ls i = some (.double v)) (kk : RM p l e R s m args below meth c nL A G nc ns Q (pc + 2) ls (.double v :: st)) : RM p l e R s m args below meth c nL A G nc ns Q pc ls st :=
  fun H locs la hP hS hl => lv_dload hc.1.1 hc.1.2.1 hd (lk_at hl hk) (kk H locs la hP hS hl)
theorem rm_aload_n (hc : CX p s m args meth c cc nL own ret D cy ad) {k : Fin 4} {i : Nat} {v : Nat} (hd : decode cc pc = .ok (.aload_n k, 1)) (hi : (k : Nat) = i) (hk : lk ls i = some (.ref v)) (kk : RM p l e R s m args below meth c nL A G nc ns Q (pc + 1) ls (.ref v :: st)) : RM p l e R s m args below meth c nL A G nc ns Q pc ls st :=
  fun H locs la hP hS hl => lv_aload_n hc.1.1 hc.1.2.1 hd hi (lk_at hl hk) (kk H locs la hP hS hl)
theorem rm_aload (hc : CX p s m args meth c cc nL own ret D cy ad) {i : Nat} {v : Nat} (hd : decode cc pc = .ok (.aload i, 2)) (hk : lk ls i = some (.ref v)) (kk : RM p l e R s m args below meth c nL A G nc ns Q (pc + 2) ls (.ref v :: st)) : RM p l e R s m args below meth c nL A G nc ns Q pc ls st :=
  fun H locs la hP hS hl => lv_aload hc.1.1 hc.1.2.1 hd (lk_at hl hk) (kk H locs la hP hS hl)
theorem rm_istore_n (hc : CX p s m args meth c cc nL own ret D cy ad) {k : Fin 4} {i : Nat} {v : Int32} {ls' : List (Nat × Value)} (hd : decode cc pc = .ok (.istore_n k, 1)) (hi : (k : Nat) = i) (hn : i < nL) (hl' : l1 i (.int v) ls = ls') (kk : RM p l e R s m args below meth c nL A G nc ns Q (pc + 1) ls' st) : RM p l e R s m args below meth c nL A G nc ns Q pc ls (.int v :: st) :=
  fun H locs la hP hS hl => lv_istore_n hc.1.1 hc.1.2.1 hd hi hl hn rfl (fun la' h' => kk H locs la' hP hS (has_mono h' (fun q hq => by rw [← hl'] at hq; exact ins_mem hq)))
theorem rm_istore (hc : CX p s m args meth c cc nL own ret D cy ad) {i : Nat} {v : Int32} {ls' : List (Nat × Value)} (hd : decode cc pc = .ok (.istore i, 2)) (hn : i < nL) (hl' : l1 i (.int v) ls = ls') (kk : RM p l e R s m args below meth c nL A G nc ns Q (pc + 2) ls' st) : RM p l e R s m args below meth c nL A G nc ns Q pc ls (.int v :: st) :=
  fun H locs la hP hS hl => lv_istore hc.1.1 hc.1.2.1 hd hl hn rfl (fun la' h' => kk H locs la' hP hS (has_mono h' (fun q hq => by rw [← hl'] at hq; exact ins_mem hq)))
theorem rm_lstore_n (hc : CX p s m args meth c cc nL own ret D cy ad) {k : Fin 4} {i : Nat} {v : Int64} {ls' : List (Nat × Value)} (hd : decode cc pc = .ok (.lstore_n k, 1)) (hi : (k : Nat) = i) (hn : i + 1 < nL) (hl' : l2 i (.long v) ls = ls') (kk : RM p l e R s m args below meth c nL A G nc ns Q (pc + 1) ls' st) : RM p l e R s m args below meth c nL A G nc ns Q pc ls (.long v :: st) :=
  fun H locs la hP hS hl => lv_lstore_n hc.1.1 hc.1.2.1 hd hi hl hn rfl (fun la' h' => kk H locs la' hP hS (has_mono h' (fun q hq => by rw [← hl'] at hq; exact ins_mem hq)))
theorem rm_lstore (hc : CX p s m args meth c cc nL own ret D cy ad) {i : Nat} {v : Int64} {ls' : List (Nat × Value)} (hd : decode cc pc = .ok (.lstore i, 2)) (hn : i + 1 < nL) (hl' : l2 i (.long v) ls = ls') (kk : RM p l e R s m args below meth c nL A G nc ns Q (pc + 2) ls' st) : RM p l e R s m args below meth c nL A G nc ns Q pc ls (.long v :: st) :=
  fun H locs la hP hS hl => lv_lstore hc.1.1 hc.1.2.1 hd hl hn rfl (fun la' h' => kk H locs la' hP hS (has_mono h' (fun q hq => by rw [← hl'] at hq; exact ins_mem hq)))
theorem rm_dstore_n (hc : CX p s m args meth c cc nL own ret D cy ad) {k : Fin 4} {i : Nat} {v : UInt64} {ls' : List (Nat × Value)} (hd : decode cc pc = .ok (.dstore_n k, 1)) (hi : (k : Nat) = i) (hn : i + 1 < nL) (hl' : l2 i (.double v) ls = ls') (kk : RM p l e R s m args below meth c nL A G nc ns Q (pc + 1) ls' st) : RM p l e R s m args below meth c nL A G nc ns Q pc ls (.double v :: st) :=
  fun H locs la hP hS hl => lv_dstore_n hc.1.1 hc.1.2.1 hd hi hl hn rfl (fun la' h' => kk H locs la' hP hS (has_mono h' (fun q hq => by rw [← hl'] at hq; exact ins_mem hq)))
theorem rm_dstore (hc : CX p s m args meth c cc nL own ret D cy ad) {i : Nat} {v : UInt64} {ls' : List (Nat × Value)} (hd : decode cc pc = .ok (.dstore i, 2)) (hn : i + 1 < nL) (hl' : l2 i (.double v) ls = ls') (kk : RM p l e R s m args below meth c nL A G nc ns Q (pc + 2) ls' st) : RM p l e R s m args below meth c nL A G nc ns Q pc ls (.double v :: st) :=
  fun H locs la hP hS hl => lv_dstore hc.1.1 hc.1.2.1 hd hl hn rfl (fun la' h' => kk H locs la' hP hS (has_mono h' (fun q hq => by rw [← hl'] at hq; exact ins_mem hq)))
theorem rm_astore_n (hc : CX p s m args meth c cc nL own ret D cy ad) {k : Fin 4} {i : Nat} {v : Nat} {ls' : List (Nat × Value)} (hd : decode cc pc = .ok (.astore_n k, 1)) (hi : (k : Nat) = i) (hn : i < nL) (hl' : l1 i (.ref v) ls = ls') (kk : RM p l e R s m args below meth c nL A G nc ns Q (pc + 1) ls' st) : RM p l e R s m args below meth c nL A G nc ns Q pc ls (.ref v :: st) :=
  fun H locs la hP hS hl => lv_astore_n hc.1.1 hc.1.2.1 hd hi hl hn rfl (fun la' h' => kk H locs la' hP hS (has_mono h' (fun q hq => by rw [← hl'] at hq; exact ins_mem hq)))
theorem rm_astore (hc : CX p s m args meth c cc nL own ret D cy ad) {i : Nat} {v : Nat} {ls' : List (Nat × Value)} (hd : decode cc pc = .ok (.astore i, 2)) (hn : i < nL) (hl' : l1 i (.ref v) ls = ls') (kk : RM p l e R s m args below meth c nL A G nc ns Q (pc + 2) ls' st) : RM p l e R s m args below meth c nL A G nc ns Q pc ls (.ref v :: st) :=
  fun H locs la hP hS hl => lv_astore hc.1.1 hc.1.2.1 hd hl hn rfl (fun la' h' => kk H locs la' hP hS (has_mono h' (fun q hq => by rw [← hl'] at hq; exact ins_mem hq)))
theorem rm_iinc (hc : CX p s m args meth c cc nL own ret D cy ad) {i : Nat} {n : Int} {a v : Int32} {ls' : List (Nat × Value)} (hd : decode cc pc = .ok (.iinc i n, 3)) (hk : lk ls i = some (.int a)) (hv : a + Int32.ofInt n = v) (hn : i < nL) (hl' : l1 i (.int v) ls = ls') (kk : RM p l e R s m args below meth c nL A G nc ns Q (pc + 3) ls' st) : RM p l e R s m args below meth c nL A G nc ns Q pc ls st := by
  intro H locs la hP hS hl
  obtain ⟨k0, hk0⟩ := List.getElem?_of_mem (lk_mem hk)
  exact lv_iinc hc.1.1 hc.1.2.1 hd hl hk0 hv hn rfl (fun la' h' => kk H locs la' hP hS (has_mono h' (fun q hq => by rw [← hl'] at hq; exact ins_mem hq)))
theorem rm_iadd (hc : CX p s m args meth c cc nL own ret D cy ad) {a b : Int32} (hd : decode cc pc = .ok (.iadd, 1)) (kk : ∀ v : Int32, v = a + b → RM p l e R s m args below meth c nL A G nc ns Q (pc + 1) ls (.int v :: st)) : RM p l e R s m args below meth c nL A G nc ns Q pc ls (.int b :: .int a :: st) :=
  fun H locs la hP hS hl => lv_iadd hc.1.1 hc.1.2.1 hd (kk _ rfl H locs la hP hS hl)
theorem rm_isub (hc : CX p s m args meth c cc nL own ret D cy ad) {a b : Int32} (hd : decode cc pc = .ok (.isub, 1)) (kk : ∀ v : Int32, v = a - b → RM p l e R s m args below meth c nL A G nc ns Q (pc + 1) ls (.int v :: st)) : RM p l e R s m args below meth c nL A G nc ns Q pc ls (.int b :: .int a :: st) :=
  fun H locs la hP hS hl => lv_isub hc.1.1 hc.1.2.1 hd (kk _ rfl H locs la hP hS hl)
theorem rm_imul (hc : CX p s m args meth c cc nL own ret D cy ad) {a b : Int32} (hd : decode cc pc = .ok (.imul, 1)) (kk : ∀ v : Int32, v = a * b → RM p l e R s m args below meth c nL A G nc ns Q (pc + 1) ls (.int v :: st)) : RM p l e R s m args below meth c nL A G nc ns Q pc ls (.int b :: .int a :: st) :=
  fun H locs la hP hS hl => lv_imul hc.1.1 hc.1.2.1 hd (kk _ rfl H locs la hP hS hl)
theorem rm_iand (hc : CX p s m args meth c cc nL own ret D cy ad) {a b : Int32} (hd : decode cc pc = .ok (.iand, 1)) (kk : ∀ v : Int32, v = a &&& b → RM p l e R s m args below meth c nL A G nc ns Q (pc + 1) ls (.int v :: st)) : RM p l e R s m args below meth c nL A G nc ns Q pc ls (.int b :: .int a :: st) :=
  fun H locs la hP hS hl => lv_iand hc.1.1 hc.1.2.1 hd (kk _ rfl H locs la hP hS hl)
theorem rm_ior (hc : CX p s m args meth c cc nL own ret D cy ad) {a b : Int32} (hd : decode cc pc = .ok (.ior, 1)) (kk : ∀ v : Int32, v = a ||| b → RM p l e R s m args below meth c nL A G nc ns Q (pc + 1) ls (.int v :: st)) : RM p l e R s m args below meth c nL A G nc ns Q pc ls (.int b :: .int a :: st) :=
  fun H locs la hP hS hl => lv_ior hc.1.1 hc.1.2.1 hd (kk _ rfl H locs la hP hS hl)
theorem rm_ixor (hc : CX p s m args meth c cc nL own ret D cy ad) {a b : Int32} (hd : decode cc pc = .ok (.ixor, 1)) (kk : ∀ v : Int32, v = a ^^^ b → RM p l e R s m args below meth c nL A G nc ns Q (pc + 1) ls (.int v :: st)) : RM p l e R s m args below meth c nL A G nc ns Q pc ls (.int b :: .int a :: st) :=
  fun H locs la hP hS hl => lv_ixor hc.1.1 hc.1.2.1 hd (kk _ rfl H locs la hP hS hl)
theorem rm_ishl (hc : CX p s m args meth c cc nL own ret D cy ad) {a b : Int32} (hd : decode cc pc = .ok (.ishl, 1)) (kk : ∀ v : Int32, v = a <<< (b &&& 31) → RM p l e R s m args below meth c nL A G nc ns Q (pc + 1) ls (.int v :: st)) : RM p l e R s m args below meth c nL A G nc ns Q pc ls (.int b :: .int a :: st) :=
  fun H locs la hP hS hl => lv_ishl hc.1.1 hc.1.2.1 hd (kk _ rfl H locs la hP hS hl)
theorem rm_ishr (hc : CX p s m args meth c cc nL own ret D cy ad) {a b : Int32} (hd : decode cc pc = .ok (.ishr, 1)) (kk : ∀ v : Int32, v = a >>> (b &&& 31) → RM p l e R s m args below meth c nL A G nc ns Q (pc + 1) ls (.int v :: st)) : RM p l e R s m args below meth c nL A G nc ns Q pc ls (.int b :: .int a :: st) :=
  fun H locs la hP hS hl => lv_ishr hc.1.1 hc.1.2.1 hd (kk _ rfl H locs la hP hS hl)
theorem rm_idiv (hc : CX p s m args meth c cc nL own ret D cy ad) {a b : Int32} (hd : decode cc pc = .ok (.idiv, 1)) (hne : ¬ b = 0) (kk : ∀ v : Int32, v = a / b → RM p l e R s m args below meth c nL A G nc ns Q (pc + 1) ls (.int v :: st)) : RM p l e R s m args below meth c nL A G nc ns Q pc ls (.int b :: .int a :: st) :=
  fun H locs la hP hS hl => lv_idiv hc.1.1 hc.1.2.1 hd hne (kk _ rfl H locs la hP hS hl)
theorem rm_irem (hc : CX p s m args meth c cc nL own ret D cy ad) {a b : Int32} (hd : decode cc pc = .ok (.irem, 1)) (hne : ¬ b = 0) (kk : ∀ v : Int32, v = a - a / b * b → RM p l e R s m args below meth c nL A G nc ns Q (pc + 1) ls (.int v :: st)) : RM p l e R s m args below meth c nL A G nc ns Q pc ls (.int b :: .int a :: st) :=
  fun H locs la hP hS hl => lv_irem hc.1.1 hc.1.2.1 hd hne (kk _ rfl H locs la hP hS hl)
theorem rm_ladd (hc : CX p s m args meth c cc nL own ret D cy ad) {a b : Int64} (hd : decode cc pc = .ok (.ladd, 1)) (kk : ∀ v : Int64, v = a + b → RM p l e R s m args below meth c nL A G nc ns Q (pc + 1) ls (.long v :: st)) : RM p l e R s m args below meth c nL A G nc ns Q pc ls (.long b :: .long a :: st) :=
  fun H locs la hP hS hl => lv_ladd hc.1.1 hc.1.2.1 hd (kk _ rfl H locs la hP hS hl)
theorem rm_lsub (hc : CX p s m args meth c cc nL own ret D cy ad) {a b : Int64} (hd : decode cc pc = .ok (.lsub, 1)) (kk : ∀ v : Int64, v = a - b → RM p l e R s m args below meth c nL A G nc ns Q (pc + 1) ls (.long v :: st)) : RM p l e R s m args below meth c nL A G nc ns Q pc ls (.long b :: .long a :: st) :=
  fun H locs la hP hS hl => lv_lsub hc.1.1 hc.1.2.1 hd (kk _ rfl H locs la hP hS hl)
theorem rm_lmul (hc : CX p s m args meth c cc nL own ret D cy ad) {a b : Int64} (hd : decode cc pc = .ok (.lmul, 1)) (kk : ∀ v : Int64, v = a * b → RM p l e R s m args below meth c nL A G nc ns Q (pc + 1) ls (.long v :: st)) : RM p l e R s m args below meth c nL A G nc ns Q pc ls (.long b :: .long a :: st) :=
  fun H locs la hP hS hl => lv_lmul hc.1.1 hc.1.2.1 hd (kk _ rfl H locs la hP hS hl)
theorem rm_lshl (hc : CX p s m args meth c cc nL own ret D cy ad) {a : Int64} {b : Int32} (hd : decode cc pc = .ok (.lshl, 1)) (kk : ∀ v : Int64, v = a <<< (b.toInt64 &&& 63) → RM p l e R s m args below meth c nL A G nc ns Q (pc + 1) ls (.long v :: st)) : RM p l e R s m args below meth c nL A G nc ns Q pc ls (.int b :: .long a :: st) :=
  fun H locs la hP hS hl => lv_lshl hc.1.1 hc.1.2.1 hd rfl (kk _ rfl H locs la hP hS hl)
theorem rm_i2l (hc : CX p s m args meth c cc nL own ret D cy ad) {a : Int32} (hd : decode cc pc = .ok (.i2l, 1)) (kk : ∀ v : Int64, v = a.toInt64 → RM p l e R s m args below meth c nL A G nc ns Q (pc + 1) ls (.long v :: st)) : RM p l e R s m args below meth c nL A G nc ns Q pc ls (.int a :: st) :=
  fun H locs la hP hS hl => lv_i2l hc.1.1 hc.1.2.1 hd rfl (kk _ rfl H locs la hP hS hl)
theorem rm_i2d (hc : CX p s m args meth c cc nL own ret D cy ad) {a : Int32} (hd : decode cc pc = .ok (.i2d, 1)) (kk : ∀ v : UInt64, v = FP.i2d a → RM p l e R s m args below meth c nL A G nc ns Q (pc + 1) ls (.double v :: st)) : RM p l e R s m args below meth c nL A G nc ns Q pc ls (.int a :: st) :=
  fun H locs la hP hS hl => lv_i2d hc.1.1 hc.1.2.1 hd (kk _ rfl H locs la hP hS hl)
theorem rm_d2l (hc : CX p s m args meth c cc nL own ret D cy ad) {a : UInt64} (hd : decode cc pc = .ok (.d2l, 1)) (kk : ∀ v : Int64, v = FP.d2l a → RM p l e R s m args below meth c nL A G nc ns Q (pc + 1) ls (.long v :: st)) : RM p l e R s m args below meth c nL A G nc ns Q pc ls (.double a :: st) :=
  fun H locs la hP hS hl => lv_d2l hc.1.1 hc.1.2.1 hd (kk _ rfl H locs la hP hS hl)
theorem rm_ddiv (hc : CX p s m args meth c cc nL own ret D cy ad) {a b : UInt64} (hd : decode cc pc = .ok (.ddiv, 1)) (hne : vf_n64 (FP.ddiv a b)) (kk : ∀ v : UInt64, v = FP.ddiv a b → RM p l e R s m args below meth c nL A G nc ns Q (pc + 1) ls (.double v :: st)) : RM p l e R s m args below meth c nL A G nc ns Q pc ls (.double b :: .double a :: st) :=
  fun H locs la hP hS hl => lv_ddiv hc.1.1 hc.1.2.1 hd hne (kk _ rfl H locs la hP hS hl)
theorem rm_dmul (hc : CX p s m args meth c cc nL own ret D cy ad) {a b : UInt64} (hd : decode cc pc = .ok (.dmul, 1)) (hne : vf_n64 (FP.dmul a b)) (kk : ∀ v : UInt64, v = FP.dmul a b → RM p l e R s m args below meth c nL A G nc ns Q (pc + 1) ls (.double v :: st)) : RM p l e R s m args below meth c nL A G nc ns Q pc ls (.double b :: .double a :: st) :=
  fun H locs la hP hS hl => lv_dmul hc.1.1 hc.1.2.1 hd hne (kk _ rfl H locs la hP hS hl)
theorem rm_dsub (hc : CX p s m args meth c cc nL own ret D cy ad) {a b : UInt64} (hd : decode cc pc = .ok (.dsub, 1)) (hne : vf_n64 (FP.dsub a b)) (kk : ∀ v : UInt64, v = FP.dsub a b → RM p l e R s m args below meth c nL A G nc ns Q (pc + 1) ls (.double v :: st)) : RM p l e R s m args below meth c nL A G nc ns Q pc ls (.double b :: .double a :: st) :=
  fun H locs la hP hS hl => lv_dsub hc.1.1 hc.1.2.1 hd hne (kk _ rfl H locs la hP hS hl)
theorem rm_dcmp (hc : CX p s m args meth c cc nL own ret D cy ad) {a b : UInt64} {op : CmpOp} (hd : decode cc pc = .ok (.dcmp op, 1)) (kk : ∀ v : Int32, v = Op.cmpValue (FP.dcmp a b) op → RM p l e R s m args below meth c nL A G nc ns Q (pc + 1) ls (.int v :: st)) : RM p l e R s m args below meth c nL A G nc ns Q pc ls (.double b :: .double a :: st) :=
  fun H locs la hP hS hl => lv_dcmp hc.1.1 hc.1.2.1 hd (kk _ rfl H locs la hP hS hl)
theorem rm_dup (hc : CX p s m args meth c cc nL own ret D cy ad) {a : Value} (hd : decode cc pc = .ok (.dup, 1)) (ha : a.category = 1) (kk : RM p l e R s m args below meth c nL A G nc ns Q (pc + 1) ls (a :: a :: st)) : RM p l e R s m args below meth c nL A G nc ns Q pc ls (a :: st) :=
  fun H locs la hP hS hl => lv_dup hc.1.1 hc.1.2.1 hd ha (kk H locs la hP hS hl)
theorem rm_pop (hc : CX p s m args meth c cc nL own ret D cy ad) {a : Value} (hd : decode cc pc = .ok (.pop, 1)) (ha : a.category = 1) (kk : RM p l e R s m args below meth c nL A G nc ns Q (pc + 1) ls st) : RM p l e R s m args below meth c nL A G nc ns Q pc ls (a :: st) :=
  fun H locs la hP hS hl => lv_pop hc.1.1 hc.1.2.1 hd ha (kk H locs la hP hS hl)
theorem rm_dup2 (hc : CX p s m args meth c cc nL own ret D cy ad) {a b : Value} (hd : decode cc pc = .ok (.dup2, 1)) (ha : a.category = 1) (hb : b.category = 1) (kk : RM p l e R s m args below meth c nL A G nc ns Q (pc + 1) ls (a :: b :: a :: b :: st)) : RM p l e R s m args below meth c nL A G nc ns Q pc ls (a :: b :: st) :=
  fun H locs la hP hS hl => lv_dup2_11 hc.1.1 hc.1.2.1 hd ha hb (kk H locs la hP hS hl)
theorem rm_dup_x1 (hc : CX p s m args meth c cc nL own ret D cy ad) {a b : Value} (hd : decode cc pc = .ok (.dup_x1, 1)) (ha : a.category = 1) (hb : b.category = 1) (kk : RM p l e R s m args below meth c nL A G nc ns Q (pc + 1) ls (a :: b :: a :: st)) : RM p l e R s m args below meth c nL A G nc ns Q pc ls (a :: b :: st) :=
  fun H locs la hP hS hl => lv_dup_x1 hc.1.1 hc.1.2.1 hd ha hb (kk H locs la hP hS hl)
theorem rm_if_eq (hc : CX p s m args meth c cc nL own ret D cy ad) {a : Int32} {off : Int} {tgt : Nat} (hd : decode cc pc = .ok (.ifCond .eq off, 3)) (ht : (pc : Int) + off = (tgt : Int)) (kt : a = 0 → RM p l e R s m args below meth c nL A G nc ns Q tgt ls st) (kf : ¬ a = 0 → RM p l e R s m args below meth c nL A G nc ns Q (pc + 3) ls st) : RM p l e R s m args below meth c nL A G nc ns Q pc ls (.int a :: st) :=
  fun H locs la hP hS hl => lv_if_eq hc.1.1 hc.1.2.1 hd ht (fun h => kt h H locs la hP hS hl) (fun h => kf h H locs la hP hS hl)
theorem rm_icmp_eq (hc : CX p s m args meth c cc nL own ret D cy ad) {a b : Int32} {off : Int} {tgt : Nat} (hd : decode cc pc = .ok (.if_icmp .eq off, 3)) (ht : (pc : Int) + off = (tgt : Int)) (kt : a = b → RM p l e R s m args below meth c nL A G nc ns Q tgt ls st) (kf : ¬ a = b → RM p l e R s m args below meth c nL A G nc ns Q (pc + 3) ls st) : RM p l e R s m args below meth c nL A G nc ns Q pc ls (.int b :: .int a :: st) :=
  fun H locs la hP hS hl => lv_icmp_eq hc.1.1 hc.1.2.1 hd ht (fun h => kt h H locs la hP hS hl) (fun h => kf h H locs la hP hS hl)
theorem rm_if_ne (hc : CX p s m args meth c cc nL own ret D cy ad) {a : Int32} {off : Int} {tgt : Nat} (hd : decode cc pc = .ok (.ifCond .ne off, 3)) (ht : (pc : Int) + off = (tgt : Int)) (kt : ¬ a = 0 → RM p l e R s m args below meth c nL A G nc ns Q tgt ls st) (kf : a = 0 → RM p l e R s m args below meth c nL A G nc ns Q (pc + 3) ls st) : RM p l e R s m args below meth c nL A G nc ns Q pc ls (.int a :: st) :=
  fun H locs la hP hS hl => lv_if_ne hc.1.1 hc.1.2.1 hd ht (fun h => kt h H locs la hP hS hl) (fun h => kf h H locs la hP hS hl)
theorem rm_icmp_ne (hc : CX p s m args meth c cc nL own ret D cy ad) {a b : Int32} {off : Int} {tgt : Nat} (hd : decode cc pc = .ok (.if_icmp .ne off, 3)) (ht : (pc : Int) + off = (tgt : Int)) (kt : ¬ a = b → RM p l e R s m args below meth c nL A G nc ns Q tgt ls st) (kf : a = b → RM p l e R s m args below meth c nL A G nc ns Q (pc + 3) ls st) : RM p l e R s m args below meth c nL A G nc ns Q pc ls (.int b :: .int a :: st) :=
  fun H locs la hP hS hl => lv_icmp_ne hc.1.1 hc.1.2.1 hd ht (fun h => kt h H locs la hP hS hl) (fun h => kf h H locs la hP hS hl)
theorem rm_if_lt (hc : CX p s m args meth c cc nL own ret D cy ad) {a : Int32} {off : Int} {tgt : Nat} (hd : decode cc pc = .ok (.ifCond .lt off, 3)) (ht : (pc : Int) + off = (tgt : Int)) (kt : a < 0 → RM p l e R s m args below meth c nL A G nc ns Q tgt ls st) (kf : ¬ a < 0 → RM p l e R s m args below meth c nL A G nc ns Q (pc + 3) ls st) : RM p l e R s m args below meth c nL A G nc ns Q pc ls (.int a :: st) :=
  fun H locs la hP hS hl => lv_if_lt hc.1.1 hc.1.2.1 hd ht (fun h => kt h H locs la hP hS hl) (fun h => kf h H locs la hP hS hl)
theorem rm_icmp_lt (hc : CX p s m args meth c cc nL own ret D cy ad) {a b : Int32} {off : Int} {tgt : Nat} (hd : decode cc pc = .ok (.if_icmp .lt off, 3)) (ht : (pc : Int) + off = (tgt : Int)) (kt : a < b → RM p l e R s m args below meth c nL A G nc ns Q tgt ls st) (kf : ¬ a < b → RM p l e R s m args below meth c nL A G nc ns Q (pc + 3) ls st) : RM p l e R s m args below meth c nL A G nc ns Q pc ls (.int b :: .int a :: st) :=
  fun H locs la hP hS hl => lv_icmp_lt hc.1.1 hc.1.2.1 hd ht (fun h => kt h H locs la hP hS hl) (fun h => kf h H locs la hP hS hl)
theorem rm_if_ge (hc : CX p s m args meth c cc nL own ret D cy ad) {a : Int32} {off : Int} {tgt : Nat} (hd : decode cc pc = .ok (.ifCond .ge off, 3)) (ht : (pc : Int) + off = (tgt : Int)) (kt : 0 ≤ a → RM p l e R s m args below meth c nL A G nc ns Q tgt ls st) (kf : ¬ 0 ≤ a → RM p l e R s m args below meth c nL A G nc ns Q (pc + 3) ls st) : RM p l e R s m args below meth c nL A G nc ns Q pc ls (.int a :: st) :=
  fun H locs la hP hS hl => lv_if_ge hc.1.1 hc.1.2.1 hd ht (fun h => kt h H locs la hP hS hl) (fun h => kf h H locs la hP hS hl)
theorem rm_icmp_ge (hc : CX p s m args meth c cc nL own ret D cy ad) {a b : Int32} {off : Int} {tgt : Nat} (hd : decode cc pc = .ok (.if_icmp .ge off, 3)) (ht : (pc : Int) + off = (tgt : Int)) (kt : b ≤ a → RM p l e R s m args below meth c nL A G nc ns Q tgt ls st) (kf : ¬ b ≤ a → RM p l e R s m args below meth c nL A G nc ns Q (pc + 3) ls st) : RM p l e R s m args below meth c nL A G nc ns Q pc ls (.int b :: .int a :: st) :=
  fun H locs la hP hS hl => lv_icmp_ge hc.1.1 hc.1.2.1 hd ht (fun h => kt h H locs la hP hS hl) (fun h => kf h H locs la hP hS hl)
theorem rm_if_gt (hc : CX p s m args meth c cc nL own ret D cy ad) {a : Int32} {off : Int} {tgt : Nat} (hd : decode cc pc = .ok (.ifCond .gt off, 3)) (ht : (pc : Int) + off = (tgt : Int)) (kt : 0 < a → RM p l e R s m args below meth c nL A G nc ns Q tgt ls st) (kf : ¬ 0 < a → RM p l e R s m args below meth c nL A G nc ns Q (pc + 3) ls st) : RM p l e R s m args below meth c nL A G nc ns Q pc ls (.int a :: st) :=
  fun H locs la hP hS hl => lv_if_gt hc.1.1 hc.1.2.1 hd ht (fun h => kt h H locs la hP hS hl) (fun h => kf h H locs la hP hS hl)
theorem rm_icmp_gt (hc : CX p s m args meth c cc nL own ret D cy ad) {a b : Int32} {off : Int} {tgt : Nat} (hd : decode cc pc = .ok (.if_icmp .gt off, 3)) (ht : (pc : Int) + off = (tgt : Int)) (kt : b < a → RM p l e R s m args below meth c nL A G nc ns Q tgt ls st) (kf : ¬ b < a → RM p l e R s m args below meth c nL A G nc ns Q (pc + 3) ls st) : RM p l e R s m args below meth c nL A G nc ns Q pc ls (.int b :: .int a :: st) :=
  fun H locs la hP hS hl => lv_icmp_gt hc.1.1 hc.1.2.1 hd ht (fun h => kt h H locs la hP hS hl) (fun h => kf h H locs la hP hS hl)
theorem rm_if_le (hc : CX p s m args meth c cc nL own ret D cy ad) {a : Int32} {off : Int} {tgt : Nat} (hd : decode cc pc = .ok (.ifCond .le off, 3)) (ht : (pc : Int) + off = (tgt : Int)) (kt : a ≤ 0 → RM p l e R s m args below meth c nL A G nc ns Q tgt ls st) (kf : ¬ a ≤ 0 → RM p l e R s m args below meth c nL A G nc ns Q (pc + 3) ls st) : RM p l e R s m args below meth c nL A G nc ns Q pc ls (.int a :: st) :=
  fun H locs la hP hS hl => lv_if_le hc.1.1 hc.1.2.1 hd ht (fun h => kt h H locs la hP hS hl) (fun h => kf h H locs la hP hS hl)
theorem rm_icmp_le (hc : CX p s m args meth c cc nL own ret D cy ad) {a b : Int32} {off : Int} {tgt : Nat} (hd : decode cc pc = .ok (.if_icmp .le off, 3)) (ht : (pc : Int) + off = (tgt : Int)) (kt : a ≤ b → RM p l e R s m args below meth c nL A G nc ns Q tgt ls st) (kf : ¬ a ≤ b → RM p l e R s m args below meth c nL A G nc ns Q (pc + 3) ls st) : RM p l e R s m args below meth c nL A G nc ns Q pc ls (.int b :: .int a :: st) :=
  fun H locs la hP hS hl => lv_icmp_le hc.1.1 hc.1.2.1 hd ht (fun h => kt h H locs la hP hS hl) (fun h => kf h H locs la hP hS hl)
theorem rm_goto (hc : CX p s m args meth c cc nL own ret D cy ad) {off : Int} {tgt : Nat} (hd : decode cc pc = .ok (.goto off, 3)) (ht : (pc : Int) + off = (tgt : Int)) (kk : RM p l e R s m args below meth c nL A G nc ns Q tgt ls st) : RM p l e R s m args below meth c nL A G nc ns Q pc ls st :=
  fun H locs la hP hS hl => lv_goto hc.1.1 hc.1.2.1 hd ht (kk H locs la hP hS hl)
theorem rm_tout (hc : CX p s m args meth c cc nL own ret D cy ad) {dflt lo hi : Int} {offs : Array Int} {len : Nat} {a : Int32} {tgt : Nat} (hd : decode cc pc = .ok (.tableswitch dflt lo hi offs, len)) (h : a.toInt < lo ∨ hi < a.toInt) (ht : (pc : Int) + dflt = (tgt : Int)) (kk : RM p l e R s m args below meth c nL A G nc ns Q tgt ls st) : RM p l e R s m args below meth c nL A G nc ns Q pc ls (.int a :: st) :=
  fun H locs la hP hS hl => lv_tableOut hc.1.1 hc.1.2.1 hd h ht (kk H locs la hP hS hl)
theorem rm_tin (hc : CX p s m args meth c cc nL own ret D cy ad) {dflt lo hi : Int} {offs : Array Int} {len : Nat} {a : Int32} {off : Int} {tgt : Nat} (hd : decode cc pc = .ok (.tableswitch dflt lo hi offs, len)) (h1 : ¬ a.toInt < lo) (h2 : ¬ hi < a.toInt) (ho : offs[(a.toInt - lo).toNat]? = some off) (ht : (pc : Int) + off = (tgt : Int)) (kk : RM p l e R s m args below meth c nL A G nc ns Q tgt ls st) : RM p l e R s m args below meth c nL A G nc ns Q pc ls (.int a :: st) :=
  fun H locs la hP hS hl => lv_tableIn hc.1.1 hc.1.2.1 hd h1 h2 ho ht (kk H locs la hP hS hl)
theorem rm_lkup (hc : CX p s m args meth c cc nL own ret D cy ad) {dflt : Int} {ps : Array (Int × Int)} {len : Nat} {a : Int32} {off : Int} {tgt : Nat} (hd : decode cc pc = .ok (.lookupswitch dflt ps, len)) (hp : (ps.toList.zip (ps.toList.drop 1)).all (fun (a, next) => a.1 < next.1) = true) (ho : Op.lookupswitch.offset ps.toList dflt a.toInt = off) (ht : (pc : Int) + off = (tgt : Int)) (kk : RM p l e R s m args below meth c nL A G nc ns Q tgt ls st) : RM p l e R s m args below meth c nL A G nc ns Q pc ls (.int a :: st) :=
  fun H locs la hP hS hl => lv_lookup hc.1.1 hc.1.2.1 hd hp ho ht (kk H locs la hP hS hl)
theorem rm_sub {ls' : List (Nat × Value)} (ks : List Nat) (hk : pk ls ks = ls') (kk : RM p l e R s m args below meth c nL A G nc ns Q pc ls' st) : RM p l e R s m args below meth c nL A G nc ns Q pc ls st :=
  fun H locs la hP hS hl => kk H locs la hP hS (has_mono hl (fun q hq => by rw [← hk] at hq; exact pk_mem hq))
theorem rm_mem {G' : Heap → Prop} (h : ∀ H, G H → G' H) (kk : RM p l e R s m args below meth c nL A  G' nc ns Q pc ls st) : RM p l e R s m args below meth c nL A G nc ns Q pc ls st :=
  fun H locs la hP hS hl => kk H locs la (h H hP) hS hl
end ROWS
end
section
section ROWS2
variable {p : Program} {l : Launch} {e : Env} {R : Room} {s : State} {m : MethodId} {args : Array Value} {below : List Frame} {meth : Method} {c : Code} {cc : ByteArray} {nL : Nat} {own : String} {ret : Option FieldType} {D : va_G} {cy : Nat → ClassId} {ad : Ads} {A : Nat → Prop} {G : Heap → Prop} {nc ns : Nat} {Q : State → Prop} {x : Mem} {pc : Nat} {ls : List (Nat × Value)} {st : List Value}
/-- a field, by its class's place in vwCl and its place in the class -/
def FL (own : String) (index ci f : Nat) : Prop := ∃ (C : String) (T : u_T) (N : Nat), vwCl[ci]? = some (C, T, N) ∧ f < N ∧ Cond.fieldLink own index (T f).1 (T f).2.1 (T f).2.2.1 ∈ TB
theorem tyTB : ∀ q ∈ vwCl, ∀ k, k < q.2.2 → (parseFieldDescriptor (q.2.1 k).2.2.1).isSome = true := by decide +kernel
theorem ty_of {q : vw_C} (h : q ∈ vwCl) : ∀ k, k < q.2.2 → parseFieldDescriptor (q.2.1 k).2.2.1 = some ((parseFieldDescriptor (q.2.1 k).2.2.1).getD .int) := fun k hk => by
  obtain ⟨t, ht⟩ := Option.isSome_iff_exists.mp (tyTB q h k hk)
  rw [ht]; rfl
def SO (cy : Nat → ClassId) (ad : Ads) (x y : Mem) (k c j : Nat) (e : va_E) : Prop := EE cy ad y k c j = e ∧ ∀ k' c' j', dm k' c' j' → (k', c', j') ≠ (k, c, j) → EE cy ad y k' c' j' = EE cy ad x k' c' j'
theorem so_up {cy : Nat → ClassId} {ad : Ads} {x : Mem} {k c j b n : Nat} {v : Int32} {e : va_E} (ho : ow b n = (k, c, j)) (he : EE cy ad (up x b n v) k c j = e) : SO cy ad x (up x b n v) k c j e :=
  ⟨he, fun k' c' j' hd hne => EE_up hd (fun h => hne (h.symm.trans ho))⟩
theorem GG_congr {D : va_G} {cy : Nat → ClassId} {ad : Ads} {x y : Mem} {H : Heap} (h : ∀ k c j, dm k c j → EE cy ad y k c j = EE cy ad x k c j) (hP : GG D cy ad x H) : GG D cy ad y H := by
  intro q0 q hq
  obtain ⟨i, h1, h2, rfl⟩ := wl_at hq
  obtain ⟨k, c, j⟩ := i
  rw [h k c j (mem_dm h2)]
  exact hP q0 _ (by unfold wl; rw [List.getElem?_map, h1]; rfl)
theorem rm_get (hc : CX p s m args meth c cc nL own ret D cy ad) {index ci f k c0 j : Nat} {fs : List Value} {v : Value} (hd : decode cc pc = .ok (.getfield index, 3)) (hf : FL own index ci f) (hm : dm k c0 j) (hE : EE cy ad x k c0 j = .inr (ci, fs)) (hv : fs[f]? = some v) (kk : RM p l e R s m args below meth c nL A (GG D cy ad x) nc ns Q (pc + 3) ls (v :: st)) : RM p l e R s m args below meth c nL A (GG D cy ad x) nc ns Q pc ls (.ref (ad k c0 j) :: st) := by
  intro H locs la hP hS hl
  obtain ⟨C, T, N, h1, h2, h3⟩ := hf
  obtain ⟨q0, hq, -⟩ := wl_get (cy := cy) (ad := ad) x hm
  rw [hE] at hq
  exact va_get (ci := ci) (T := T) (N := N) hc.1.1 hc.1.2.1 hc.1.2.2.2.2 (fwTB _ (List.mem_of_getElem? h1)) hc.1.2.2.2.1 hc.2.2.2.1 hP q0 hq h1 f h2 (hc.1.2.2.2.2 _ h3) (fun _ h => h) hv hd (kk H locs la hP hS hl)
theorem rm_geti (hc : CX p s m args meth c cc nL own ret D cy ad) {index ci f k c0 j : Nat} {fs : List Value} {w : Int32} (hd : decode cc pc = .ok (.getfield index, 3)) (hf : FL own index ci f) (hm : dm k c0 j) (hE : EE cy ad x k c0 j = .inr (ci, fs)) (hv : fs[f]? = some (.int w)) (kk : ∀ v : Int32, v = w → RM p l e R s m args below meth c nL A (GG D cy ad x) nc ns Q (pc + 3) ls (.int v :: st)) : RM p l e R s m args below meth c nL A (GG D cy ad x) nc ns Q pc ls (.ref (ad k c0 j) :: st) :=
  rm_get hc hd hf hm hE hv (kk _ rfl)
theorem rm_put (hc : CX p s m args meth c cc nL own ret D cy ad) {index ci f k c0 j : Nat} {fs : List Value} {v : Int32} {y : Mem} {ty : FieldType} (hd : decode cc pc = .ok (.putfield index, 3)) (hf : FL own index ci f) (hm : dm k c0 j) (hE : EE cy ad x k c0 j = .inr (ci, fs)) (hl2 : f < fs.length) (hT : ∀ q, vwCl[ci]? = some q → (q.2.1 f).2.2.2 = false ∧ parseFieldDescriptor (q.2.1 f).2.2.1 = some ty) (hn : narrow ty (.int v) = .int v) (hfit : fits ty (.int v) = true) (hs : SO cy ad x y k c0 j (.inr (ci, fs.set f (.int v)))) (kk : RM p l e R s m args below meth c nL (AA ad s.heap.size) (GG D cy ad y) nc ns Q (pc + 3) ls st) : RM p l e R s m args below meth c nL (AA ad s.heap.size) (GG D cy ad x) nc ns Q pc ls (.int v :: .ref (ad k c0 j) :: st) := by
  intro H locs la hP hS hl
  obtain ⟨C, T, N, h1, h2, h3⟩ := hf
  obtain ⟨q0, hq, hi⟩ := wl_get (cy := cy) (ad := ad) x hm
  rw [hE] at hq
  have hmem := List.mem_of_getElem? h1
  refine va_put (ci := ci) (T := T) (N := N) (A := AA ad s.heap.size) hc.1.1 hc.1.2.1 hc.1.2.2.2.2 (fwTB _ hmem) _ (ty_of hmem) (nmTB _ hmem) hc.1.2.2.2.1 hc.2.2.2.1 hP (wl_D hc.2.2.2.2.1 AA_in) hS q0 hq h1 f h2 (hc.1.2.2.2.2 _ h3) (fun _ h => h) (hT _ h1).1 (hT _ h1).2 hn hfit hl2 hd (fun H1 locs1 hP1 hD1 hS1 => ?_)
  have e := wl_set (cy := cy) (ad := ad) (x := x) (y := y) hi hs.2
  rw [hs.1] at e
  rw [e] at hP1
  exact kk H1 locs1 la hP1 hS1 hl
theorem rm_aald (hc : CX p s m args meth c cc nL own ret D cy ad) {k c0 j t0 n i : Nat} {cA : ClassId} {C : String} {f : Nat → Option Nat} {iv : Int32} {v : Value} (hd : decode cc pc = .ok (.aaload, 1)) (hm : dm k c0 j) (hE : EE cy ad x k c0 j = .inl (cA, n, .inr (.inr (.inr (.inr f))))) (ht : (tys cy)[t0]? = some (cA, .object C)) (hi : i < n) (hn : n < 2 ^ 31) (hiv : iv = nI i) (hv : va_rf (f i) = v) (kk : RM p l e R s m args below meth c nL A (GG D cy ad x) nc ns Q (pc + 1) ls (v :: st)) : RM p l e R s m args below meth c nL A (GG D cy ad x) nc ns Q pc ls (.int iv :: .ref (ad k c0 j) :: st) := by
  intro H locs la hP hS hl
  obtain ⟨q0, hq, -⟩ := wl_get (cy := cy) (ad := ad) x hm
  rw [hE] at hq
  subst hiv
  refine va_aldq hc.1.1 hc.1.2.1 hc.2.2.2.1 hP q0 t0 hq ht (vp_in_nI hi hn) hd ?_
  rw [nI_clamp (by omega), hv]
  exact kk H locs la hP hS hl
theorem rm_iald (hc : CX p s m args meth c cc nL own ret D cy ad) {k c0 j n i : Nat} {f : Nat → Int32} {iv : Int32} (hd : decode cc pc = .ok (.iaload, 1)) (hm : dm k c0 j) (hE : EE cy ad x k c0 j = .inl (cy 0, n, .inl f)) (hi : i < n) (hn : n < 2 ^ 31) (hiv : iv = nI i) (kk : ∀ v : Int32, v = f i → RM p l e R s m args below meth c nL A (GG D cy ad x) nc ns Q (pc + 1) ls (.int v :: st)) : RM p l e R s m args below meth c nL A (GG D cy ad x) nc ns Q pc ls (.int iv :: .ref (ad k c0 j) :: st) := by
  intro H locs la hP hS hl
  obtain ⟨q0, hq, -⟩ := wl_get (cy := cy) (ad := ad) x hm
  rw [hE] at hq
  subst hiv
  refine va_iald hc.1.1 hc.1.2.1 hc.2.2.2.1 hP q0 0 hq rfl (vp_in_nI hi hn) hd ?_
  rw [nI_clamp (by omega)]
  exact kk _ rfl H locs la hP hS hl
theorem rm_iast (hc : CX p s m args meth c cc nL own ret D cy ad) {k c0 j n i : Nat} {f : Nat → Int32} {iv v : Int32} {y : Mem} (hd : decode cc pc = .ok (.iastore, 1)) (hm : dm k c0 j) (hE : EE cy ad x k c0 j = .inl (cy 0, n, .inl f)) (hi : i < n) (hn : n < 2 ^ 31) (hiv : iv = nI i) (hs : SO cy ad x y k c0 j (.inl (cy 0, n, .inl (upd f i v)))) (kk : RM p l e R s m args below meth c nL (AA ad s.heap.size) (GG D cy ad y) nc ns Q (pc + 1) ls st) : RM p l e R s m args below meth c nL (AA ad s.heap.size) (GG D cy ad x) nc ns Q pc ls (.int v :: .int iv :: .ref (ad k c0 j) :: st) := by
  intro H locs la hP hS hl
  obtain ⟨q0, hq, hix⟩ := wl_get (cy := cy) (ad := ad) x hm
  rw [hE] at hq
  subst hiv
  refine va_iast (A := AA ad s.heap.size) hc.1.1 hc.1.2.1 hc.2.2.2.1 hP (wl_D hc.2.2.2.2.1 AA_in) hS q0 0 hq rfl (vp_in_nI hi hn) hd (fun H1 locs1 hP1 hD1 hS1 => ?_)
  rw [nI_clamp (by omega)] at hP1
  have e := wl_set (cy := cy) (ad := ad) (x := x) (y := y) hix hs.2
  rw [hs.1] at e
  rw [e] at hP1
  exact kk H1 locs1 la hP1 hS1 hl
theorem rm_alen (hc : CX p s m args meth c cc nL own ret D cy ad) {k c0 j n t0 : Nat} {cA : ClassId} {ty : FieldType} {z : vp_A} {v : Int32} (hd : decode cc pc = .ok (.arraylength, 1)) (hm : dm k c0 j) (hE : EE cy ad x k c0 j = .inl (cA, z)) (ht : (tys cy)[t0]? = some (cA, ty)) (hv : Int32.ofNat z.1 = v) (kk : RM p l e R s m args below meth c nL A (GG D cy ad x) nc ns Q (pc + 1) ls (.int v :: st)) : RM p l e R s m args below meth c nL A (GG D cy ad x) nc ns Q pc ls (.ref (ad k c0 j) :: st) := by
  intro H locs la hP hS hl
  obtain ⟨q0, hq, -⟩ := wl_get (cy := cy) (ad := ad) x hm
  rw [hE] at hq
  exact va_alen hc.1.1 hc.1.2.1 hc.2.2.2.1 hP q0 t0 hq ht hv hd (kk H locs la hP hS hl)
theorem rm_iret (hc : CX p s m args meth c cc nL own (some .int) D cy ad) {v : Int32} {post : Int32 → Mem → Prop} (hd : decode cc pc = .ok (.ireturn, 1)) (hp : post v x) : RM p l e R s m args below meth c nL (AA ad s.heap.size) (GG D cy ad x) 0 0 (QQ (Qi D cy ad post) below args s ad) pc ls [.int v] := by
  intro H locs la hP hS hl
  have hlk : meth.locks = false := hc.2.2.1
  exact W.iret hc.1.1 hc.1.2.1 hc.2.1 (fun t ht hW => ⟨⟨v, x, rfl, hp, by show va_P D vwCl (wl cy ad x) t.heap; rw [ht]; exact hP⟩, hS.F ht⟩) hS.2.2 hd
theorem rm_lret (hc : CX p s m args meth c cc nL own (some .long) D cy ad) {v : Int64} {post : Int64 → Mem → Prop} (hd : decode cc pc = .ok (.lreturn, 1)) (hp : post v x) : RM p l e R s m args below meth c nL (AA ad s.heap.size) (GG D cy ad x) 0 0 (QQ (Ql D cy ad post) below args s ad) pc ls [.long v] := by
  intro H locs la hP hS hl
  have hlk : meth.locks = false := hc.2.2.1
  exact W.lret hc.1.1 hc.1.2.1 hc.2.1 (fun t ht hW => ⟨⟨v, x, rfl, hp, by show va_P D vwCl (wl cy ad x) t.heap; rw [ht]; exact hP⟩, hS.F ht⟩) hS.2.2 hd
theorem rm_dret (hc : CX p s m args meth c cc nL own (some .double) D cy ad) {v : UInt64} {post : UInt64 → Mem → Prop} (hd : decode cc pc = .ok (.dreturn, 1)) (hp : post v x) : RM p l e R s m args below meth c nL (AA ad s.heap.size) (GG D cy ad x) 0 0 (QQ (Qd D cy ad post) below args s ad) pc ls [.double v] := by
  intro H locs la hP hS hl
  have hlk : meth.locks = false := hc.2.2.1
  exact W.dret hc.1.1 hc.1.2.1 hc.2.1 (fun t ht hW => ⟨⟨v, x, rfl, hp, by show va_P D vwCl (wl cy ad x) t.heap; rw [ht]; exact hP⟩, hS.F ht⟩) hS.2.2 hd
theorem rm_zret (hc : CX p s m args meth c cc nL own (some .boolean) D cy ad) {v : Int32} {post : Int32 → Mem → Prop} (hd : decode cc pc = .ok (.ireturn, 1)) (hn : narrow .boolean (.int v) = .int v) (hp : post v x) : RM p l e R s m args below meth c nL (AA ad s.heap.size) (GG D cy ad x) 0 0 (QQ (Qi D cy ad post) below args s ad) pc ls [.int v] := by
  intro H locs la hP hS hl
  have hlk : meth.locks = false := hc.2.2.1
  exact W.zret hc.1.1 hc.1.2.1 hc.2.1 hn (fun t ht hW => ⟨⟨v, x, rfl, hp, by show va_P D vwCl (wl cy ad x) t.heap; rw [ht]; exact hP⟩, hS.F ht⟩) hS.2.2 hd
theorem rm_vret (hc : CX p s m args meth c cc nL own none D cy ad) {post : Mem → Prop} (hd : decode cc pc = .ok (.return_, 1)) (hp : post x) : RM p l e R s m args below meth c nL (AA ad s.heap.size) (GG D cy ad x) 0 0 (QQ (Qv D cy ad post) below args s ad) pc ls [] := by
  intro H locs la hP hS hl
  have hlk : meth.locks = false := hc.2.2.1
  exact W.vret hc.1.1 hc.1.2.1 hc.2.1 (fun t ht hW => ⟨⟨x, rfl, hp, by show va_P D vwCl (wl cy ad x) t.heap; rw [ht]; exact hP⟩, hS.F ht⟩) hS.2.2 hd
/-- a method that is called by the entry 'index' of own's file -/
def ML (own : String) (index : Nat) (y : MethodName) (bytes : ByteArray) (maxL : Nat) (rt : Option FieldType) (n : Nat) : Prop := Cond.methodLink own index y ∈ TB ∧ Cond.initialized y.cls ∈ TB ∧ Cond.code y bytes maxL rt ∈ TB ∧ (y.cls ≠ "java/lang/invoke/MethodHandle" ∧ y.cls ≠ "java/lang/invoke/VarHandle" ∧ (parseMethodDescriptor y.desc).map (fun d => d.parameters.length) = some n)
def MV (own : String) (index : Nat) (y : MethodName) (bytes : ByteArray) (maxL : Nat) (rt : Option FieldType) (n : Nat) : Prop := ML own index y bytes maxL rt n ∧ Cond.instanceMethod y ∈ TB ∧ Cond.selects y.cls y y ∈ TB
def MS (own : String) (index : Nat) (y : MethodName) (bytes : ByteArray) (maxL : Nat) (rt : Option FieldType) (n : Nat) : Prop := ML own index y bytes maxL rt n ∧ Cond.static y ∈ TB
def MN (own : String) (index : Nat) (y : MethodName) (host : String) (bytes : ByteArray) (maxL : Nat) (rt : Option FieldType) (n : Nat) : Prop := ((own, index, y, host) ∈ nestL ∧ Cond.initialized y.cls ∈ TB ∧ Cond.code y bytes maxL rt ∈ TB ∧ (y.cls ≠ "java/lang/invoke/MethodHandle" ∧ y.cls ≠ "java/lang/invoke/VarHandle" ∧ (parseMethodDescriptor y.desc).map (fun d => d.parameters.length) = some n)) ∧ Cond.static y ∈ TB
def RmOk (rm R : Room) (maxL : Nat) : Prop := (rm.cells = 0 ∧ rm.slots = 0) ∧ rm.frames + 1 ≤ R.frames ∧ 8 + (maxL + 11) + rm.locals ≤ R.locals
theorem rm_calliV (hc : CX p s m args meth c cc nL own ret D cy ad) {y0 : MethodName} {bytes : ByteArray} {maxL n : Nat} {rt : Option FieldType} {rm : Room} {index : Nat} {As rest : List Value} {post : Int32 → Mem → Prop} {k c0 j ci N : Nat} {T : u_T} {fs : List Value} (hd : decode cc pc = .ok (.invokevirtual index, 3)) (hC : Cti l y0 bytes maxL rt rm D cy ad (.ref (ad k c0 j) :: As) x post) (hL : MV own index y0 bytes maxL rt n) (hm : dm k c0 j) (hE : EE cy ad x k c0 j = .inr (ci, fs)) (hcl : vwCl[ci]? = some (y0.cls, T, N)) (hn : As.length = n) (hst : st = As.reverse ++ .ref (ad k c0 j) :: rest) (hw : (rest.map fun v => v.category).sum ≤ 8) (hR : RmOk rm R maxL) (hnc : nc ≤ R.cells ∧ ns ≤ R.slots) (kk : ∀ (r : Int32) (y : Mem), post r y → RM p l e R s m args below meth c nL (AA ad s.heap.size) (GG D cy ad y) nc ns Q (pc + 3) ls (.int r :: rest)) : RM p l e R s m args below meth c nL (AA ad s.heap.size) (GG D cy ad x) nc ns Q pc ls st := by
  intro H locs la hP hS hl
  subst hst
  have hF : ∀ q, AA ad H.size q → AA ad s.heap.size q := fun q h => h.elim Or.inl (fun h => Or.inr (Nat.le_trans hS.1 h))
  obtain ⟨q0, hq, -⟩ := wl_get (cy := cy) (ad := ad) x hm
  rw [hE] at hq
  have cw : CallW R s args own y0.cls index y0 bytes maxL rt (.code y0 bytes maxL rt :: TB) rm 0 0 n := ⟨callB_of n hc.1.2.2.2.2 (goodTB hL.1.2.2.1) rfl hR.1.1 hR.1.2 (hc.1.2.2.2.2 _ hL.1.2.1) (hc.1.2.2.2.2 _ hL.1.1) hL.1.2.2.2 hR.2, hc.1.2.2.2.2 _ hL.2.1, hc.1.2.2.2.2 _ hL.2.2⟩
  exact va_calli (va_runV (As := As) (rest := rest) hc.1 (hC H.size) cw ⟨fun a U g mk q => by obtain ⟨q0, q1, qP, qK, qN⟩ := q; exact ⟨q0, q1, qP, va_K.moved (u := U) (U := U.calling g mk a) (Vm.Alike.refl U.vm) qK, NW.same (u := U) (U := U.calling g mk a) rfl qN⟩, va_recv hc.2.2.2.1 hP hcl hq, fun U hU hW => ⟨rfl, by rw [hU], by rw [hU]; exact hP, va_K.moved hW.alike hc.2.2.2.1, hc.2.2.2.2.2.warm hW⟩⟩ rfl hn hl.1 rfl (lv_room hw) hd ⟨hnc.1, hnc.2⟩) (hS) (fun q _ h => hF q h) hF (fun r u t H1 locs1 ht hvm hw hB hz1 hk1 hS1 => kk r u hw H1 locs1 la (by rw [← ht]; exact hB) hS1 hl)
theorem rm_calliS (hc : CX p s m args meth c cc nL own ret D cy ad) {y0 : MethodName} {bytes : ByteArray} {maxL n : Nat} {rt : Option FieldType} {rm : Room} {index : Nat} {As rest : List Value} {post : Int32 → Mem → Prop} (hd : decode cc pc = .ok (.invokestatic index, 3)) (hC : Cti l y0 bytes maxL rt rm D cy ad As x post) (hL : MS own index y0 bytes maxL rt n) (hn : As.length = n) (hst : st = As.reverse ++ rest) (hw : (rest.map fun v => v.category).sum ≤ 8) (hR : RmOk rm R maxL) (hnc : nc ≤ R.cells ∧ ns ≤ R.slots) (kk : ∀ (r : Int32) (y : Mem), post r y → RM p l e R s m args below meth c nL (AA ad s.heap.size) (GG D cy ad y) nc ns Q (pc + 3) ls (.int r :: rest)) : RM p l e R s m args below meth c nL (AA ad s.heap.size) (GG D cy ad x) nc ns Q pc ls st := by
  intro H locs la hP hS hl
  subst hst
  have hF : ∀ q, AA ad H.size q → AA ad s.heap.size q := fun q h => h.elim Or.inl (fun h => Or.inr (Nat.le_trans hS.1 h))
  exact va_calli (va_runS (As := As) (rest := rest) hc.1 (hC H.size) ⟨callB_of n hc.1.2.2.2.2 (goodTB hL.1.2.2.1) rfl hR.1.1 hR.1.2 (hc.1.2.2.2.2 _ hL.1.2.1) (hc.1.2.2.2.2 _ hL.1.1) hL.1.2.2.2 hR.2, hc.1.2.2.2.2 _ hL.2⟩ ⟨fun a U g mk q => by obtain ⟨q0, q1, qP, qK, qN⟩ := q; exact ⟨q0, q1, qP, va_K.moved (u := U) (U := U.calling g mk a) (Vm.Alike.refl U.vm) qK, NW.same (u := U) (U := U.calling g mk a) rfl qN⟩, fun U hU hW => ⟨rfl, by rw [hU], by rw [hU]; exact hP, va_K.moved hW.alike hc.2.2.2.1, hc.2.2.2.2.2.warm hW⟩⟩ rfl hn hl.1 rfl (lv_room hw) hd ⟨hnc.1, hnc.2⟩) (hS) (fun q _ h => hF q h) hF (fun r u t H1 locs1 ht hvm hw hB hz1 hk1 hS1 => kk r u hw H1 locs1 la (by rw [← ht]; exact hB) hS1 hl)
theorem rm_calliN (hc : CX p s m args meth c cc nL own ret D cy ad) {y0 : MethodName} {bytes : ByteArray} {maxL n : Nat} {rt : Option FieldType} {rm : Room} {index : Nat} {As rest : List Value} {post : Int32 → Mem → Prop} {host : String} (hd : decode cc pc = .ok (.invokestatic index, 3)) (hC : Cti l y0 bytes maxL rt rm D cy ad As x post) (hL : MN own index y0 host bytes maxL rt n) (hn : As.length = n) (hst : st = As.reverse ++ rest) (hw : (rest.map fun v => v.category).sum ≤ 8) (hR : RmOk rm R maxL) (hnc : nc ≤ R.cells ∧ ns ≤ R.slots) (kk : ∀ (r : Int32) (y : Mem), post r y → RM p l e R s m args below meth c nL (AA ad s.heap.size) (GG D cy ad y) nc ns Q (pc + 3) ls (.int r :: rest)) : RM p l e R s m args below meth c nL (AA ad s.heap.size) (GG D cy ad x) nc ns Q pc ls st := by
  intro H locs la hP hS hl
  subst hst
  have hF : ∀ q, AA ad H.size q → AA ad s.heap.size q := fun q h => h.elim Or.inl (fun h => Or.inr (Nat.le_trans hS.1 h))
  exact va_calli (va_runSN (As := As) (rest := rest) hc.1 (hC H.size) ⟨va_cnB n hc.1.2.2.2.2 (goodTB hL.1.2.2.1) rfl hR.1.1 hR.1.2 (hc.2.2.2.2.2 _ hL.1.1) (hc.1.2.2.2.2 _ hL.1.2.1) hL.1.2.2.2 hR.2, hc.1.2.2.2.2 _ hL.2, trivial⟩ ⟨fun a U g mk q => by obtain ⟨q0, q1, qP, qK, qN⟩ := q; exact ⟨q0, q1, qP, va_K.moved (u := U) (U := U.calling g mk a) (Vm.Alike.refl U.vm) qK, NW.same (u := U) (U := U.calling g mk a) rfl qN⟩, fun U hU hW => ⟨rfl, by rw [hU], by rw [hU]; exact hP, va_K.moved hW.alike hc.2.2.2.1, hc.2.2.2.2.2.warm hW⟩⟩ rfl hn hl.1 rfl (lv_room hw) hd ⟨hnc.1, hnc.2⟩) (hS) (fun q _ h => hF q h) hF (fun r u t H1 locs1 ht hvm hw hB hz1 hk1 hS1 => kk r u hw H1 locs1 la (by rw [← ht]; exact hB) hS1 hl)
theorem rm_calllV (hc : CX p s m args meth c cc nL own ret D cy ad) {y0 : MethodName} {bytes : ByteArray} {maxL n : Nat} {rt : Option FieldType} {rm : Room} {index : Nat} {As rest : List Value} {post : Int64 → Mem → Prop} {k c0 j ci N : Nat} {T : u_T} {fs : List Value} (hd : decode cc pc = .ok (.invokevirtual index, 3)) (hC : Ctl l y0 bytes maxL rt rm D cy ad (.ref (ad k c0 j) :: As) x post) (hL : MV own index y0 bytes maxL rt n) (hm : dm k c0 j) (hE : EE cy ad x k c0 j = .inr (ci, fs)) (hcl : vwCl[ci]? = some (y0.cls, T, N)) (hn : As.length = n) (hst : st = As.reverse ++ .ref (ad k c0 j) :: rest) (hw : (rest.map fun v => v.category).sum ≤ 8) (hR : RmOk rm R maxL) (hnc : nc ≤ R.cells ∧ ns ≤ R.slots) (kk : ∀ (r : Int64) (y : Mem), post r y → RM p l e R s m args below meth c nL (AA ad s.heap.size) (GG D cy ad y) nc ns Q (pc + 3) ls (.long r :: rest)) : RM p l e R s m args below meth c nL (AA ad s.heap.size) (GG D cy ad x) nc ns Q pc ls st := by
  intro H locs la hP hS hl
  subst hst
  have hF : ∀ q, AA ad H.size q → AA ad s.heap.size q := fun q h => h.elim Or.inl (fun h => Or.inr (Nat.le_trans hS.1 h))
  obtain ⟨q0, hq, -⟩ := wl_get (cy := cy) (ad := ad) x hm
  rw [hE] at hq
  have cw : CallW R s args own y0.cls index y0 bytes maxL rt (.code y0 bytes maxL rt :: TB) rm 0 0 n := ⟨callB_of n hc.1.2.2.2.2 (goodTB hL.1.2.2.1) rfl hR.1.1 hR.1.2 (hc.1.2.2.2.2 _ hL.1.2.1) (hc.1.2.2.2.2 _ hL.1.1) hL.1.2.2.2 hR.2, hc.1.2.2.2.2 _ hL.2.1, hc.1.2.2.2.2 _ hL.2.2⟩
  exact va_calll (va_runV (As := As) (rest := rest) hc.1 (hC H.size) cw ⟨fun a U g mk q => by obtain ⟨q0, q1, qP, qK, qN⟩ := q; exact ⟨q0, q1, qP, va_K.moved (u := U) (U := U.calling g mk a) (Vm.Alike.refl U.vm) qK, NW.same (u := U) (U := U.calling g mk a) rfl qN⟩, va_recv hc.2.2.2.1 hP hcl hq, fun U hU hW => ⟨rfl, by rw [hU], by rw [hU]; exact hP, va_K.moved hW.alike hc.2.2.2.1, hc.2.2.2.2.2.warm hW⟩⟩ rfl hn hl.1 rfl (lv_room hw) hd ⟨hnc.1, hnc.2⟩) (hS) (fun q _ h => hF q h) hF (fun r u t H1 locs1 ht hvm hw hB hz1 hk1 hS1 => kk r u hw H1 locs1 la (by rw [← ht]; exact hB) hS1 hl)
theorem rm_calllS (hc : CX p s m args meth c cc nL own ret D cy ad) {y0 : MethodName} {bytes : ByteArray} {maxL n : Nat} {rt : Option FieldType} {rm : Room} {index : Nat} {As rest : List Value} {post : Int64 → Mem → Prop} (hd : decode cc pc = .ok (.invokestatic index, 3)) (hC : Ctl l y0 bytes maxL rt rm D cy ad As x post) (hL : MS own index y0 bytes maxL rt n) (hn : As.length = n) (hst : st = As.reverse ++ rest) (hw : (rest.map fun v => v.category).sum ≤ 8) (hR : RmOk rm R maxL) (hnc : nc ≤ R.cells ∧ ns ≤ R.slots) (kk : ∀ (r : Int64) (y : Mem), post r y → RM p l e R s m args below meth c nL (AA ad s.heap.size) (GG D cy ad y) nc ns Q (pc + 3) ls (.long r :: rest)) : RM p l e R s m args below meth c nL (AA ad s.heap.size) (GG D cy ad x) nc ns Q pc ls st := by
  intro H locs la hP hS hl
  subst hst
  have hF : ∀ q, AA ad H.size q → AA ad s.heap.size q := fun q h => h.elim Or.inl (fun h => Or.inr (Nat.le_trans hS.1 h))
  exact va_calll (va_runS (As := As) (rest := rest) hc.1 (hC H.size) ⟨callB_of n hc.1.2.2.2.2 (goodTB hL.1.2.2.1) rfl hR.1.1 hR.1.2 (hc.1.2.2.2.2 _ hL.1.2.1) (hc.1.2.2.2.2 _ hL.1.1) hL.1.2.2.2 hR.2, hc.1.2.2.2.2 _ hL.2⟩ ⟨fun a U g mk q => by obtain ⟨q0, q1, qP, qK, qN⟩ := q; exact ⟨q0, q1, qP, va_K.moved (u := U) (U := U.calling g mk a) (Vm.Alike.refl U.vm) qK, NW.same (u := U) (U := U.calling g mk a) rfl qN⟩, fun U hU hW => ⟨rfl, by rw [hU], by rw [hU]; exact hP, va_K.moved hW.alike hc.2.2.2.1, hc.2.2.2.2.2.warm hW⟩⟩ rfl hn hl.1 rfl (lv_room hw) hd ⟨hnc.1, hnc.2⟩) (hS) (fun q _ h => hF q h) hF (fun r u t H1 locs1 ht hvm hw hB hz1 hk1 hS1 => kk r u hw H1 locs1 la (by rw [← ht]; exact hB) hS1 hl)
theorem rm_calldV (hc : CX p s m args meth c cc nL own ret D cy ad) {y0 : MethodName} {bytes : ByteArray} {maxL n : Nat} {rt : Option FieldType} {rm : Room} {index : Nat} {As rest : List Value} {post : UInt64 → Mem → Prop} {k c0 j ci N : Nat} {T : u_T} {fs : List Value} (hd : decode cc pc = .ok (.invokevirtual index, 3)) (hC : Ctd l y0 bytes maxL rt rm D cy ad (.ref (ad k c0 j) :: As) x post) (hL : MV own index y0 bytes maxL rt n) (hm : dm k c0 j) (hE : EE cy ad x k c0 j = .inr (ci, fs)) (hcl : vwCl[ci]? = some (y0.cls, T, N)) (hn : As.length = n) (hst : st = As.reverse ++ .ref (ad k c0 j) :: rest) (hw : (rest.map fun v => v.category).sum ≤ 8) (hR : RmOk rm R maxL) (hnc : nc ≤ R.cells ∧ ns ≤ R.slots) (kk : ∀ (r : UInt64) (y : Mem), post r y → RM p l e R s m args below meth c nL (AA ad s.heap.size) (GG D cy ad y) nc ns Q (pc + 3) ls (.double r :: rest)) : RM p l e R s m args below meth c nL (AA ad s.heap.size) (GG D cy ad x) nc ns Q pc ls st := by
  intro H locs la hP hS hl
  subst hst
  have hF : ∀ q, AA ad H.size q → AA ad s.heap.size q := fun q h => h.elim Or.inl (fun h => Or.inr (Nat.le_trans hS.1 h))
  obtain ⟨q0, hq, -⟩ := wl_get (cy := cy) (ad := ad) x hm
  rw [hE] at hq
  have cw : CallW R s args own y0.cls index y0 bytes maxL rt (.code y0 bytes maxL rt :: TB) rm 0 0 n := ⟨callB_of n hc.1.2.2.2.2 (goodTB hL.1.2.2.1) rfl hR.1.1 hR.1.2 (hc.1.2.2.2.2 _ hL.1.2.1) (hc.1.2.2.2.2 _ hL.1.1) hL.1.2.2.2 hR.2, hc.1.2.2.2.2 _ hL.2.1, hc.1.2.2.2.2 _ hL.2.2⟩
  exact va_calld (va_runV (As := As) (rest := rest) hc.1 (hC H.size) cw ⟨fun a U g mk q => by obtain ⟨q0, q1, qP, qK, qN⟩ := q; exact ⟨q0, q1, qP, va_K.moved (u := U) (U := U.calling g mk a) (Vm.Alike.refl U.vm) qK, NW.same (u := U) (U := U.calling g mk a) rfl qN⟩, va_recv hc.2.2.2.1 hP hcl hq, fun U hU hW => ⟨rfl, by rw [hU], by rw [hU]; exact hP, va_K.moved hW.alike hc.2.2.2.1, hc.2.2.2.2.2.warm hW⟩⟩ rfl hn hl.1 rfl (lv_room hw) hd ⟨hnc.1, hnc.2⟩) (hS) (fun q _ h => hF q h) hF (fun r u t H1 locs1 ht hvm hw hB hz1 hk1 hS1 => kk r u hw H1 locs1 la (by rw [← ht]; exact hB) hS1 hl)
theorem rm_calldS (hc : CX p s m args meth c cc nL own ret D cy ad) {y0 : MethodName} {bytes : ByteArray} {maxL n : Nat} {rt : Option FieldType} {rm : Room} {index : Nat} {As rest : List Value} {post : UInt64 → Mem → Prop} (hd : decode cc pc = .ok (.invokestatic index, 3)) (hC : Ctd l y0 bytes maxL rt rm D cy ad As x post) (hL : MS own index y0 bytes maxL rt n) (hn : As.length = n) (hst : st = As.reverse ++ rest) (hw : (rest.map fun v => v.category).sum ≤ 8) (hR : RmOk rm R maxL) (hnc : nc ≤ R.cells ∧ ns ≤ R.slots) (kk : ∀ (r : UInt64) (y : Mem), post r y → RM p l e R s m args below meth c nL (AA ad s.heap.size) (GG D cy ad y) nc ns Q (pc + 3) ls (.double r :: rest)) : RM p l e R s m args below meth c nL (AA ad s.heap.size) (GG D cy ad x) nc ns Q pc ls st := by
  intro H locs la hP hS hl
  subst hst
  have hF : ∀ q, AA ad H.size q → AA ad s.heap.size q := fun q h => h.elim Or.inl (fun h => Or.inr (Nat.le_trans hS.1 h))
  exact va_calld (va_runS (As := As) (rest := rest) hc.1 (hC H.size) ⟨callB_of n hc.1.2.2.2.2 (goodTB hL.1.2.2.1) rfl hR.1.1 hR.1.2 (hc.1.2.2.2.2 _ hL.1.2.1) (hc.1.2.2.2.2 _ hL.1.1) hL.1.2.2.2 hR.2, hc.1.2.2.2.2 _ hL.2⟩ ⟨fun a U g mk q => by obtain ⟨q0, q1, qP, qK, qN⟩ := q; exact ⟨q0, q1, qP, va_K.moved (u := U) (U := U.calling g mk a) (Vm.Alike.refl U.vm) qK, NW.same (u := U) (U := U.calling g mk a) rfl qN⟩, fun U hU hW => ⟨rfl, by rw [hU], by rw [hU]; exact hP, va_K.moved hW.alike hc.2.2.2.1, hc.2.2.2.2.2.warm hW⟩⟩ rfl hn hl.1 rfl (lv_room hw) hd ⟨hnc.1, hnc.2⟩) (hS) (fun q _ h => hF q h) hF (fun r u t H1 locs1 ht hvm hw hB hz1 hk1 hS1 => kk r u hw H1 locs1 la (by rw [← ht]; exact hB) hS1 hl)
theorem rm_callvV (hc : CX p s m args meth c cc nL own ret D cy ad) {y0 : MethodName} {bytes : ByteArray} {maxL n : Nat} {rt : Option FieldType} {rm : Room} {index : Nat} {As rest : List Value} {post : Mem → Prop} {k c0 j ci N : Nat} {T : u_T} {fs : List Value} (hd : decode cc pc = .ok (.invokevirtual index, 3)) (hC : Ctv l y0 bytes maxL rt rm D cy ad (.ref (ad k c0 j) :: As) x post) (hL : MV own index y0 bytes maxL rt n) (hm : dm k c0 j) (hE : EE cy ad x k c0 j = .inr (ci, fs)) (hcl : vwCl[ci]? = some (y0.cls, T, N)) (hn : As.length = n) (hst : st = As.reverse ++ .ref (ad k c0 j) :: rest) (hw : (rest.map fun v => v.category).sum ≤ 8) (hR : RmOk rm R maxL) (hnc : nc ≤ R.cells ∧ ns ≤ R.slots) (kk : ∀ (y : Mem), post y → RM p l e R s m args below meth c nL (AA ad s.heap.size) (GG D cy ad y) nc ns Q (pc + 3) ls rest) : RM p l e R s m args below meth c nL (AA ad s.heap.size) (GG D cy ad x) nc ns Q pc ls st := by
  intro H locs la hP hS hl
  subst hst
  have hF : ∀ q, AA ad H.size q → AA ad s.heap.size q := fun q h => h.elim Or.inl (fun h => Or.inr (Nat.le_trans hS.1 h))
  obtain ⟨q0, hq, -⟩ := wl_get (cy := cy) (ad := ad) x hm
  rw [hE] at hq
  have cw : CallW R s args own y0.cls index y0 bytes maxL rt (.code y0 bytes maxL rt :: TB) rm 0 0 n := ⟨callB_of n hc.1.2.2.2.2 (goodTB hL.1.2.2.1) rfl hR.1.1 hR.1.2 (hc.1.2.2.2.2 _ hL.1.2.1) (hc.1.2.2.2.2 _ hL.1.1) hL.1.2.2.2 hR.2, hc.1.2.2.2.2 _ hL.2.1, hc.1.2.2.2.2 _ hL.2.2⟩
  exact va_callv (va_runV (As := As) (rest := rest) hc.1 (hC H.size) cw ⟨fun a U g mk q => by obtain ⟨q0, q1, qP, qK, qN⟩ := q; exact ⟨q0, q1, qP, va_K.moved (u := U) (U := U.calling g mk a) (Vm.Alike.refl U.vm) qK, NW.same (u := U) (U := U.calling g mk a) rfl qN⟩, va_recv hc.2.2.2.1 hP hcl hq, fun U hU hW => ⟨rfl, by rw [hU], by rw [hU]; exact hP, va_K.moved hW.alike hc.2.2.2.1, hc.2.2.2.2.2.warm hW⟩⟩ rfl hn hl.1 rfl (lv_room hw) hd ⟨hnc.1, hnc.2⟩) (hS) (fun q _ h => hF q h) hF (fun u t H1 locs1 ht hvm hw hB hz1 hk1 hS1 => kk u hw H1 locs1 la (by rw [← ht]; exact hB) hS1 hl)
theorem rm_callvS (hc : CX p s m args meth c cc nL own ret D cy ad) {y0 : MethodName} {bytes : ByteArray} {maxL n : Nat} {rt : Option FieldType} {rm : Room} {index : Nat} {As rest : List Value} {post : Mem → Prop} (hd : decode cc pc = .ok (.invokestatic index, 3)) (hC : Ctv l y0 bytes maxL rt rm D cy ad As x post) (hL : MS own index y0 bytes maxL rt n) (hn : As.length = n) (hst : st = As.reverse ++ rest) (hw : (rest.map fun v => v.category).sum ≤ 8) (hR : RmOk rm R maxL) (hnc : nc ≤ R.cells ∧ ns ≤ R.slots) (kk : ∀ (y : Mem), post y → RM p l e R s m args below meth c nL (AA ad s.heap.size) (GG D cy ad y) nc ns Q (pc + 3) ls rest) : RM p l e R s m args below meth c nL (AA ad s.heap.size) (GG D cy ad x) nc ns Q pc ls st := by
  intro H locs la hP hS hl
  subst hst
  have hF : ∀ q, AA ad H.size q → AA ad s.heap.size q := fun q h => h.elim Or.inl (fun h => Or.inr (Nat.le_trans hS.1 h))
  exact va_callv (va_runS (As := As) (rest := rest) hc.1 (hC H.size) ⟨callB_of n hc.1.2.2.2.2 (goodTB hL.1.2.2.1) rfl hR.1.1 hR.1.2 (hc.1.2.2.2.2 _ hL.1.2.1) (hc.1.2.2.2.2 _ hL.1.1) hL.1.2.2.2 hR.2, hc.1.2.2.2.2 _ hL.2⟩ ⟨fun a U g mk q => by obtain ⟨q0, q1, qP, qK, qN⟩ := q; exact ⟨q0, q1, qP, va_K.moved (u := U) (U := U.calling g mk a) (Vm.Alike.refl U.vm) qK, NW.same (u := U) (U := U.calling g mk a) rfl qN⟩, fun U hU hW => ⟨rfl, by rw [hU], by rw [hU]; exact hP, va_K.moved hW.alike hc.2.2.2.1, hc.2.2.2.2.2.warm hW⟩⟩ rfl hn hl.1 rfl (lv_room hw) hd ⟨hnc.1, hnc.2⟩) (hS) (fun q _ h => hF q h) hF (fun u t H1 locs1 ht hvm hw hB hz1 hk1 hS1 => kk u hw H1 locs1 la (by rw [← ht]; exact hB) hS1 hl)
end ROWS2
end
section
theorem yk_X8_clearBuffer : Cond.initialized yX8_clearBuffer.cls ∈ TB ∧ Cond.code yX8_clearBuffer cX8_clearBuffer 2 (some .int) ∈ TB ∧ (yX8_clearBuffer.cls ≠ "java/lang/invoke/MethodHandle" ∧ yX8_clearBuffer.cls ≠ "java/lang/invoke/VarHandle" ∧ (parseMethodDescriptor yX8_clearBuffer.desc).map (fun d => d.parameters.length) = some 0) := ⟨tbm (i := 36) (by decide +kernel) (by decide +kernel), tbm (i := 265) (by decide +kernel) (by decide +kernel), by decide +kernel⟩
theorem yk_X8_firstError : Cond.initialized yX8_firstError.cls ∈ TB ∧ Cond.code yX8_firstError cX8_firstError 1 (some .int) ∈ TB ∧ (yX8_firstError.cls ≠ "java/lang/invoke/MethodHandle" ∧ yX8_firstError.cls ≠ "java/lang/invoke/VarHandle" ∧ (parseMethodDescriptor yX8_firstError.desc).map (fun d => d.parameters.length) = some 0) := ⟨tbm (i := 36) (by decide +kernel) (by decide +kernel), tbm (i := 269) (by decide +kernel) (by decide +kernel), by decide +kernel⟩
theorem yk_X7_goodLength : Cond.initialized yX7_goodLength.cls ∈ TB ∧ Cond.code yX7_goodLength cX7_goodLength 3 (some .int) ∈ TB ∧ (yX7_goodLength.cls ≠ "java/lang/invoke/MethodHandle" ∧ yX7_goodLength.cls ≠ "java/lang/invoke/VarHandle" ∧ (parseMethodDescriptor yX7_goodLength.desc).map (fun d => d.parameters.length) = some 0) := ⟨tbm (i := 44) (by decide +kernel) (by decide +kernel), tbm (i := 273) (by decide +kernel) (by decide +kernel), by decide +kernel⟩
theorem yk_X7_code : Cond.initialized yX7_code.cls ∈ TB ∧ Cond.code yX7_code cX7_code 2 (some .int) ∈ TB ∧ (yX7_code.cls ≠ "java/lang/invoke/MethodHandle" ∧ yX7_code.cls ≠ "java/lang/invoke/VarHandle" ∧ (parseMethodDescriptor yX7_code.desc).map (fun d => d.parameters.length) = some 1) := ⟨tbm (i := 44) (by decide +kernel) (by decide +kernel), tbm (i := 277) (by decide +kernel) (by decide +kernel), by decide +kernel⟩
theorem yk_X7_expectedBehind : Cond.initialized yX7_expectedBehind.cls ∈ TB ∧ Cond.code yX7_expectedBehind cX7_expectedBehind 2 (some .int) ∈ TB ∧ (yX7_expectedBehind.cls ≠ "java/lang/invoke/MethodHandle" ∧ yX7_expectedBehind.cls ≠ "java/lang/invoke/VarHandle" ∧ (parseMethodDescriptor yX7_expectedBehind.desc).map (fun d => d.parameters.length) = some 2) := ⟨tbm (i := 44) (by decide +kernel) (by decide +kernel), tbm (i := 280) (by decide +kernel) (by decide +kernel), by decide +kernel⟩
theorem yk_X7_expectedInPart : Cond.initialized yX7_expectedInPart.cls ∈ TB ∧ Cond.code yX7_expectedInPart cX7_expectedInPart 1 (some .int) ∈ TB ∧ (yX7_expectedInPart.cls ≠ "java/lang/invoke/MethodHandle" ∧ yX7_expectedInPart.cls ≠ "java/lang/invoke/VarHandle" ∧ (parseMethodDescriptor yX7_expectedInPart.desc).map (fun d => d.parameters.length) = some 1) := ⟨tbm (i := 44) (by decide +kernel) (by decide +kernel), tbm (i := 283) (by decide +kernel) (by decide +kernel), by decide +kernel⟩
theorem yk_X7_expectedInSet : Cond.initialized yX7_expectedInSet.cls ∈ TB ∧ Cond.code yX7_expectedInSet cX7_expectedInSet 3 (some .int) ∈ TB ∧ (yX7_expectedInSet.cls ≠ "java/lang/invoke/MethodHandle" ∧ yX7_expectedInSet.cls ≠ "java/lang/invoke/VarHandle" ∧ (parseMethodDescriptor yX7_expectedInSet.desc).map (fun d => d.parameters.length) = some 2) := ⟨tbm (i := 44) (by decide +kernel) (by decide +kernel), tbm (i := 286) (by decide +kernel) (by decide +kernel), by decide +kernel⟩
theorem yk_X8_openShare : Cond.initialized yX8_openShare.cls ∈ TB ∧ Cond.code yX8_openShare cX8_openShare 3 (some .double) ∈ TB ∧ (yX8_openShare.cls ≠ "java/lang/invoke/MethodHandle" ∧ yX8_openShare.cls ≠ "java/lang/invoke/VarHandle" ∧ (parseMethodDescriptor yX8_openShare.desc).map (fun d => d.parameters.length) = some 0) := ⟨tbm (i := 36) (by decide +kernel) (by decide +kernel), tbm (i := 290) (by decide +kernel) (by decide +kernel), by decide +kernel⟩
theorem yk_X6_timesOpened : Cond.initialized yX6_timesOpened.cls ∈ TB ∧ Cond.code yX6_timesOpened cX6_timesOpened 6 (some .int) ∈ TB ∧ (yX6_timesOpened.cls ≠ "java/lang/invoke/MethodHandle" ∧ yX6_timesOpened.cls ≠ "java/lang/invoke/VarHandle" ∧ (parseMethodDescriptor yX6_timesOpened.desc).map (fun d => d.parameters.length) = some 0) := ⟨tbm (i := 37) (by decide +kernel) (by decide +kernel), tbm (i := 294) (by decide +kernel) (by decide +kernel), by decide +kernel⟩
theorem yk_X6_wrongNumbers : Cond.initialized yX6_wrongNumbers.cls ∈ TB ∧ Cond.code yX6_wrongNumbers cX6_wrongNumbers 6 (some .int) ∈ TB ∧ (yX6_wrongNumbers.cls ≠ "java/lang/invoke/MethodHandle" ∧ yX6_wrongNumbers.cls ≠ "java/lang/invoke/VarHandle" ∧ (parseMethodDescriptor yX6_wrongNumbers.desc).map (fun d => d.parameters.length) = some 0) := ⟨tbm (i := 37) (by decide +kernel) (by decide +kernel), tbm (i := 298) (by decide +kernel) (by decide +kernel), by decide +kernel⟩
theorem yk_X8_digest : Cond.initialized yX8_digest.cls ∈ TB ∧ Cond.code yX8_digest cX8_digest 8 (some .long) ∈ TB ∧ (yX8_digest.cls ≠ "java/lang/invoke/MethodHandle" ∧ yX8_digest.cls ≠ "java/lang/invoke/VarHandle" ∧ (parseMethodDescriptor yX8_digest.desc).map (fun d => d.parameters.length) = some 0) := ⟨tbm (i := 36) (by decide +kernel) (by decide +kernel), tbm (i := 302) (by decide +kernel) (by decide +kernel), by decide +kernel⟩
theorem yk_X8_counted : Cond.initialized yX8_counted.cls ∈ TB ∧ Cond.code yX8_counted cX8_counted 2 (some .int) ∈ TB ∧ (yX8_counted.cls ≠ "java/lang/invoke/MethodHandle" ∧ yX8_counted.cls ≠ "java/lang/invoke/VarHandle" ∧ (parseMethodDescriptor yX8_counted.desc).map (fun d => d.parameters.length) = some 1) := ⟨tbm (i := 36) (by decide +kernel) (by decide +kernel), tbm (i := 307) (by decide +kernel) (by decide +kernel), by decide +kernel⟩
theorem yk_X6_presses : Cond.initialized yX6_presses.cls ∈ TB ∧ Cond.code yX6_presses cX6_presses 6 (some .int) ∈ TB ∧ (yX6_presses.cls ≠ "java/lang/invoke/MethodHandle" ∧ yX6_presses.cls ≠ "java/lang/invoke/VarHandle" ∧ (parseMethodDescriptor yX6_presses.desc).map (fun d => d.parameters.length) = some 0) := ⟨tbm (i := 37) (by decide +kernel) (by decide +kernel), tbm (i := 311) (by decide +kernel) (by decide +kernel), by decide +kernel⟩
theorem yk_X6_openDoors : Cond.initialized yX6_openDoors.cls ∈ TB ∧ Cond.code yX6_openDoors cX6_openDoors 6 (some .int) ∈ TB ∧ (yX6_openDoors.cls ≠ "java/lang/invoke/MethodHandle" ∧ yX6_openDoors.cls ≠ "java/lang/invoke/VarHandle" ∧ (parseMethodDescriptor yX6_openDoors.desc).map (fun d => d.parameters.length) = some 0) := ⟨tbm (i := 37) (by decide +kernel) (by decide +kernel), tbm (i := 315) (by decide +kernel) (by decide +kernel), by decide +kernel⟩
theorem yk_X6_lockedDoors : Cond.initialized yX6_lockedDoors.cls ∈ TB ∧ Cond.code yX6_lockedDoors cX6_lockedDoors 6 (some .int) ∈ TB ∧ (yX6_lockedDoors.cls ≠ "java/lang/invoke/MethodHandle" ∧ yX6_lockedDoors.cls ≠ "java/lang/invoke/VarHandle" ∧ (parseMethodDescriptor yX6_lockedDoors.desc).map (fun d => d.parameters.length) = some 0) := ⟨tbm (i := 37) (by decide +kernel) (by decide +kernel), tbm (i := 319) (by decide +kernel) (by decide +kernel), by decide +kernel⟩
theorem yk_X1_isLocked : Cond.initialized yX1_isLocked.cls ∈ TB ∧ Cond.code yX1_isLocked cX1_isLocked 2 (some .boolean) ∈ TB ∧ (yX1_isLocked.cls ≠ "java/lang/invoke/MethodHandle" ∧ yX1_isLocked.cls ≠ "java/lang/invoke/VarHandle" ∧ (parseMethodDescriptor yX1_isLocked.desc).map (fun d => d.parameters.length) = some 1) := ⟨tbm (i := 39) (by decide +kernel) (by decide +kernel), tbm (i := 323) (by decide +kernel) (by decide +kernel), by decide +kernel⟩
theorem yk_X8_mixed : Cond.initialized yX8_mixed.cls ∈ TB ∧ Cond.code yX8_mixed cX8_mixed 4 (some .long) ∈ TB ∧ (yX8_mixed.cls ≠ "java/lang/invoke/MethodHandle" ∧ yX8_mixed.cls ≠ "java/lang/invoke/VarHandle" ∧ (parseMethodDescriptor yX8_mixed.desc).map (fun d => d.parameters.length) = some 2) := ⟨tbm (i := 36) (by decide +kernel) (by decide +kernel), tbm (i := 326) (by decide +kernel) (by decide +kernel), by decide +kernel⟩
theorem yk_X4_value : Cond.initialized yX4_value.cls ∈ TB ∧ Cond.code yX4_value cX4_value 2 (some .int) ∈ TB ∧ (yX4_value.cls ≠ "java/lang/invoke/MethodHandle" ∧ yX4_value.cls ≠ "java/lang/invoke/VarHandle" ∧ (parseMethodDescriptor yX4_value.desc).map (fun d => d.parameters.length) = some 1) := ⟨tbm (i := 42) (by decide +kernel) (by decide +kernel), tbm (i := 331) (by decide +kernel) (by decide +kernel), by decide +kernel⟩
theorem yk_X2_look : Cond.initialized yX2_look.cls ∈ TB ∧ Cond.code yX2_look cX2_look 2 (some .int) ∈ TB ∧ (yX2_look.cls ≠ "java/lang/invoke/MethodHandle" ∧ yX2_look.cls ≠ "java/lang/invoke/VarHandle" ∧ (parseMethodDescriptor yX2_look.desc).map (fun d => d.parameters.length) = some 1) := ⟨tbm (i := 38) (by decide +kernel) (by decide +kernel), tbm (i := 335) (by decide +kernel) (by decide +kernel), by decide +kernel⟩
theorem yk_X8_counterBehind : Cond.initialized yX8_counterBehind.cls ∈ TB ∧ Cond.code yX8_counterBehind cX8_counterBehind 1 (some .int) ∈ TB ∧ (yX8_counterBehind.cls ≠ "java/lang/invoke/MethodHandle" ∧ yX8_counterBehind.cls ≠ "java/lang/invoke/VarHandle" ∧ (parseMethodDescriptor yX8_counterBehind.desc).map (fun d => d.parameters.length) = some 1) := ⟨tbm (i := 36) (by decide +kernel) (by decide +kernel), tbm (i := 338) (by decide +kernel) (by decide +kernel), by decide +kernel⟩
theorem yk_X8_numberOf : Cond.initialized yX8_numberOf.cls ∈ TB ∧ Cond.code yX8_numberOf cX8_numberOf 2 (some .int) ∈ TB ∧ (yX8_numberOf.cls ≠ "java/lang/invoke/MethodHandle" ∧ yX8_numberOf.cls ≠ "java/lang/invoke/VarHandle" ∧ (parseMethodDescriptor yX8_numberOf.desc).map (fun d => d.parameters.length) = some 2) := ⟨tbm (i := 36) (by decide +kernel) (by decide +kernel), tbm (i := 341) (by decide +kernel) (by decide +kernel), by decide +kernel⟩
theorem yk_X8_mixedDoor : Cond.initialized yX8_mixedDoor.cls ∈ TB ∧ Cond.code yX8_mixedDoor cX8_mixedDoor 11 (some .long) ∈ TB ∧ (yX8_mixedDoor.cls ≠ "java/lang/invoke/MethodHandle" ∧ yX8_mixedDoor.cls ≠ "java/lang/invoke/VarHandle" ∧ (parseMethodDescriptor yX8_mixedDoor.desc).map (fun d => d.parameters.length) = some 2) := ⟨tbm (i := 36) (by decide +kernel) (by decide +kernel), tbm (i := 347) (by decide +kernel) (by decide +kernel), by decide +kernel⟩
theorem yk_X1_look : Cond.initialized yX1_look.cls ∈ TB ∧ Cond.code yX1_look cX1_look 3 (some .int) ∈ TB ∧ (yX1_look.cls ≠ "java/lang/invoke/MethodHandle" ∧ yX1_look.cls ≠ "java/lang/invoke/VarHandle" ∧ (parseMethodDescriptor yX1_look.desc).map (fun d => d.parameters.length) = some 2) := ⟨tbm (i := 39) (by decide +kernel) (by decide +kernel), tbm (i := 351) (by decide +kernel) (by decide +kernel), by decide +kernel⟩
theorem yk_X1_learntSlots : Cond.initialized yX1_learntSlots.cls ∈ TB ∧ Cond.code yX1_learntSlots cX1_learntSlots 6 (some .int) ∈ TB ∧ (yX1_learntSlots.cls ≠ "java/lang/invoke/MethodHandle" ∧ yX1_learntSlots.cls ≠ "java/lang/invoke/VarHandle" ∧ (parseMethodDescriptor yX1_learntSlots.desc).map (fun d => d.parameters.length) = some 0) := ⟨tbm (i := 39) (by decide +kernel) (by decide +kernel), tbm (i := 356) (by decide +kernel) (by decide +kernel), by decide +kernel⟩
theorem yk_X5_look : Cond.initialized yX5_look.cls ∈ TB ∧ Cond.code yX5_look cX5_look 2 (some .int) ∈ TB ∧ (yX5_look.cls ≠ "java/lang/invoke/MethodHandle" ∧ yX5_look.cls ≠ "java/lang/invoke/VarHandle" ∧ (parseMethodDescriptor yX5_look.desc).map (fun d => d.parameters.length) = some 1) := ⟨tbm (i := 40) (by decide +kernel) (by decide +kernel), tbm (i := 360) (by decide +kernel) (by decide +kernel), by decide +kernel⟩
theorem yk_X8_firstUseful : Cond.initialized yX8_firstUseful.cls ∈ TB ∧ Cond.code yX8_firstUseful cX8_firstUseful 3 (some .int) ∈ TB ∧ (yX8_firstUseful.cls ≠ "java/lang/invoke/MethodHandle" ∧ yX8_firstUseful.cls ≠ "java/lang/invoke/VarHandle" ∧ (parseMethodDescriptor yX8_firstUseful.desc).map (fun d => d.parameters.length) = some 1) := ⟨tbm (i := 36) (by decide +kernel) (by decide +kernel), tbm (i := 365) (by decide +kernel) (by decide +kernel), by decide +kernel⟩
theorem yk_X0_number : Cond.initialized yX0_number.cls ∈ TB ∧ Cond.code yX0_number cX0_number 2 (some .int) ∈ TB ∧ (yX0_number.cls ≠ "java/lang/invoke/MethodHandle" ∧ yX0_number.cls ≠ "java/lang/invoke/VarHandle" ∧ (parseMethodDescriptor yX0_number.desc).map (fun d => d.parameters.length) = some 1) := ⟨tbm (i := 41) (by decide +kernel) (by decide +kernel), tbm (i := 369) (by decide +kernel) (by decide +kernel), by decide +kernel⟩
theorem yk_X8_tryNumber : Cond.initialized yX8_tryNumber.cls ∈ TB ∧ Cond.code yX8_tryNumber cX8_tryNumber 3 (some .int) ∈ TB ∧ (yX8_tryNumber.cls ≠ "java/lang/invoke/MethodHandle" ∧ yX8_tryNumber.cls ≠ "java/lang/invoke/VarHandle" ∧ (parseMethodDescriptor yX8_tryNumber.desc).map (fun d => d.parameters.length) = some 2) := ⟨tbm (i := 36) (by decide +kernel) (by decide +kernel), tbm (i := 373) (by decide +kernel) (by decide +kernel), by decide +kernel⟩
theorem yk_X1_copyFrom : Cond.initialized yX1_copyFrom.cls ∈ TB ∧ Cond.code yX1_copyFrom cX1_copyFrom 3 none ∈ TB ∧ (yX1_copyFrom.cls ≠ "java/lang/invoke/MethodHandle" ∧ yX1_copyFrom.cls ≠ "java/lang/invoke/VarHandle" ∧ (parseMethodDescriptor yX1_copyFrom.desc).map (fun d => d.parameters.length) = some 1) := ⟨tbm (i := 39) (by decide +kernel) (by decide +kernel), tbm (i := 377) (by decide +kernel) (by decide +kernel), by decide +kernel⟩
theorem yk_X5_copyFrom : Cond.initialized yX5_copyFrom.cls ∈ TB ∧ Cond.code yX5_copyFrom cX5_copyFrom 2 none ∈ TB ∧ (yX5_copyFrom.cls ≠ "java/lang/invoke/MethodHandle" ∧ yX5_copyFrom.cls ≠ "java/lang/invoke/VarHandle" ∧ (parseMethodDescriptor yX5_copyFrom.desc).map (fun d => d.parameters.length) = some 1) := ⟨tbm (i := 40) (by decide +kernel) (by decide +kernel), tbm (i := 381) (by decide +kernel) (by decide +kernel), by decide +kernel⟩
theorem yk_X1_hear : Cond.initialized yX1_hear.cls ∈ TB ∧ Cond.code yX1_hear cX1_hear 8 (some .int) ∈ TB ∧ (yX1_hear.cls ≠ "java/lang/invoke/MethodHandle" ∧ yX1_hear.cls ≠ "java/lang/invoke/VarHandle" ∧ (parseMethodDescriptor yX1_hear.desc).map (fun d => d.parameters.length) = some 2) := ⟨tbm (i := 39) (by decide +kernel) (by decide +kernel), tbm (i := 385) (by decide +kernel) (by decide +kernel), by decide +kernel⟩
theorem yk_X5_stepsTo : Cond.initialized yX5_stepsTo.cls ∈ TB ∧ Cond.code yX5_stepsTo cX5_stepsTo 5 (some .int) ∈ TB ∧ (yX5_stepsTo.cls ≠ "java/lang/invoke/MethodHandle" ∧ yX5_stepsTo.cls ≠ "java/lang/invoke/VarHandle" ∧ (parseMethodDescriptor yX5_stepsTo.desc).map (fun d => d.parameters.length) = some 2) := ⟨tbm (i := 40) (by decide +kernel) (by decide +kernel), tbm (i := 389) (by decide +kernel) (by decide +kernel), by decide +kernel⟩
theorem yk_X5_take : Cond.initialized yX5_take.cls ∈ TB ∧ Cond.code yX5_take cX5_take 4 (some .boolean) ∈ TB ∧ (yX5_take.cls ≠ "java/lang/invoke/MethodHandle" ∧ yX5_take.cls ≠ "java/lang/invoke/VarHandle" ∧ (parseMethodDescriptor yX5_take.desc).map (fun d => d.parameters.length) = some 2) := ⟨tbm (i := 40) (by decide +kernel) (by decide +kernel), tbm (i := 395) (by decide +kernel) (by decide +kernel), by decide +kernel⟩
theorem yk_X8_pressesToOpen : Cond.initialized yX8_pressesToOpen.cls ∈ TB ∧ Cond.code yX8_pressesToOpen cX8_pressesToOpen 7 (some .int) ∈ TB ∧ (yX8_pressesToOpen.cls ≠ "java/lang/invoke/MethodHandle" ∧ yX8_pressesToOpen.cls ≠ "java/lang/invoke/VarHandle" ∧ (parseMethodDescriptor yX8_pressesToOpen.desc).map (fun d => d.parameters.length) = some 2) := ⟨tbm (i := 36) (by decide +kernel) (by decide +kernel), tbm (i := 399) (by decide +kernel) (by decide +kernel), by decide +kernel⟩
theorem yk_X8_mostUnheard : Cond.initialized yX8_mostUnheard.cls ∈ TB ∧ Cond.code yX8_mostUnheard cX8_mostUnheard 6 (some .int) ∈ TB ∧ (yX8_mostUnheard.cls ≠ "java/lang/invoke/MethodHandle" ∧ yX8_mostUnheard.cls ≠ "java/lang/invoke/VarHandle" ∧ (parseMethodDescriptor yX8_mostUnheard.desc).map (fun d => d.parameters.length) = some 2) := ⟨tbm (i := 36) (by decide +kernel) (by decide +kernel), tbm (i := 408) (by decide +kernel) (by decide +kernel), by decide +kernel⟩
theorem yk_X8_shareBits : Cond.initialized yX8_shareBits.cls ∈ TB ∧ Cond.code yX8_shareBits cX8_shareBits 6 (some .long) ∈ TB ∧ (yX8_shareBits.cls ≠ "java/lang/invoke/MethodHandle" ∧ yX8_shareBits.cls ≠ "java/lang/invoke/VarHandle" ∧ (parseMethodDescriptor yX8_shareBits.desc).map (fun d => d.parameters.length) = some 1) := ⟨tbm (i := 36) (by decide +kernel) (by decide +kernel), tbm (i := 412) (by decide +kernel) (by decide +kernel), by decide +kernel⟩
theorem yk_X8_make : Cond.initialized yX8_make.cls ∈ TB ∧ Cond.code yX8_make cX8_make 6 (some .int) ∈ TB ∧ (yX8_make.cls ≠ "java/lang/invoke/MethodHandle" ∧ yX8_make.cls ≠ "java/lang/invoke/VarHandle" ∧ (parseMethodDescriptor yX8_make.desc).map (fun d => d.parameters.length) = some 3) := ⟨tbm (i := 36) (by decide +kernel) (by decide +kernel), tbm (i := 425) (by decide +kernel) (by decide +kernel), by decide +kernel⟩
theorem yk_X8_needIndex : Cond.initialized yX8_needIndex.cls ∈ TB ∧ Cond.code yX8_needIndex cX8_needIndex 2 none ∈ TB ∧ (yX8_needIndex.cls ≠ "java/lang/invoke/MethodHandle" ∧ yX8_needIndex.cls ≠ "java/lang/invoke/VarHandle" ∧ (parseMethodDescriptor yX8_needIndex.desc).map (fun d => d.parameters.length) = some 2) := ⟨tbm (i := 36) (by decide +kernel) (by decide +kernel), tbm (i := 428) (by decide +kernel) (by decide +kernel), by decide +kernel⟩
theorem yk_X8_needRange : Cond.initialized yX8_needRange.cls ∈ TB ∧ Cond.code yX8_needRange cX8_needRange 3 none ∈ TB ∧ (yX8_needRange.cls ≠ "java/lang/invoke/MethodHandle" ∧ yX8_needRange.cls ≠ "java/lang/invoke/VarHandle" ∧ (parseMethodDescriptor yX8_needRange.desc).map (fun d => d.parameters.length) = some 3) := ⟨tbm (i := 36) (by decide +kernel) (by decide +kernel), tbm (i := 494) (by decide +kernel) (by decide +kernel), by decide +kernel⟩
theorem yk_X8_needArgument : Cond.initialized yX8_needArgument.cls ∈ TB ∧ Cond.code yX8_needArgument cX8_needArgument 1 none ∈ TB ∧ (yX8_needArgument.cls ≠ "java/lang/invoke/MethodHandle" ∧ yX8_needArgument.cls ≠ "java/lang/invoke/VarHandle" ∧ (parseMethodDescriptor yX8_needArgument.desc).map (fun d => d.parameters.length) = some 1) := ⟨tbm (i := 36) (by decide +kernel) (by decide +kernel), tbm (i := 497) (by decide +kernel) (by decide +kernel), by decide +kernel⟩
theorem yk_X3_keep : Cond.initialized yX3_keep.cls ∈ TB ∧ Cond.code yX3_keep cX3_keep 2 none ∈ TB ∧ (yX3_keep.cls ≠ "java/lang/invoke/MethodHandle" ∧ yX3_keep.cls ≠ "java/lang/invoke/VarHandle" ∧ (parseMethodDescriptor yX3_keep.desc).map (fun d => d.parameters.length) = some 1) := ⟨tbm (i := 43) (by decide +kernel) (by decide +kernel), tbm (i := 516) (by decide +kernel) (by decide +kernel), by decide +kernel⟩
theorem yk_X6_copyFrom : Cond.initialized yX6_copyFrom.cls ∈ TB ∧ Cond.code yX6_copyFrom cX6_copyFrom 3 none ∈ TB ∧ (yX6_copyFrom.cls ≠ "java/lang/invoke/MethodHandle" ∧ yX6_copyFrom.cls ≠ "java/lang/invoke/VarHandle" ∧ (parseMethodDescriptor yX6_copyFrom.desc).map (fun d => d.parameters.length) = some 1) := ⟨tbm (i := 37) (by decide +kernel) (by decide +kernel), tbm (i := 520) (by decide +kernel) (by decide +kernel), by decide +kernel⟩
theorem yk_X2_copyFrom : Cond.initialized yX2_copyFrom.cls ∈ TB ∧ Cond.code yX2_copyFrom cX2_copyFrom 2 none ∈ TB ∧ (yX2_copyFrom.cls ≠ "java/lang/invoke/MethodHandle" ∧ yX2_copyFrom.cls ≠ "java/lang/invoke/VarHandle" ∧ (parseMethodDescriptor yX2_copyFrom.desc).map (fun d => d.parameters.length) = some 1) := ⟨tbm (i := 38) (by decide +kernel) (by decide +kernel), tbm (i := 524) (by decide +kernel) (by decide +kernel), by decide +kernel⟩
theorem yk_X0_copyFrom : Cond.initialized yX0_copyFrom.cls ∈ TB ∧ Cond.code yX0_copyFrom cX0_copyFrom 2 none ∈ TB ∧ (yX0_copyFrom.cls ≠ "java/lang/invoke/MethodHandle" ∧ yX0_copyFrom.cls ≠ "java/lang/invoke/VarHandle" ∧ (parseMethodDescriptor yX0_copyFrom.desc).map (fun d => d.parameters.length) = some 1) := ⟨tbm (i := 41) (by decide +kernel) (by decide +kernel), tbm (i := 529) (by decide +kernel) (by decide +kernel), by decide +kernel⟩
theorem yk_X4_copyFrom : Cond.initialized yX4_copyFrom.cls ∈ TB ∧ Cond.code yX4_copyFrom cX4_copyFrom 2 none ∈ TB ∧ (yX4_copyFrom.cls ≠ "java/lang/invoke/MethodHandle" ∧ yX4_copyFrom.cls ≠ "java/lang/invoke/VarHandle" ∧ (parseMethodDescriptor yX4_copyFrom.desc).map (fun d => d.parameters.length) = some 1) := ⟨tbm (i := 42) (by decide +kernel) (by decide +kernel), tbm (i := 536) (by decide +kernel) (by decide +kernel), by decide +kernel⟩
theorem yk_X8_battery : Cond.initialized yX8_battery.cls ∈ TB ∧ Cond.code yX8_battery cX8_battery 5 (some .int) ∈ TB ∧ (yX8_battery.cls ≠ "java/lang/invoke/MethodHandle" ∧ yX8_battery.cls ≠ "java/lang/invoke/VarHandle" ∧ (parseMethodDescriptor yX8_battery.desc).map (fun d => d.parameters.length) = some 2) := ⟨tbm (i := 36) (by decide +kernel) (by decide +kernel), tbm (i := 544) (by decide +kernel) (by decide +kernel), by decide +kernel⟩
theorem yk_X8_press : Cond.initialized yX8_press.cls ∈ TB ∧ Cond.code yX8_press cX8_press 3 (some .int) ∈ TB ∧ (yX8_press.cls ≠ "java/lang/invoke/MethodHandle" ∧ yX8_press.cls ≠ "java/lang/invoke/VarHandle" ∧ (parseMethodDescriptor yX8_press.desc).map (fun d => d.parameters.length) = some 2) := ⟨tbm (i := 36) (by decide +kernel) (by decide +kernel), tbm (i := 552) (by decide +kernel) (by decide +kernel), by decide +kernel⟩
theorem yk_X6_canPress : Cond.initialized yX6_canPress.cls ∈ TB ∧ Cond.code yX6_canPress cX6_canPress 2 (some .boolean) ∈ TB ∧ (yX6_canPress.cls ≠ "java/lang/invoke/MethodHandle" ∧ yX6_canPress.cls ≠ "java/lang/invoke/VarHandle" ∧ (parseMethodDescriptor yX6_canPress.desc).map (fun d => d.parameters.length) = some 1) := ⟨tbm (i := 37) (by decide +kernel) (by decide +kernel), tbm (i := 556) (by decide +kernel) (by decide +kernel), by decide +kernel⟩
theorem yk_X8_needState : Cond.initialized yX8_needState.cls ∈ TB ∧ Cond.code yX8_needState cX8_needState 1 none ∈ TB ∧ (yX8_needState.cls ≠ "java/lang/invoke/MethodHandle" ∧ yX8_needState.cls ≠ "java/lang/invoke/VarHandle" ∧ (parseMethodDescriptor yX8_needState.desc).map (fun d => d.parameters.length) = some 1) := ⟨tbm (i := 36) (by decide +kernel) (by decide +kernel), tbm (i := 559) (by decide +kernel) (by decide +kernel), by decide +kernel⟩
theorem yk_X6_pressFob : Cond.initialized yX6_pressFob.cls ∈ TB ∧ Cond.code yX6_pressFob cX6_pressFob 4 (some .int) ∈ TB ∧ (yX6_pressFob.cls ≠ "java/lang/invoke/MethodHandle" ∧ yX6_pressFob.cls ≠ "java/lang/invoke/VarHandle" ∧ (parseMethodDescriptor yX6_pressFob.desc).map (fun d => d.parameters.length) = some 2) := ⟨tbm (i := 37) (by decide +kernel) (by decide +kernel), tbm (i := 578) (by decide +kernel) (by decide +kernel), by decide +kernel⟩
theorem yk_X2_sendNext : Cond.initialized yX2_sendNext.cls ∈ TB ∧ Cond.code yX2_sendNext cX2_sendNext 1 (some .int) ∈ TB ∧ (yX2_sendNext.cls ≠ "java/lang/invoke/MethodHandle" ∧ yX2_sendNext.cls ≠ "java/lang/invoke/VarHandle" ∧ (parseMethodDescriptor yX2_sendNext.desc).map (fun d => d.parameters.length) = some 0) := ⟨tbm (i := 38) (by decide +kernel) (by decide +kernel), tbm (i := 583) (by decide +kernel) (by decide +kernel), by decide +kernel⟩
theorem yk_X0_record : Cond.initialized yX0_record.cls ∈ TB ∧ Cond.code yX0_record cX0_record 2 none ∈ TB ∧ (yX0_record.cls ≠ "java/lang/invoke/MethodHandle" ∧ yX0_record.cls ≠ "java/lang/invoke/VarHandle" ∧ (parseMethodDescriptor yX0_record.desc).map (fun d => d.parameters.length) = some 1) := ⟨tbm (i := 41) (by decide +kernel) (by decide +kernel), tbm (i := 587) (by decide +kernel) (by decide +kernel), by decide +kernel⟩
theorem yk_X6_send : Cond.initialized yX6_send.cls ∈ TB ∧ Cond.code yX6_send cX6_send 6 (some .int) ∈ TB ∧ (yX6_send.cls ≠ "java/lang/invoke/MethodHandle" ∧ yX6_send.cls ≠ "java/lang/invoke/VarHandle" ∧ (parseMethodDescriptor yX6_send.desc).map (fun d => d.parameters.length) = some 2) := ⟨tbm (i := 37) (by decide +kernel) (by decide +kernel), tbm (i := 592) (by decide +kernel) (by decide +kernel), by decide +kernel⟩
theorem yk_X8_again : Cond.initialized yX8_again.cls ∈ TB ∧ Cond.code yX8_again cX8_again 3 (some .int) ∈ TB ∧ (yX8_again.cls ≠ "java/lang/invoke/MethodHandle" ∧ yX8_again.cls ≠ "java/lang/invoke/VarHandle" ∧ (parseMethodDescriptor yX8_again.desc).map (fun d => d.parameters.length) = some 2) := ⟨tbm (i := 36) (by decide +kernel) (by decide +kernel), tbm (i := 600) (by decide +kernel) (by decide +kernel), by decide +kernel⟩
theorem yk_X6_sendAgain : Cond.initialized yX6_sendAgain.cls ∈ TB ∧ Cond.code yX6_sendAgain cX6_sendAgain 4 (some .int) ∈ TB ∧ (yX6_sendAgain.cls ≠ "java/lang/invoke/MethodHandle" ∧ yX6_sendAgain.cls ≠ "java/lang/invoke/VarHandle" ∧ (parseMethodDescriptor yX6_sendAgain.desc).map (fun d => d.parameters.length) = some 2) := ⟨tbm (i := 37) (by decide +kernel) (by decide +kernel), tbm (i := 604) (by decide +kernel) (by decide +kernel), by decide +kernel⟩
theorem yk_X6_canSendAgain : Cond.initialized yX6_canSendAgain.cls ∈ TB ∧ Cond.code yX6_canSendAgain cX6_canSendAgain 2 (some .boolean) ∈ TB ∧ (yX6_canSendAgain.cls ≠ "java/lang/invoke/MethodHandle" ∧ yX6_canSendAgain.cls ≠ "java/lang/invoke/VarHandle" ∧ (parseMethodDescriptor yX6_canSendAgain.desc).map (fun d => d.parameters.length) = some 1) := ⟨tbm (i := 37) (by decide +kernel) (by decide +kernel), tbm (i := 608) (by decide +kernel) (by decide +kernel), by decide +kernel⟩
theorem yk_X8_learn : Cond.initialized yX8_learn.cls ∈ TB ∧ Cond.code yX8_learn cX8_learn 5 (some .int) ∈ TB ∧ (yX8_learn.cls ≠ "java/lang/invoke/MethodHandle" ∧ yX8_learn.cls ≠ "java/lang/invoke/VarHandle" ∧ (parseMethodDescriptor yX8_learn.desc).map (fun d => d.parameters.length) = some 3) := ⟨tbm (i := 36) (by decide +kernel) (by decide +kernel), tbm (i := 622) (by decide +kernel) (by decide +kernel), by decide +kernel⟩
theorem yk_X5_learnFrom : Cond.initialized yX5_learnFrom.cls ∈ TB ∧ Cond.code yX5_learnFrom cX5_learnFrom 2 none ∈ TB ∧ (yX5_learnFrom.cls ≠ "java/lang/invoke/MethodHandle" ∧ yX5_learnFrom.cls ≠ "java/lang/invoke/VarHandle" ∧ (parseMethodDescriptor yX5_learnFrom.desc).map (fun d => d.parameters.length) = some 1) := ⟨tbm (i := 40) (by decide +kernel) (by decide +kernel), tbm (i := 626) (by decide +kernel) (by decide +kernel), by decide +kernel⟩
theorem yk_X8_forget : Cond.initialized yX8_forget.cls ∈ TB ∧ Cond.code yX8_forget cX8_forget 5 (some .int) ∈ TB ∧ (yX8_forget.cls ≠ "java/lang/invoke/MethodHandle" ∧ yX8_forget.cls ≠ "java/lang/invoke/VarHandle" ∧ (parseMethodDescriptor yX8_forget.desc).map (fun d => d.parameters.length) = some 2) := ⟨tbm (i := 36) (by decide +kernel) (by decide +kernel), tbm (i := 634) (by decide +kernel) (by decide +kernel), by decide +kernel⟩
theorem yk_X5_empty : Cond.initialized yX5_empty.cls ∈ TB ∧ Cond.code yX5_empty cX5_empty 1 none ∈ TB ∧ (yX5_empty.cls ≠ "java/lang/invoke/MethodHandle" ∧ yX5_empty.cls ≠ "java/lang/invoke/VarHandle" ∧ (parseMethodDescriptor yX5_empty.desc).map (fun d => d.parameters.length) = some 0) := ⟨tbm (i := 40) (by decide +kernel) (by decide +kernel), tbm (i := 638) (by decide +kernel) (by decide +kernel), by decide +kernel⟩
theorem yk_X8_shut : Cond.initialized yX8_shut.cls ∈ TB ∧ Cond.code yX8_shut cX8_shut 4 (some .int) ∈ TB ∧ (yX8_shut.cls ≠ "java/lang/invoke/MethodHandle" ∧ yX8_shut.cls ≠ "java/lang/invoke/VarHandle" ∧ (parseMethodDescriptor yX8_shut.desc).map (fun d => d.parameters.length) = some 1) := ⟨tbm (i := 36) (by decide +kernel) (by decide +kernel), tbm (i := 645) (by decide +kernel) (by decide +kernel), by decide +kernel⟩
theorem yk_X8_unlock : Cond.initialized yX8_unlock.cls ∈ TB ∧ Cond.code yX8_unlock cX8_unlock 4 (some .int) ∈ TB ∧ (yX8_unlock.cls ≠ "java/lang/invoke/MethodHandle" ∧ yX8_unlock.cls ≠ "java/lang/invoke/VarHandle" ∧ (parseMethodDescriptor yX8_unlock.desc).map (fun d => d.parameters.length) = some 1) := ⟨tbm (i := 36) (by decide +kernel) (by decide +kernel), tbm (i := 652) (by decide +kernel) (by decide +kernel), by decide +kernel⟩
theorem yk_X8_set : Cond.initialized yX8_set.cls ∈ TB ∧ Cond.code yX8_set cX8_set 4 (some .int) ∈ TB ∧ (yX8_set.cls ≠ "java/lang/invoke/MethodHandle" ∧ yX8_set.cls ≠ "java/lang/invoke/VarHandle" ∧ (parseMethodDescriptor yX8_set.desc).map (fun d => d.parameters.length) = some 2) := ⟨tbm (i := 36) (by decide +kernel) (by decide +kernel), tbm (i := 659) (by decide +kernel) (by decide +kernel), by decide +kernel⟩
theorem yk_X4_least : Cond.initialized yX4_least.cls ∈ TB ∧ Cond.code yX4_least cX4_least 1 (some .int) ∈ TB ∧ (yX4_least.cls ≠ "java/lang/invoke/MethodHandle" ∧ yX4_least.cls ≠ "java/lang/invoke/VarHandle" ∧ (parseMethodDescriptor yX4_least.desc).map (fun d => d.parameters.length) = some 1) := ⟨tbm (i := 42) (by decide +kernel) (by decide +kernel), tbm (i := 662) (by decide +kernel) (by decide +kernel), by decide +kernel⟩
theorem yk_X4_most : Cond.initialized yX4_most.cls ∈ TB ∧ Cond.code yX4_most cX4_most 1 (some .int) ∈ TB ∧ (yX4_most.cls ≠ "java/lang/invoke/MethodHandle" ∧ yX4_most.cls ≠ "java/lang/invoke/VarHandle" ∧ (parseMethodDescriptor yX4_most.desc).map (fun d => d.parameters.length) = some 1) := ⟨tbm (i := 42) (by decide +kernel) (by decide +kernel), tbm (i := 665) (by decide +kernel) (by decide +kernel), by decide +kernel⟩
theorem yk_X4_change : Cond.initialized yX4_change.cls ∈ TB ∧ Cond.code yX4_change cX4_change 3 none ∈ TB ∧ (yX4_change.cls ≠ "java/lang/invoke/MethodHandle" ∧ yX4_change.cls ≠ "java/lang/invoke/VarHandle" ∧ (parseMethodDescriptor yX4_change.desc).map (fun d => d.parameters.length) = some 2) := ⟨tbm (i := 42) (by decide +kernel) (by decide +kernel), tbm (i := 669) (by decide +kernel) (by decide +kernel), by decide +kernel⟩
theorem yk_X8_append : Cond.initialized yX8_append.cls ∈ TB ∧ Cond.code yX8_append cX8_append 2 (some .int) ∈ TB ∧ (yX8_append.cls ≠ "java/lang/invoke/MethodHandle" ∧ yX8_append.cls ≠ "java/lang/invoke/VarHandle" ∧ (parseMethodDescriptor yX8_append.desc).map (fun d => d.parameters.length) = some 1) := ⟨tbm (i := 36) (by decide +kernel) (by decide +kernel), tbm (i := 676) (by decide +kernel) (by decide +kernel), by decide +kernel⟩
theorem yk_X7_add : Cond.initialized yX7_add.cls ∈ TB ∧ Cond.code yX7_add cX7_add 2 none ∈ TB ∧ (yX7_add.cls ≠ "java/lang/invoke/MethodHandle" ∧ yX7_add.cls ≠ "java/lang/invoke/VarHandle" ∧ (parseMethodDescriptor yX7_add.desc).map (fun d => d.parameters.length) = some 1) := ⟨tbm (i := 44) (by decide +kernel) (by decide +kernel), tbm (i := 680) (by decide +kernel) (by decide +kernel), by decide +kernel⟩
theorem yk_X8_play : Cond.initialized yX8_play.cls ∈ TB ∧ Cond.code yX8_play cX8_play 4 (some .int) ∈ TB ∧ (yX8_play.cls ≠ "java/lang/invoke/MethodHandle" ∧ yX8_play.cls ≠ "java/lang/invoke/VarHandle" ∧ (parseMethodDescriptor yX8_play.desc).map (fun d => d.parameters.length) = some 0) := ⟨tbm (i := 36) (by decide +kernel) (by decide +kernel), tbm (i := 687) (by decide +kernel) (by decide +kernel), by decide +kernel⟩
theorem yk_X7_isComplete : Cond.initialized yX7_isComplete.cls ∈ TB ∧ Cond.code yX7_isComplete cX7_isComplete 3 (some .boolean) ∈ TB ∧ (yX7_isComplete.cls ≠ "java/lang/invoke/MethodHandle" ∧ yX7_isComplete.cls ≠ "java/lang/invoke/VarHandle" ∧ (parseMethodDescriptor yX7_isComplete.desc).map (fun d => d.parameters.length) = some 0) := ⟨tbm (i := 44) (by decide +kernel) (by decide +kernel), tbm (i := 691) (by decide +kernel) (by decide +kernel), by decide +kernel⟩
theorem yk_X7_endsPart : Cond.initialized yX7_endsPart.cls ∈ TB ∧ Cond.code yX7_endsPart cX7_endsPart 2 (some .boolean) ∈ TB ∧ (yX7_endsPart.cls ≠ "java/lang/invoke/MethodHandle" ∧ yX7_endsPart.cls ≠ "java/lang/invoke/VarHandle" ∧ (parseMethodDescriptor yX7_endsPart.desc).map (fun d => d.parameters.length) = some 1) := ⟨tbm (i := 44) (by decide +kernel) (by decide +kernel), tbm (i := 695) (by decide +kernel) (by decide +kernel), by decide +kernel⟩
theorem yk_X8_playPart : Cond.initialized yX8_playPart.cls ∈ TB ∧ Cond.code yX8_playPart cX8_playPart 4 (some .boolean) ∈ TB ∧ (yX8_playPart.cls ≠ "java/lang/invoke/MethodHandle" ∧ yX8_playPart.cls ≠ "java/lang/invoke/VarHandle" ∧ (parseMethodDescriptor yX8_playPart.desc).map (fun d => d.parameters.length) = some 2) := ⟨tbm (i := 36) (by decide +kernel) (by decide +kernel), tbm (i := 699) (by decide +kernel) (by decide +kernel), by decide +kernel⟩
theorem yk_X7_digit : Cond.initialized yX7_digit.cls ∈ TB ∧ Cond.code yX7_digit cX7_digit 3 (some .int) ∈ TB ∧ (yX7_digit.cls ≠ "java/lang/invoke/MethodHandle" ∧ yX7_digit.cls ≠ "java/lang/invoke/VarHandle" ∧ (parseMethodDescriptor yX7_digit.desc).map (fun d => d.parameters.length) = some 1) := ⟨tbm (i := 44) (by decide +kernel) (by decide +kernel), tbm (i := 703) (by decide +kernel) (by decide +kernel), by decide +kernel⟩
theorem yk_X7_mask : Cond.initialized yX7_mask.cls ∈ TB ∧ Cond.code yX7_mask cX7_mask 6 (some .int) ∈ TB ∧ (yX7_mask.cls ≠ "java/lang/invoke/MethodHandle" ∧ yX7_mask.cls ≠ "java/lang/invoke/VarHandle" ∧ (parseMethodDescriptor yX7_mask.desc).map (fun d => d.parameters.length) = some 2) := ⟨tbm (i := 44) (by decide +kernel) (by decide +kernel), tbm (i := 707) (by decide +kernel) (by decide +kernel), by decide +kernel⟩
theorem yk_X6_shutDoor : Cond.initialized yX6_shutDoor.cls ∈ TB ∧ Cond.code yX6_shutDoor cX6_shutDoor 2 (some .boolean) ∈ TB ∧ (yX6_shutDoor.cls ≠ "java/lang/invoke/MethodHandle" ∧ yX6_shutDoor.cls ≠ "java/lang/invoke/VarHandle" ∧ (parseMethodDescriptor yX6_shutDoor.desc).map (fun d => d.parameters.length) = some 1) := ⟨tbm (i := 37) (by decide +kernel) (by decide +kernel), tbm (i := 713) (by decide +kernel) (by decide +kernel), by decide +kernel⟩
theorem yk_X8_undo : Cond.initialized yX8_undo.cls ∈ TB ∧ Cond.code yX8_undo cX8_undo 1 (some .int) ∈ TB ∧ (yX8_undo.cls ≠ "java/lang/invoke/MethodHandle" ∧ yX8_undo.cls ≠ "java/lang/invoke/VarHandle" ∧ (parseMethodDescriptor yX8_undo.desc).map (fun d => d.parameters.length) = some 0) := ⟨tbm (i := 36) (by decide +kernel) (by decide +kernel), tbm (i := 720) (by decide +kernel) (by decide +kernel), by decide +kernel⟩
theorem yk_X3_restore : Cond.initialized yX3_restore.cls ∈ TB ∧ Cond.code yX3_restore cX3_restore 2 none ∈ TB ∧ (yX3_restore.cls ≠ "java/lang/invoke/MethodHandle" ∧ yX3_restore.cls ≠ "java/lang/invoke/VarHandle" ∧ (parseMethodDescriptor yX3_restore.desc).map (fun d => d.parameters.length) = some 1) := ⟨tbm (i := 43) (by decide +kernel) (by decide +kernel), tbm (i := 724) (by decide +kernel) (by decide +kernel), by decide +kernel⟩
theorem yk_X8_fob : Cond.initialized yX8_fob.cls ∈ TB ∧ Cond.code yX8_fob cX8_fob 3 (some .int) ∈ TB ∧ (yX8_fob.cls ≠ "java/lang/invoke/MethodHandle" ∧ yX8_fob.cls ≠ "java/lang/invoke/VarHandle" ∧ (parseMethodDescriptor yX8_fob.desc).map (fun d => d.parameters.length) = some 2) := ⟨tbm (i := 36) (by decide +kernel) (by decide +kernel), tbm (i := 731) (by decide +kernel) (by decide +kernel), by decide +kernel⟩
theorem yk_X8_slot : Cond.initialized yX8_slot.cls ∈ TB ∧ Cond.code yX8_slot cX8_slot 4 (some .int) ∈ TB ∧ (yX8_slot.cls ≠ "java/lang/invoke/MethodHandle" ∧ yX8_slot.cls ≠ "java/lang/invoke/VarHandle" ∧ (parseMethodDescriptor yX8_slot.desc).map (fun d => d.parameters.length) = some 3) := ⟨tbm (i := 36) (by decide +kernel) (by decide +kernel), tbm (i := 738) (by decide +kernel) (by decide +kernel), by decide +kernel⟩
theorem yk_X8_door : Cond.initialized yX8_door.cls ∈ TB ∧ Cond.code yX8_door cX8_door 3 (some .int) ∈ TB ∧ (yX8_door.cls ≠ "java/lang/invoke/MethodHandle" ∧ yX8_door.cls ≠ "java/lang/invoke/VarHandle" ∧ (parseMethodDescriptor yX8_door.desc).map (fun d => d.parameters.length) = some 2) := ⟨tbm (i := 36) (by decide +kernel) (by decide +kernel), tbm (i := 745) (by decide +kernel) (by decide +kernel), by decide +kernel⟩
theorem yk_X8_air : Cond.initialized yX8_air.cls ∈ TB ∧ Cond.code yX8_air cX8_air 2 (some .int) ∈ TB ∧ (yX8_air.cls ≠ "java/lang/invoke/MethodHandle" ∧ yX8_air.cls ≠ "java/lang/invoke/VarHandle" ∧ (parseMethodDescriptor yX8_air.desc).map (fun d => d.parameters.length) = some 1) := ⟨tbm (i := 36) (by decide +kernel) (by decide +kernel), tbm (i := 752) (by decide +kernel) (by decide +kernel), by decide +kernel⟩
theorem yk_X8_count : Cond.initialized yX8_count.cls ∈ TB ∧ Cond.code yX8_count cX8_count 2 (some .int) ∈ TB ∧ (yX8_count.cls ≠ "java/lang/invoke/MethodHandle" ∧ yX8_count.cls ≠ "java/lang/invoke/VarHandle" ∧ (parseMethodDescriptor yX8_count.desc).map (fun d => d.parameters.length) = some 1) := ⟨tbm (i := 36) (by decide +kernel) (by decide +kernel), tbm (i := 759) (by decide +kernel) (by decide +kernel), by decide +kernel⟩
theorem yk_X8_setting : Cond.initialized yX8_setting.cls ∈ TB ∧ Cond.code yX8_setting cX8_setting 2 (some .int) ∈ TB ∧ (yX8_setting.cls ≠ "java/lang/invoke/MethodHandle" ∧ yX8_setting.cls ≠ "java/lang/invoke/VarHandle" ∧ (parseMethodDescriptor yX8_setting.desc).map (fun d => d.parameters.length) = some 1) := ⟨tbm (i := 36) (by decide +kernel) (by decide +kernel), tbm (i := 766) (by decide +kernel) (by decide +kernel), by decide +kernel⟩
theorem yk_X8_ifHeard : Cond.initialized yX8_ifHeard.cls ∈ TB ∧ Cond.code yX8_ifHeard cX8_ifHeard 3 (some .int) ∈ TB ∧ (yX8_ifHeard.cls ≠ "java/lang/invoke/MethodHandle" ∧ yX8_ifHeard.cls ≠ "java/lang/invoke/VarHandle" ∧ (parseMethodDescriptor yX8_ifHeard.desc).map (fun d => d.parameters.length) = some 2) := ⟨tbm (i := 36) (by decide +kernel) (by decide +kernel), tbm (i := 773) (by decide +kernel) (by decide +kernel), by decide +kernel⟩
theorem yk_X8_opensIn : Cond.initialized yX8_opensIn.cls ∈ TB ∧ Cond.code yX8_opensIn cX8_opensIn 3 (some .int) ∈ TB ∧ (yX8_opensIn.cls ≠ "java/lang/invoke/MethodHandle" ∧ yX8_opensIn.cls ≠ "java/lang/invoke/VarHandle" ∧ (parseMethodDescriptor yX8_opensIn.desc).map (fun d => d.parameters.length) = some 2) := ⟨tbm (i := 36) (by decide +kernel) (by decide +kernel), tbm (i := 780) (by decide +kernel) (by decide +kernel), by decide +kernel⟩
theorem yk_X8_unheard : Cond.initialized yX8_unheard.cls ∈ TB ∧ Cond.code yX8_unheard cX8_unheard 3 (some .int) ∈ TB ∧ (yX8_unheard.cls ≠ "java/lang/invoke/MethodHandle" ∧ yX8_unheard.cls ≠ "java/lang/invoke/VarHandle" ∧ (parseMethodDescriptor yX8_unheard.desc).map (fun d => d.parameters.length) = some 2) := ⟨tbm (i := 36) (by decide +kernel) (by decide +kernel), tbm (i := 787) (by decide +kernel) (by decide +kernel), by decide +kernel⟩
theorem yk_X8_useful : Cond.initialized yX8_useful.cls ∈ TB ∧ Cond.code yX8_useful cX8_useful 2 (some .int) ∈ TB ∧ (yX8_useful.cls ≠ "java/lang/invoke/MethodHandle" ∧ yX8_useful.cls ≠ "java/lang/invoke/VarHandle" ∧ (parseMethodDescriptor yX8_useful.desc).map (fun d => d.parameters.length) = some 1) := ⟨tbm (i := 36) (by decide +kernel) (by decide +kernel), tbm (i := 794) (by decide +kernel) (by decide +kernel), by decide +kernel⟩
theorem yk_X9_thrown : Cond.initialized yX9_thrown.cls ∈ TB ∧ Cond.code yX9_thrown cX9_thrown 1 (some .int) ∈ TB ∧ (yX9_thrown.cls ≠ "java/lang/invoke/MethodHandle" ∧ yX9_thrown.cls ≠ "java/lang/invoke/VarHandle" ∧ (parseMethodDescriptor yX9_thrown.desc).map (fun d => d.parameters.length) = some 0) := ⟨tbm (i := 45) (by decide +kernel) (by decide +kernel), tbm (i := 844) (by decide +kernel) (by decide +kernel), by decide +kernel⟩
theorem yk_X9_undo : Cond.initialized yX9_undo.cls ∈ TB ∧ Cond.code yX9_undo cX9_undo 1 (some .int) ∈ TB ∧ (yX9_undo.cls ≠ "java/lang/invoke/MethodHandle" ∧ yX9_undo.cls ≠ "java/lang/invoke/VarHandle" ∧ (parseMethodDescriptor yX9_undo.desc).map (fun d => d.parameters.length) = some 0) := ⟨tbm (i := 45) (by decide +kernel) (by decide +kernel), tbm (i := 848) (by decide +kernel) (by decide +kernel), by decide +kernel⟩
theorem yk_X9_fails : Cond.initialized yX9_fails.cls ∈ TB ∧ Cond.code yX9_fails cX9_fails 2 (some .int) ∈ TB ∧ (yX9_fails.cls ≠ "java/lang/invoke/MethodHandle" ∧ yX9_fails.cls ≠ "java/lang/invoke/VarHandle" ∧ (parseMethodDescriptor yX9_fails.desc).map (fun d => d.parameters.length) = some 1) := ⟨tbm (i := 45) (by decide +kernel) (by decide +kernel), tbm (i := 852) (by decide +kernel) (by decide +kernel), by decide +kernel⟩
theorem yk_X9_copies : Cond.initialized yX9_copies.cls ∈ TB ∧ Cond.code yX9_copies cX9_copies 5 none ∈ TB ∧ (yX9_copies.cls ≠ "java/lang/invoke/MethodHandle" ∧ yX9_copies.cls ≠ "java/lang/invoke/VarHandle" ∧ (parseMethodDescriptor yX9_copies.desc).map (fun d => d.parameters.length) = some 4) := ⟨tbm (i := 45) (by decide +kernel) (by decide +kernel), tbm (i := 855) (by decide +kernel) (by decide +kernel), by decide +kernel⟩
theorem yk_X9_make : Cond.initialized yX9_make.cls ∈ TB ∧ Cond.code yX9_make cX9_make 4 (some .int) ∈ TB ∧ (yX9_make.cls ≠ "java/lang/invoke/MethodHandle" ∧ yX9_make.cls ≠ "java/lang/invoke/VarHandle" ∧ (parseMethodDescriptor yX9_make.desc).map (fun d => d.parameters.length) = some 3) := ⟨tbm (i := 45) (by decide +kernel) (by decide +kernel), tbm (i := 859) (by decide +kernel) (by decide +kernel), by decide +kernel⟩
theorem yk_X9_isFob : Cond.initialized yX9_isFob.cls ∈ TB ∧ Cond.code yX9_isFob cX9_isFob 1 (some .boolean) ∈ TB ∧ (yX9_isFob.cls ≠ "java/lang/invoke/MethodHandle" ∧ yX9_isFob.cls ≠ "java/lang/invoke/VarHandle" ∧ (parseMethodDescriptor yX9_isFob.desc).map (fun d => d.parameters.length) = some 1) := ⟨tbm (i := 45) (by decide +kernel) (by decide +kernel), tbm (i := 862) (by decide +kernel) (by decide +kernel), by decide +kernel⟩
theorem yk_X9_in : Cond.initialized yX9_in.cls ∈ TB ∧ Cond.code yX9_in cX9_in 3 (some .boolean) ∈ TB ∧ (yX9_in.cls ≠ "java/lang/invoke/MethodHandle" ∧ yX9_in.cls ≠ "java/lang/invoke/VarHandle" ∧ (parseMethodDescriptor yX9_in.desc).map (fun d => d.parameters.length) = some 3) := ⟨tbm (i := 45) (by decide +kernel) (by decide +kernel), tbm (i := 865) (by decide +kernel) (by decide +kernel), by decide +kernel⟩
theorem yk_X9_saves : Cond.initialized yX9_saves.cls ∈ TB ∧ Cond.code yX9_saves cX9_saves 2 none ∈ TB ∧ (yX9_saves.cls ≠ "java/lang/invoke/MethodHandle" ∧ yX9_saves.cls ≠ "java/lang/invoke/VarHandle" ∧ (parseMethodDescriptor yX9_saves.desc).map (fun d => d.parameters.length) = some 0) := ⟨tbm (i := 45) (by decide +kernel) (by decide +kernel), tbm (i := 869) (by decide +kernel) (by decide +kernel), by decide +kernel⟩
theorem yk_X9_changes : Cond.initialized yX9_changes.cls ∈ TB ∧ Cond.code yX9_changes cX9_changes 4 (some .int) ∈ TB ∧ (yX9_changes.cls ≠ "java/lang/invoke/MethodHandle" ∧ yX9_changes.cls ≠ "java/lang/invoke/VarHandle" ∧ (parseMethodDescriptor yX9_changes.desc).map (fun d => d.parameters.length) = some 2) := ⟨tbm (i := 45) (by decide +kernel) (by decide +kernel), tbm (i := 873) (by decide +kernel) (by decide +kernel), by decide +kernel⟩
theorem yk_X9_battery : Cond.initialized yX9_battery.cls ∈ TB ∧ Cond.code yX9_battery cX9_battery 3 (some .int) ∈ TB ∧ (yX9_battery.cls ≠ "java/lang/invoke/MethodHandle" ∧ yX9_battery.cls ≠ "java/lang/invoke/VarHandle" ∧ (parseMethodDescriptor yX9_battery.desc).map (fun d => d.parameters.length) = some 2) := ⟨tbm (i := 45) (by decide +kernel) (by decide +kernel), tbm (i := 877) (by decide +kernel) (by decide +kernel), by decide +kernel⟩
theorem yk_X9_press : Cond.initialized yX9_press.cls ∈ TB ∧ Cond.code yX9_press cX9_press 3 (some .int) ∈ TB ∧ (yX9_press.cls ≠ "java/lang/invoke/MethodHandle" ∧ yX9_press.cls ≠ "java/lang/invoke/VarHandle" ∧ (parseMethodDescriptor yX9_press.desc).map (fun d => d.parameters.length) = some 2) := ⟨tbm (i := 45) (by decide +kernel) (by decide +kernel), tbm (i := 881) (by decide +kernel) (by decide +kernel), by decide +kernel⟩
theorem yk_X9_presses : Cond.initialized yX9_presses.cls ∈ TB ∧ Cond.code yX9_presses cX9_presses 7 (some .int) ∈ TB ∧ (yX9_presses.cls ≠ "java/lang/invoke/MethodHandle" ∧ yX9_presses.cls ≠ "java/lang/invoke/VarHandle" ∧ (parseMethodDescriptor yX9_presses.desc).map (fun d => d.parameters.length) = some 3) := ⟨tbm (i := 45) (by decide +kernel) (by decide +kernel), tbm (i := 885) (by decide +kernel) (by decide +kernel), by decide +kernel⟩
theorem yk_X9_next : Cond.initialized yX9_next.cls ∈ TB ∧ Cond.code yX9_next cX9_next 2 (some .int) ∈ TB ∧ (yX9_next.cls ≠ "java/lang/invoke/MethodHandle" ∧ yX9_next.cls ≠ "java/lang/invoke/VarHandle" ∧ (parseMethodDescriptor yX9_next.desc).map (fun d => d.parameters.length) = some 2) := ⟨tbm (i := 45) (by decide +kernel) (by decide +kernel), tbm (i := 888) (by decide +kernel) (by decide +kernel), by decide +kernel⟩
theorem yk_X9_ahead : Cond.initialized yX9_ahead.cls ∈ TB ∧ Cond.code yX9_ahead cX9_ahead 2 (some .int) ∈ TB ∧ (yX9_ahead.cls ≠ "java/lang/invoke/MethodHandle" ∧ yX9_ahead.cls ≠ "java/lang/invoke/VarHandle" ∧ (parseMethodDescriptor yX9_ahead.desc).map (fun d => d.parameters.length) = some 2) := ⟨tbm (i := 45) (by decide +kernel) (by decide +kernel), tbm (i := 891) (by decide +kernel) (by decide +kernel), by decide +kernel⟩
theorem yk_X9_numberOf : Cond.initialized yX9_numberOf.cls ∈ TB ∧ Cond.code yX9_numberOf cX9_numberOf 2 (some .int) ∈ TB ∧ (yX9_numberOf.cls ≠ "java/lang/invoke/MethodHandle" ∧ yX9_numberOf.cls ≠ "java/lang/invoke/VarHandle" ∧ (parseMethodDescriptor yX9_numberOf.desc).map (fun d => d.parameters.length) = some 2) := ⟨tbm (i := 45) (by decide +kernel) (by decide +kernel), tbm (i := 894) (by decide +kernel) (by decide +kernel), by decide +kernel⟩
theorem yk_X9_heard : Cond.initialized yX9_heard.cls ∈ TB ∧ Cond.code yX9_heard cX9_heard 6 (some .int) ∈ TB ∧ (yX9_heard.cls ≠ "java/lang/invoke/MethodHandle" ∧ yX9_heard.cls ≠ "java/lang/invoke/VarHandle" ∧ (parseMethodDescriptor yX9_heard.desc).map (fun d => d.parameters.length) = some 3) := ⟨tbm (i := 45) (by decide +kernel) (by decide +kernel), tbm (i := 900) (by decide +kernel) (by decide +kernel), by decide +kernel⟩
theorem yk_X9_hears : Cond.initialized yX9_hears.cls ∈ TB ∧ Cond.code yX9_hears cX9_hears 8 (some .boolean) ∈ TB ∧ (yX9_hears.cls ≠ "java/lang/invoke/MethodHandle" ∧ yX9_hears.cls ≠ "java/lang/invoke/VarHandle" ∧ (parseMethodDescriptor yX9_hears.desc).map (fun d => d.parameters.length) = some 3) := ⟨tbm (i := 45) (by decide +kernel) (by decide +kernel), tbm (i := 904) (by decide +kernel) (by decide +kernel), by decide +kernel⟩
theorem yk_X9_would : Cond.initialized yX9_would.cls ∈ TB ∧ Cond.code yX9_would cX9_would 6 (some .int) ∈ TB ∧ (yX9_would.cls ≠ "java/lang/invoke/MethodHandle" ∧ yX9_would.cls ≠ "java/lang/invoke/VarHandle" ∧ (parseMethodDescriptor yX9_would.desc).map (fun d => d.parameters.length) = some 3) := ⟨tbm (i := 45) (by decide +kernel) (by decide +kernel), tbm (i := 908) (by decide +kernel) (by decide +kernel), by decide +kernel⟩
theorem yk_X9_isLocked : Cond.initialized yX9_isLocked.cls ∈ TB ∧ Cond.code yX9_isLocked cX9_isLocked 2 (some .boolean) ∈ TB ∧ (yX9_isLocked.cls ≠ "java/lang/invoke/MethodHandle" ∧ yX9_isLocked.cls ≠ "java/lang/invoke/VarHandle" ∧ (parseMethodDescriptor yX9_isLocked.desc).map (fun d => d.parameters.length) = some 2) := ⟨tbm (i := 45) (by decide +kernel) (by decide +kernel), tbm (i := 911) (by decide +kernel) (by decide +kernel), by decide +kernel⟩
theorem yk_X9_looks : Cond.initialized yX9_looks.cls ∈ TB ∧ Cond.code yX9_looks cX9_looks 7 none ∈ TB ∧ (yX9_looks.cls ≠ "java/lang/invoke/MethodHandle" ∧ yX9_looks.cls ≠ "java/lang/invoke/VarHandle" ∧ (parseMethodDescriptor yX9_looks.desc).map (fun d => d.parameters.length) = some 3) := ⟨tbm (i := 45) (by decide +kernel) (by decide +kernel), tbm (i := 915) (by decide +kernel) (by decide +kernel), by decide +kernel⟩
theorem yk_X9_slotAt : Cond.initialized yX9_slotAt.cls ∈ TB ∧ Cond.code yX9_slotAt cX9_slotAt 2 (some .int) ∈ TB ∧ (yX9_slotAt.cls ≠ "java/lang/invoke/MethodHandle" ∧ yX9_slotAt.cls ≠ "java/lang/invoke/VarHandle" ∧ (parseMethodDescriptor yX9_slotAt.desc).map (fun d => d.parameters.length) = some 2) := ⟨tbm (i := 45) (by decide +kernel) (by decide +kernel), tbm (i := 918) (by decide +kernel) (by decide +kernel), by decide +kernel⟩
theorem yk_X9_again : Cond.initialized yX9_again.cls ∈ TB ∧ Cond.code yX9_again cX9_again 3 (some .int) ∈ TB ∧ (yX9_again.cls ≠ "java/lang/invoke/MethodHandle" ∧ yX9_again.cls ≠ "java/lang/invoke/VarHandle" ∧ (parseMethodDescriptor yX9_again.desc).map (fun d => d.parameters.length) = some 2) := ⟨tbm (i := 45) (by decide +kernel) (by decide +kernel), tbm (i := 922) (by decide +kernel) (by decide +kernel), by decide +kernel⟩
theorem yk_X9_sends : Cond.initialized yX9_sends.cls ∈ TB ∧ Cond.code yX9_sends cX9_sends 4 (some .int) ∈ TB ∧ (yX9_sends.cls ≠ "java/lang/invoke/MethodHandle" ∧ yX9_sends.cls ≠ "java/lang/invoke/VarHandle" ∧ (parseMethodDescriptor yX9_sends.desc).map (fun d => d.parameters.length) = some 2) := ⟨tbm (i := 45) (by decide +kernel) (by decide +kernel), tbm (i := 926) (by decide +kernel) (by decide +kernel), by decide +kernel⟩
theorem yk_X9_ones : Cond.initialized yX9_ones.cls ∈ TB ∧ Cond.code yX9_ones cX9_ones 1 (some .int) ∈ TB ∧ (yX9_ones.cls ≠ "java/lang/invoke/MethodHandle" ∧ yX9_ones.cls ≠ "java/lang/invoke/VarHandle" ∧ (parseMethodDescriptor yX9_ones.desc).map (fun d => d.parameters.length) = some 1) := ⟨tbm (i := 45) (by decide +kernel) (by decide +kernel), tbm (i := 929) (by decide +kernel) (by decide +kernel), by decide +kernel⟩
theorem yk_X9_learn : Cond.initialized yX9_learn.cls ∈ TB ∧ Cond.code yX9_learn cX9_learn 5 (some .int) ∈ TB ∧ (yX9_learn.cls ≠ "java/lang/invoke/MethodHandle" ∧ yX9_learn.cls ≠ "java/lang/invoke/VarHandle" ∧ (parseMethodDescriptor yX9_learn.desc).map (fun d => d.parameters.length) = some 3) := ⟨tbm (i := 45) (by decide +kernel) (by decide +kernel), tbm (i := 933) (by decide +kernel) (by decide +kernel), by decide +kernel⟩
theorem yk_X9_isSlot : Cond.initialized yX9_isSlot.cls ∈ TB ∧ Cond.code yX9_isSlot cX9_isSlot 2 (some .boolean) ∈ TB ∧ (yX9_isSlot.cls ≠ "java/lang/invoke/MethodHandle" ∧ yX9_isSlot.cls ≠ "java/lang/invoke/VarHandle" ∧ (parseMethodDescriptor yX9_isSlot.desc).map (fun d => d.parameters.length) = some 2) := ⟨tbm (i := 45) (by decide +kernel) (by decide +kernel), tbm (i := 936) (by decide +kernel) (by decide +kernel), by decide +kernel⟩
theorem yk_X9_isDoor : Cond.initialized yX9_isDoor.cls ∈ TB ∧ Cond.code yX9_isDoor cX9_isDoor 1 (some .boolean) ∈ TB ∧ (yX9_isDoor.cls ≠ "java/lang/invoke/MethodHandle" ∧ yX9_isDoor.cls ≠ "java/lang/invoke/VarHandle" ∧ (parseMethodDescriptor yX9_isDoor.desc).map (fun d => d.parameters.length) = some 1) := ⟨tbm (i := 45) (by decide +kernel) (by decide +kernel), tbm (i := 939) (by decide +kernel) (by decide +kernel), by decide +kernel⟩
theorem yk_X9_learnt : Cond.initialized yX9_learnt.cls ∈ TB ∧ Cond.code yX9_learnt cX9_learnt 4 (some .int) ∈ TB ∧ (yX9_learnt.cls ≠ "java/lang/invoke/MethodHandle" ∧ yX9_learnt.cls ≠ "java/lang/invoke/VarHandle" ∧ (parseMethodDescriptor yX9_learnt.desc).map (fun d => d.parameters.length) = some 1) := ⟨tbm (i := 45) (by decide +kernel) (by decide +kernel), tbm (i := 943) (by decide +kernel) (by decide +kernel), by decide +kernel⟩
theorem yk_X9_forget : Cond.initialized yX9_forget.cls ∈ TB ∧ Cond.code yX9_forget cX9_forget 3 (some .int) ∈ TB ∧ (yX9_forget.cls ≠ "java/lang/invoke/MethodHandle" ∧ yX9_forget.cls ≠ "java/lang/invoke/VarHandle" ∧ (parseMethodDescriptor yX9_forget.desc).map (fun d => d.parameters.length) = some 2) := ⟨tbm (i := 45) (by decide +kernel) (by decide +kernel), tbm (i := 947) (by decide +kernel) (by decide +kernel), by decide +kernel⟩
theorem yk_X9_shut : Cond.initialized yX9_shut.cls ∈ TB ∧ Cond.code yX9_shut cX9_shut 2 (some .int) ∈ TB ∧ (yX9_shut.cls ≠ "java/lang/invoke/MethodHandle" ∧ yX9_shut.cls ≠ "java/lang/invoke/VarHandle" ∧ (parseMethodDescriptor yX9_shut.desc).map (fun d => d.parameters.length) = some 1) := ⟨tbm (i := 45) (by decide +kernel) (by decide +kernel), tbm (i := 951) (by decide +kernel) (by decide +kernel), by decide +kernel⟩
theorem yk_X9_unlock : Cond.initialized yX9_unlock.cls ∈ TB ∧ Cond.code yX9_unlock cX9_unlock 2 (some .int) ∈ TB ∧ (yX9_unlock.cls ≠ "java/lang/invoke/MethodHandle" ∧ yX9_unlock.cls ≠ "java/lang/invoke/VarHandle" ∧ (parseMethodDescriptor yX9_unlock.desc).map (fun d => d.parameters.length) = some 1) := ⟨tbm (i := 45) (by decide +kernel) (by decide +kernel), tbm (i := 955) (by decide +kernel) (by decide +kernel), by decide +kernel⟩
theorem yk_X9_set : Cond.initialized yX9_set.cls ∈ TB ∧ Cond.code yX9_set cX9_set 3 (some .int) ∈ TB ∧ (yX9_set.cls ≠ "java/lang/invoke/MethodHandle" ∧ yX9_set.cls ≠ "java/lang/invoke/VarHandle" ∧ (parseMethodDescriptor yX9_set.desc).map (fun d => d.parameters.length) = some 2) := ⟨tbm (i := 45) (by decide +kernel) (by decide +kernel), tbm (i := 959) (by decide +kernel) (by decide +kernel), by decide +kernel⟩
theorem yk_X9_append : Cond.initialized yX9_append.cls ∈ TB ∧ Cond.code yX9_append cX9_append 2 (some .int) ∈ TB ∧ (yX9_append.cls ≠ "java/lang/invoke/MethodHandle" ∧ yX9_append.cls ≠ "java/lang/invoke/VarHandle" ∧ (parseMethodDescriptor yX9_append.desc).map (fun d => d.parameters.length) = some 1) := ⟨tbm (i := 45) (by decide +kernel) (by decide +kernel), tbm (i := 963) (by decide +kernel) (by decide +kernel), by decide +kernel⟩
theorem yk_X9_clearBuffer : Cond.initialized yX9_clearBuffer.cls ∈ TB ∧ Cond.code yX9_clearBuffer cX9_clearBuffer 2 (some .int) ∈ TB ∧ (yX9_clearBuffer.cls ≠ "java/lang/invoke/MethodHandle" ∧ yX9_clearBuffer.cls ≠ "java/lang/invoke/VarHandle" ∧ (parseMethodDescriptor yX9_clearBuffer.desc).map (fun d => d.parameters.length) = some 0) := ⟨tbm (i := 45) (by decide +kernel) (by decide +kernel), tbm (i := 967) (by decide +kernel) (by decide +kernel), by decide +kernel⟩
theorem yk_X9_firstError : Cond.initialized yX9_firstError.cls ∈ TB ∧ Cond.code yX9_firstError cX9_firstError 2 (some .int) ∈ TB ∧ (yX9_firstError.cls ≠ "java/lang/invoke/MethodHandle" ∧ yX9_firstError.cls ≠ "java/lang/invoke/VarHandle" ∧ (parseMethodDescriptor yX9_firstError.desc).map (fun d => d.parameters.length) = some 0) := ⟨tbm (i := 45) (by decide +kernel) (by decide +kernel), tbm (i := 971) (by decide +kernel) (by decide +kernel), by decide +kernel⟩
theorem yk_X9_isText : Cond.initialized yX9_isText.cls ∈ TB ∧ Cond.code yX9_isText cX9_isText 2 (some .boolean) ∈ TB ∧ (yX9_isText.cls ≠ "java/lang/invoke/MethodHandle" ∧ yX9_isText.cls ≠ "java/lang/invoke/VarHandle" ∧ (parseMethodDescriptor yX9_isText.desc).map (fun d => d.parameters.length) = some 0) := ⟨tbm (i := 45) (by decide +kernel) (by decide +kernel), tbm (i := 975) (by decide +kernel) (by decide +kernel), by decide +kernel⟩
theorem yk_X9_isPart : Cond.initialized yX9_isPart.cls ∈ TB ∧ Cond.code yX9_isPart cX9_isPart 2 (some .boolean) ∈ TB ∧ (yX9_isPart.cls ≠ "java/lang/invoke/MethodHandle" ∧ yX9_isPart.cls ≠ "java/lang/invoke/VarHandle" ∧ (parseMethodDescriptor yX9_isPart.desc).map (fun d => d.parameters.length) = some 0) := ⟨tbm (i := 45) (by decide +kernel) (by decide +kernel), tbm (i := 979) (by decide +kernel) (by decide +kernel), by decide +kernel⟩
theorem yk_X9_stops : Cond.initialized yX9_stops.cls ∈ TB ∧ Cond.code yX9_stops cX9_stops 1 (some .boolean) ∈ TB ∧ (yX9_stops.cls ≠ "java/lang/invoke/MethodHandle" ∧ yX9_stops.cls ≠ "java/lang/invoke/VarHandle" ∧ (parseMethodDescriptor yX9_stops.desc).map (fun d => d.parameters.length) = some 0) := ⟨tbm (i := 45) (by decide +kernel) (by decide +kernel), tbm (i := 983) (by decide +kernel) (by decide +kernel), by decide +kernel⟩
theorem yk_X9_isDigit : Cond.initialized yX9_isDigit.cls ∈ TB ∧ Cond.code yX9_isDigit cX9_isDigit 2 (some .boolean) ∈ TB ∧ (yX9_isDigit.cls ≠ "java/lang/invoke/MethodHandle" ∧ yX9_isDigit.cls ≠ "java/lang/invoke/VarHandle" ∧ (parseMethodDescriptor yX9_isDigit.desc).map (fun d => d.parameters.length) = some 1) := ⟨tbm (i := 45) (by decide +kernel) (by decide +kernel), tbm (i := 987) (by decide +kernel) (by decide +kernel), by decide +kernel⟩
theorem yk_X9_isAt : Cond.initialized yX9_isAt.cls ∈ TB ∧ Cond.code yX9_isAt cX9_isAt 3 (some .boolean) ∈ TB ∧ (yX9_isAt.cls ≠ "java/lang/invoke/MethodHandle" ∧ yX9_isAt.cls ≠ "java/lang/invoke/VarHandle" ∧ (parseMethodDescriptor yX9_isAt.desc).map (fun d => d.parameters.length) = some 2) := ⟨tbm (i := 45) (by decide +kernel) (by decide +kernel), tbm (i := 991) (by decide +kernel) (by decide +kernel), by decide +kernel⟩
theorem yk_X9_areDoors : Cond.initialized yX9_areDoors.cls ∈ TB ∧ Cond.code yX9_areDoors cX9_areDoors 2 (some .boolean) ∈ TB ∧ (yX9_areDoors.cls ≠ "java/lang/invoke/MethodHandle" ∧ yX9_areDoors.cls ≠ "java/lang/invoke/VarHandle" ∧ (parseMethodDescriptor yX9_areDoors.desc).map (fun d => d.parameters.length) = some 0) := ⟨tbm (i := 45) (by decide +kernel) (by decide +kernel), tbm (i := 995) (by decide +kernel) (by decide +kernel), by decide +kernel⟩
theorem yk_X9_play : Cond.initialized yX9_play.cls ∈ TB ∧ Cond.code yX9_play cX9_play 2 (some .int) ∈ TB ∧ (yX9_play.cls ≠ "java/lang/invoke/MethodHandle" ∧ yX9_play.cls ≠ "java/lang/invoke/VarHandle" ∧ (parseMethodDescriptor yX9_play.desc).map (fun d => d.parameters.length) = some 0) := ⟨tbm (i := 45) (by decide +kernel) (by decide +kernel), tbm (i := 999) (by decide +kernel) (by decide +kernel), by decide +kernel⟩
theorem yk_X9_does : Cond.initialized yX9_does.cls ∈ TB ∧ Cond.code yX9_does cX9_does 4 (some .boolean) ∈ TB ∧ (yX9_does.cls ≠ "java/lang/invoke/MethodHandle" ∧ yX9_does.cls ≠ "java/lang/invoke/VarHandle" ∧ (parseMethodDescriptor yX9_does.desc).map (fun d => d.parameters.length) = some 1) := ⟨tbm (i := 45) (by decide +kernel) (by decide +kernel), tbm (i := 1003) (by decide +kernel) (by decide +kernel), by decide +kernel⟩
theorem yk_X9_fob : Cond.initialized yX9_fob.cls ∈ TB ∧ Cond.code yX9_fob cX9_fob 3 (some .int) ∈ TB ∧ (yX9_fob.cls ≠ "java/lang/invoke/MethodHandle" ∧ yX9_fob.cls ≠ "java/lang/invoke/VarHandle" ∧ (parseMethodDescriptor yX9_fob.desc).map (fun d => d.parameters.length) = some 2) := ⟨tbm (i := 45) (by decide +kernel) (by decide +kernel), tbm (i := 1007) (by decide +kernel) (by decide +kernel), by decide +kernel⟩
theorem yk_X9_ofFob : Cond.initialized yX9_ofFob.cls ∈ TB ∧ Cond.code yX9_ofFob cX9_ofFob 3 (some .int) ∈ TB ∧ (yX9_ofFob.cls ≠ "java/lang/invoke/MethodHandle" ∧ yX9_ofFob.cls ≠ "java/lang/invoke/VarHandle" ∧ (parseMethodDescriptor yX9_ofFob.desc).map (fun d => d.parameters.length) = some 2) := ⟨tbm (i := 45) (by decide +kernel) (by decide +kernel), tbm (i := 1011) (by decide +kernel) (by decide +kernel), by decide +kernel⟩
theorem yk_X9_slot : Cond.initialized yX9_slot.cls ∈ TB ∧ Cond.code yX9_slot cX9_slot 4 (some .int) ∈ TB ∧ (yX9_slot.cls ≠ "java/lang/invoke/MethodHandle" ∧ yX9_slot.cls ≠ "java/lang/invoke/VarHandle" ∧ (parseMethodDescriptor yX9_slot.desc).map (fun d => d.parameters.length) = some 3) := ⟨tbm (i := 45) (by decide +kernel) (by decide +kernel), tbm (i := 1015) (by decide +kernel) (by decide +kernel), by decide +kernel⟩
theorem yk_X9_ofSlot : Cond.initialized yX9_ofSlot.cls ∈ TB ∧ Cond.code yX9_ofSlot cX9_ofSlot 5 (some .int) ∈ TB ∧ (yX9_ofSlot.cls ≠ "java/lang/invoke/MethodHandle" ∧ yX9_ofSlot.cls ≠ "java/lang/invoke/VarHandle" ∧ (parseMethodDescriptor yX9_ofSlot.desc).map (fun d => d.parameters.length) = some 3) := ⟨tbm (i := 45) (by decide +kernel) (by decide +kernel), tbm (i := 1019) (by decide +kernel) (by decide +kernel), by decide +kernel⟩
theorem yk_X9_door : Cond.initialized yX9_door.cls ∈ TB ∧ Cond.code yX9_door cX9_door 3 (some .int) ∈ TB ∧ (yX9_door.cls ≠ "java/lang/invoke/MethodHandle" ∧ yX9_door.cls ≠ "java/lang/invoke/VarHandle" ∧ (parseMethodDescriptor yX9_door.desc).map (fun d => d.parameters.length) = some 2) := ⟨tbm (i := 45) (by decide +kernel) (by decide +kernel), tbm (i := 1023) (by decide +kernel) (by decide +kernel), by decide +kernel⟩
theorem yk_X9_ofDoor : Cond.initialized yX9_ofDoor.cls ∈ TB ∧ Cond.code yX9_ofDoor cX9_ofDoor 3 (some .int) ∈ TB ∧ (yX9_ofDoor.cls ≠ "java/lang/invoke/MethodHandle" ∧ yX9_ofDoor.cls ≠ "java/lang/invoke/VarHandle" ∧ (parseMethodDescriptor yX9_ofDoor.desc).map (fun d => d.parameters.length) = some 2) := ⟨tbm (i := 45) (by decide +kernel) (by decide +kernel), tbm (i := 1027) (by decide +kernel) (by decide +kernel), by decide +kernel⟩
theorem yk_X9_air : Cond.initialized yX9_air.cls ∈ TB ∧ Cond.code yX9_air cX9_air 2 (some .int) ∈ TB ∧ (yX9_air.cls ≠ "java/lang/invoke/MethodHandle" ∧ yX9_air.cls ≠ "java/lang/invoke/VarHandle" ∧ (parseMethodDescriptor yX9_air.desc).map (fun d => d.parameters.length) = some 1) := ⟨tbm (i := 45) (by decide +kernel) (by decide +kernel), tbm (i := 1031) (by decide +kernel) (by decide +kernel), by decide +kernel⟩
theorem yk_X9_count : Cond.initialized yX9_count.cls ∈ TB ∧ Cond.code yX9_count cX9_count 2 (some .int) ∈ TB ∧ (yX9_count.cls ≠ "java/lang/invoke/MethodHandle" ∧ yX9_count.cls ≠ "java/lang/invoke/VarHandle" ∧ (parseMethodDescriptor yX9_count.desc).map (fun d => d.parameters.length) = some 1) := ⟨tbm (i := 45) (by decide +kernel) (by decide +kernel), tbm (i := 1035) (by decide +kernel) (by decide +kernel), by decide +kernel⟩
theorem yk_X9_counted : Cond.initialized yX9_counted.cls ∈ TB ∧ Cond.code yX9_counted cX9_counted 2 (some .int) ∈ TB ∧ (yX9_counted.cls ≠ "java/lang/invoke/MethodHandle" ∧ yX9_counted.cls ≠ "java/lang/invoke/VarHandle" ∧ (parseMethodDescriptor yX9_counted.desc).map (fun d => d.parameters.length) = some 1) := ⟨tbm (i := 45) (by decide +kernel) (by decide +kernel), tbm (i := 1039) (by decide +kernel) (by decide +kernel), by decide +kernel⟩
theorem yk_X9_ofDoors : Cond.initialized yX9_ofDoors.cls ∈ TB ∧ Cond.code yX9_ofDoors cX9_ofDoors 4 (some .int) ∈ TB ∧ (yX9_ofDoors.cls ≠ "java/lang/invoke/MethodHandle" ∧ yX9_ofDoors.cls ≠ "java/lang/invoke/VarHandle" ∧ (parseMethodDescriptor yX9_ofDoors.desc).map (fun d => d.parameters.length) = some 1) := ⟨tbm (i := 45) (by decide +kernel) (by decide +kernel), tbm (i := 1043) (by decide +kernel) (by decide +kernel), by decide +kernel⟩
theorem yk_X9_setting : Cond.initialized yX9_setting.cls ∈ TB ∧ Cond.code yX9_setting cX9_setting 2 (some .int) ∈ TB ∧ (yX9_setting.cls ≠ "java/lang/invoke/MethodHandle" ∧ yX9_setting.cls ≠ "java/lang/invoke/VarHandle" ∧ (parseMethodDescriptor yX9_setting.desc).map (fun d => d.parameters.length) = some 1) := ⟨tbm (i := 45) (by decide +kernel) (by decide +kernel), tbm (i := 1047) (by decide +kernel) (by decide +kernel), by decide +kernel⟩
theorem yk_X9_ifHeard : Cond.initialized yX9_ifHeard.cls ∈ TB ∧ Cond.code yX9_ifHeard cX9_ifHeard 3 (some .int) ∈ TB ∧ (yX9_ifHeard.cls ≠ "java/lang/invoke/MethodHandle" ∧ yX9_ifHeard.cls ≠ "java/lang/invoke/VarHandle" ∧ (parseMethodDescriptor yX9_ifHeard.desc).map (fun d => d.parameters.length) = some 2) := ⟨tbm (i := 45) (by decide +kernel) (by decide +kernel), tbm (i := 1051) (by decide +kernel) (by decide +kernel), by decide +kernel⟩
theorem yk_X9_opensIn : Cond.initialized yX9_opensIn.cls ∈ TB ∧ Cond.code yX9_opensIn cX9_opensIn 3 (some .int) ∈ TB ∧ (yX9_opensIn.cls ≠ "java/lang/invoke/MethodHandle" ∧ yX9_opensIn.cls ≠ "java/lang/invoke/VarHandle" ∧ (parseMethodDescriptor yX9_opensIn.desc).map (fun d => d.parameters.length) = some 2) := ⟨tbm (i := 45) (by decide +kernel) (by decide +kernel), tbm (i := 1056) (by decide +kernel) (by decide +kernel), by decide +kernel⟩
theorem yk_X9_opens : Cond.initialized yX9_opens.cls ∈ TB ∧ Cond.code yX9_opens cX9_opens 4 (some .int) ∈ TB ∧ (yX9_opens.cls ≠ "java/lang/invoke/MethodHandle" ∧ yX9_opens.cls ≠ "java/lang/invoke/VarHandle" ∧ (parseMethodDescriptor yX9_opens.desc).map (fun d => d.parameters.length) = some 2) := ⟨tbm (i := 45) (by decide +kernel) (by decide +kernel), tbm (i := 1060) (by decide +kernel) (by decide +kernel), by decide +kernel⟩
theorem yk_X9_unheard : Cond.initialized yX9_unheard.cls ∈ TB ∧ Cond.code yX9_unheard cX9_unheard 3 (some .int) ∈ TB ∧ (yX9_unheard.cls ≠ "java/lang/invoke/MethodHandle" ∧ yX9_unheard.cls ≠ "java/lang/invoke/VarHandle" ∧ (parseMethodDescriptor yX9_unheard.desc).map (fun d => d.parameters.length) = some 2) := ⟨tbm (i := 45) (by decide +kernel) (by decide +kernel), tbm (i := 1064) (by decide +kernel) (by decide +kernel), by decide +kernel⟩
theorem yk_X9_misses : Cond.initialized yX9_misses.cls ∈ TB ∧ Cond.code yX9_misses cX9_misses 5 (some .int) ∈ TB ∧ (yX9_misses.cls ≠ "java/lang/invoke/MethodHandle" ∧ yX9_misses.cls ≠ "java/lang/invoke/VarHandle" ∧ (parseMethodDescriptor yX9_misses.desc).map (fun d => d.parameters.length) = some 2) := ⟨tbm (i := 45) (by decide +kernel) (by decide +kernel), tbm (i := 1068) (by decide +kernel) (by decide +kernel), by decide +kernel⟩
theorem yk_X9_useful : Cond.initialized yX9_useful.cls ∈ TB ∧ Cond.code yX9_useful cX9_useful 2 (some .int) ∈ TB ∧ (yX9_useful.cls ≠ "java/lang/invoke/MethodHandle" ∧ yX9_useful.cls ≠ "java/lang/invoke/VarHandle" ∧ (parseMethodDescriptor yX9_useful.desc).map (fun d => d.parameters.length) = some 1) := ⟨tbm (i := 45) (by decide +kernel) (by decide +kernel), tbm (i := 1072) (by decide +kernel) (by decide +kernel), by decide +kernel⟩
theorem yk_X9_first : Cond.initialized yX9_first.cls ∈ TB ∧ Cond.code yX9_first cX9_first 3 (some .int) ∈ TB ∧ (yX9_first.cls ≠ "java/lang/invoke/MethodHandle" ∧ yX9_first.cls ≠ "java/lang/invoke/VarHandle" ∧ (parseMethodDescriptor yX9_first.desc).map (fun d => d.parameters.length) = some 1) := ⟨tbm (i := 45) (by decide +kernel) (by decide +kernel), tbm (i := 1076) (by decide +kernel) (by decide +kernel), by decide +kernel⟩
theorem yk_X9_openShare : Cond.initialized yX9_openShare.cls ∈ TB ∧ Cond.code yX9_openShare cX9_openShare 1 (some .double) ∈ TB ∧ (yX9_openShare.cls ≠ "java/lang/invoke/MethodHandle" ∧ yX9_openShare.cls ≠ "java/lang/invoke/VarHandle" ∧ (parseMethodDescriptor yX9_openShare.desc).map (fun d => d.parameters.length) = some 0) := ⟨tbm (i := 45) (by decide +kernel) (by decide +kernel), tbm (i := 1080) (by decide +kernel) (by decide +kernel), by decide +kernel⟩
theorem yk_X9_share : Cond.initialized yX9_share.cls ∈ TB ∧ Cond.code yX9_share cX9_share 3 (some .double) ∈ TB ∧ (yX9_share.cls ≠ "java/lang/invoke/MethodHandle" ∧ yX9_share.cls ≠ "java/lang/invoke/VarHandle" ∧ (parseMethodDescriptor yX9_share.desc).map (fun d => d.parameters.length) = some 0) := ⟨tbm (i := 45) (by decide +kernel) (by decide +kernel), tbm (i := 1084) (by decide +kernel) (by decide +kernel), by decide +kernel⟩
theorem yk_X9_digest : Cond.initialized yX9_digest.cls ∈ TB ∧ Cond.code yX9_digest cX9_digest 5 (some .long) ∈ TB ∧ (yX9_digest.cls ≠ "java/lang/invoke/MethodHandle" ∧ yX9_digest.cls ≠ "java/lang/invoke/VarHandle" ∧ (parseMethodDescriptor yX9_digest.desc).map (fun d => d.parameters.length) = some 0) := ⟨tbm (i := 45) (by decide +kernel) (by decide +kernel), tbm (i := 1088) (by decide +kernel) (by decide +kernel), by decide +kernel⟩
theorem fl_X2_9 : FL RX2 9 2 0 := ⟨RX2, TX2, 4, rfl, by decide, tbm (i := 77) (by decide +kernel) (by decide +kernel)⟩
theorem fl_X8_59 : FL RX8 59 2 0 := ⟨RX2, TX2, 4, rfl, by decide, tbm (i := 78) (by decide +kernel) (by decide +kernel)⟩
theorem fl_X5_25 : FL RX5 25 2 0 := ⟨RX2, TX2, 4, rfl, by decide, tbm (i := 79) (by decide +kernel) (by decide +kernel)⟩
theorem fl_X2_18 : FL RX2 18 2 1 := ⟨RX2, TX2, 4, rfl, by decide, tbm (i := 80) (by decide +kernel) (by decide +kernel)⟩
theorem fl_X8_53 : FL RX8 53 2 1 := ⟨RX2, TX2, 4, rfl, by decide, tbm (i := 81) (by decide +kernel) (by decide +kernel)⟩
theorem fl_X5_28 : FL RX5 28 2 1 := ⟨RX2, TX2, 4, rfl, by decide, tbm (i := 82) (by decide +kernel) (by decide +kernel)⟩
theorem fl_X2_15 : FL RX2 15 2 2 := ⟨RX2, TX2, 4, rfl, by decide, tbm (i := 83) (by decide +kernel) (by decide +kernel)⟩
theorem fl_X6_61 : FL RX6 61 2 2 := ⟨RX2, TX2, 4, rfl, by decide, tbm (i := 84) (by decide +kernel) (by decide +kernel)⟩
theorem fl_X8_62 : FL RX8 62 2 2 := ⟨RX2, TX2, 4, rfl, by decide, tbm (i := 85) (by decide +kernel) (by decide +kernel)⟩
theorem fl_X2_21 : FL RX2 21 2 3 := ⟨RX2, TX2, 4, rfl, by decide, tbm (i := 86) (by decide +kernel) (by decide +kernel)⟩
theorem fl_X6_102 : FL RX6 102 2 3 := ⟨RX2, TX2, 4, rfl, by decide, tbm (i := 87) (by decide +kernel) (by decide +kernel)⟩
theorem fl_X5_21 : FL RX5 21 5 0 := ⟨RX5, TX5, 4, rfl, by decide, tbm (i := 111) (by decide +kernel) (by decide +kernel)⟩
theorem fl_X8_107 : FL RX8 107 5 0 := ⟨RX5, TX5, 4, rfl, by decide, tbm (i := 112) (by decide +kernel) (by decide +kernel)⟩
theorem fl_X5_9 : FL RX5 9 5 1 := ⟨RX5, TX5, 4, rfl, by decide, tbm (i := 113) (by decide +kernel) (by decide +kernel)⟩
theorem fl_X5_15 : FL RX5 15 5 2 := ⟨RX5, TX5, 4, rfl, by decide, tbm (i := 114) (by decide +kernel) (by decide +kernel)⟩
theorem fl_X5_18 : FL RX5 18 5 3 := ⟨RX5, TX5, 4, rfl, by decide, tbm (i := 115) (by decide +kernel) (by decide +kernel)⟩
theorem fl_X1_11 : FL RX1 11 1 0 := ⟨RX1, TX1, 7, rfl, by decide, tbm (i := 125) (by decide +kernel) (by decide +kernel)⟩
theorem fl_X8_93 : FL RX8 93 1 0 := ⟨RX1, TX1, 7, rfl, by decide, tbm (i := 126) (by decide +kernel) (by decide +kernel)⟩
theorem fl_X1_22 : FL RX1 22 1 1 := ⟨RX1, TX1, 7, rfl, by decide, tbm (i := 127) (by decide +kernel) (by decide +kernel)⟩
theorem fl_X6_98 : FL RX6 98 1 1 := ⟨RX1, TX1, 7, rfl, by decide, tbm (i := 128) (by decide +kernel) (by decide +kernel)⟩
theorem fl_X8_114 : FL RX8 114 1 1 := ⟨RX1, TX1, 7, rfl, by decide, tbm (i := 129) (by decide +kernel) (by decide +kernel)⟩
theorem fl_X1_26 : FL RX1 26 1 2 := ⟨RX1, TX1, 7, rfl, by decide, tbm (i := 130) (by decide +kernel) (by decide +kernel)⟩
theorem fl_X8_117 : FL RX8 117 1 2 := ⟨RX1, TX1, 7, rfl, by decide, tbm (i := 131) (by decide +kernel) (by decide +kernel)⟩
theorem fl_X1_30 : FL RX1 30 1 3 := ⟨RX1, TX1, 7, rfl, by decide, tbm (i := 132) (by decide +kernel) (by decide +kernel)⟩
theorem fl_X6_105 : FL RX6 105 1 3 := ⟨RX1, TX1, 7, rfl, by decide, tbm (i := 133) (by decide +kernel) (by decide +kernel)⟩
theorem fl_X1_33 : FL RX1 33 1 4 := ⟨RX1, TX1, 7, rfl, by decide, tbm (i := 134) (by decide +kernel) (by decide +kernel)⟩
theorem fl_X1_36 : FL RX1 36 1 5 := ⟨RX1, TX1, 7, rfl, by decide, tbm (i := 135) (by decide +kernel) (by decide +kernel)⟩
theorem fl_X6_108 : FL RX6 108 1 5 := ⟨RX1, TX1, 7, rfl, by decide, tbm (i := 136) (by decide +kernel) (by decide +kernel)⟩
theorem fl_X1_39 : FL RX1 39 1 6 := ⟨RX1, TX1, 7, rfl, by decide, tbm (i := 137) (by decide +kernel) (by decide +kernel)⟩
theorem fl_X0_9 : FL RX0 9 0 0 := ⟨RX0, TX0, 2, rfl, by decide, tbm (i := 159) (by decide +kernel) (by decide +kernel)⟩
theorem fl_X0_21 : FL RX0 21 0 1 := ⟨RX0, TX0, 2, rfl, by decide, tbm (i := 160) (by decide +kernel) (by decide +kernel)⟩
theorem fl_X6_64 : FL RX6 64 0 1 := ⟨RX0, TX0, 2, rfl, by decide, tbm (i := 161) (by decide +kernel) (by decide +kernel)⟩
theorem fl_X8_81 : FL RX8 81 0 1 := ⟨RX0, TX0, 2, rfl, by decide, tbm (i := 162) (by decide +kernel) (by decide +kernel)⟩
theorem fl_X4_7 : FL RX4 7 4 0 := ⟨RX4, TX4, 3, rfl, by decide, tbm (i := 175) (by decide +kernel) (by decide +kernel)⟩
theorem fl_X1_62 : FL RX1 62 4 0 := ⟨RX4, TX4, 3, rfl, by decide, tbm (i := 176) (by decide +kernel) (by decide +kernel)⟩
theorem fl_X4_13 : FL RX4 13 4 1 := ⟨RX4, TX4, 3, rfl, by decide, tbm (i := 177) (by decide +kernel) (by decide +kernel)⟩
theorem fl_X1_55 : FL RX1 55 4 1 := ⟨RX4, TX4, 3, rfl, by decide, tbm (i := 178) (by decide +kernel) (by decide +kernel)⟩
theorem fl_X4_16 : FL RX4 16 4 2 := ⟨RX4, TX4, 3, rfl, by decide, tbm (i := 179) (by decide +kernel) (by decide +kernel)⟩
theorem fl_X1_42 : FL RX1 42 4 2 := ⟨RX4, TX4, 3, rfl, by decide, tbm (i := 180) (by decide +kernel) (by decide +kernel)⟩
theorem fl_X6_11 : FL RX6 11 6 0 := ⟨RX6, TX6, 6, rfl, by decide, tbm (i := 188) (by decide +kernel) (by decide +kernel)⟩
theorem fl_X8_49 : FL RX8 49 6 0 := ⟨RX6, TX6, 6, rfl, by decide, tbm (i := 189) (by decide +kernel) (by decide +kernel)⟩
theorem fl_X6_22 : FL RX6 22 6 1 := ⟨RX6, TX6, 6, rfl, by decide, tbm (i := 190) (by decide +kernel) (by decide +kernel)⟩
theorem fl_X8_89 : FL RX8 89 6 1 := ⟨RX6, TX6, 6, rfl, by decide, tbm (i := 191) (by decide +kernel) (by decide +kernel)⟩
theorem fl_X6_30 : FL RX6 30 6 2 := ⟨RX6, TX6, 6, rfl, by decide, tbm (i := 192) (by decide +kernel) (by decide +kernel)⟩
theorem fl_X8_77 : FL RX8 77 6 2 := ⟨RX6, TX6, 6, rfl, by decide, tbm (i := 193) (by decide +kernel) (by decide +kernel)⟩
theorem fl_X6_37 : FL RX6 37 6 3 := ⟨RX6, TX6, 6, rfl, by decide, tbm (i := 194) (by decide +kernel) (by decide +kernel)⟩
theorem fl_X8_129 : FL RX8 129 6 3 := ⟨RX6, TX6, 6, rfl, by decide, tbm (i := 195) (by decide +kernel) (by decide +kernel)⟩
theorem fl_X6_54 : FL RX6 54 6 4 := ⟨RX6, TX6, 6, rfl, by decide, tbm (i := 196) (by decide +kernel) (by decide +kernel)⟩
theorem fl_X8_246 : FL RX8 246 6 4 := ⟨RX6, TX6, 6, rfl, by decide, tbm (i := 197) (by decide +kernel) (by decide +kernel)⟩
theorem fl_X6_58 : FL RX6 58 6 5 := ⟨RX6, TX6, 6, rfl, by decide, tbm (i := 198) (by decide +kernel) (by decide +kernel)⟩
theorem fl_X8_249 : FL RX8 249 6 5 := ⟨RX6, TX6, 6, rfl, by decide, tbm (i := 199) (by decide +kernel) (by decide +kernel)⟩
theorem fl_X3_11 : FL RX3 11 3 0 := ⟨RX3, TX3, 3, rfl, by decide, tbm (i := 222) (by decide +kernel) (by decide +kernel)⟩
theorem fl_X3_18 : FL RX3 18 3 1 := ⟨RX3, TX3, 3, rfl, by decide, tbm (i := 223) (by decide +kernel) (by decide +kernel)⟩
theorem fl_X3_26 : FL RX3 26 3 2 := ⟨RX3, TX3, 3, rfl, by decide, tbm (i := 224) (by decide +kernel) (by decide +kernel)⟩
theorem fl_X8_161 : FL RX8 161 3 2 := ⟨RX3, TX3, 3, rfl, by decide, tbm (i := 225) (by decide +kernel) (by decide +kernel)⟩
theorem fl_X7_9 : FL RX7 9 7 0 := ⟨RX7, TX7, 2, rfl, by decide, tbm (i := 239) (by decide +kernel) (by decide +kernel)⟩
theorem fl_X7_15 : FL RX7 15 7 1 := ⟨RX7, TX7, 2, rfl, by decide, tbm (i := 240) (by decide +kernel) (by decide +kernel)⟩
theorem fl_X8_139 : FL RX8 139 7 1 := ⟨RX7, TX7, 2, rfl, by decide, tbm (i := 241) (by decide +kernel) (by decide +kernel)⟩
theorem fl_X8_10 : FL RX8 10 8 0 := ⟨RX8, TX8, 4, rfl, by decide, tbm (i := 249) (by decide +kernel) (by decide +kernel)⟩
theorem fl_X8_19 : FL RX8 19 8 1 := ⟨RX8, TX8, 4, rfl, by decide, tbm (i := 250) (by decide +kernel) (by decide +kernel)⟩
theorem fl_X8_26 : FL RX8 26 8 2 := ⟨RX8, TX8, 4, rfl, by decide, tbm (i := 251) (by decide +kernel) (by decide +kernel)⟩
theorem fl_X8_33 : FL RX8 33 8 3 := ⟨RX8, TX8, 4, rfl, by decide, tbm (i := 252) (by decide +kernel) (by decide +kernel)⟩
theorem mv_L_127 : MV RL 127 yX8_clearBuffer cX8_clearBuffer 2 (some .int) 0 := ⟨⟨tbm (i := 262) (by decide +kernel) (by decide +kernel), yk_X8_clearBuffer⟩, tbm (i := 263) (by decide +kernel) (by decide +kernel), tbm (i := 264) (by decide +kernel) (by decide +kernel)⟩
theorem mv_L_131 : MV RL 131 yX8_firstError cX8_firstError 1 (some .int) 0 := ⟨⟨tbm (i := 266) (by decide +kernel) (by decide +kernel), yk_X8_firstError⟩, tbm (i := 267) (by decide +kernel) (by decide +kernel), tbm (i := 268) (by decide +kernel) (by decide +kernel)⟩
theorem mv_X8_144 : MV RX8 144 yX7_goodLength cX7_goodLength 3 (some .int) 0 := ⟨⟨tbm (i := 270) (by decide +kernel) (by decide +kernel), yk_X7_goodLength⟩, tbm (i := 271) (by decide +kernel) (by decide +kernel), tbm (i := 272) (by decide +kernel) (by decide +kernel)⟩
theorem mv_X7_19 : MV RX7 19 yX7_code cX7_code 2 (some .int) 1 := ⟨⟨tbm (i := 274) (by decide +kernel) (by decide +kernel), yk_X7_code⟩, tbm (i := 275) (by decide +kernel) (by decide +kernel), tbm (i := 276) (by decide +kernel) (by decide +kernel)⟩
theorem ms_X7_23 : MS RX7 23 yX7_expectedBehind cX7_expectedBehind 2 (some .int) 2 := ⟨⟨tbm (i := 278) (by decide +kernel) (by decide +kernel), yk_X7_expectedBehind⟩, tbm (i := 279) (by decide +kernel) (by decide +kernel)⟩
theorem ms_X7_30 : MS RX7 30 yX7_expectedInPart cX7_expectedInPart 1 (some .int) 1 := ⟨⟨tbm (i := 281) (by decide +kernel) (by decide +kernel), yk_X7_expectedInPart⟩, tbm (i := 282) (by decide +kernel) (by decide +kernel)⟩
theorem ms_X7_33 : MS RX7 33 yX7_expectedInSet cX7_expectedInSet 3 (some .int) 2 := ⟨⟨tbm (i := 284) (by decide +kernel) (by decide +kernel), yk_X7_expectedInSet⟩, tbm (i := 285) (by decide +kernel) (by decide +kernel)⟩
theorem mv_L_172 : MV RL 172 yX8_openShare cX8_openShare 3 (some .double) 0 := ⟨⟨tbm (i := 287) (by decide +kernel) (by decide +kernel), yk_X8_openShare⟩, tbm (i := 288) (by decide +kernel) (by decide +kernel), tbm (i := 289) (by decide +kernel) (by decide +kernel)⟩
theorem mv_X8_194 : MV RX8 194 yX6_timesOpened cX6_timesOpened 6 (some .int) 0 := ⟨⟨tbm (i := 291) (by decide +kernel) (by decide +kernel), yk_X6_timesOpened⟩, tbm (i := 292) (by decide +kernel) (by decide +kernel), tbm (i := 293) (by decide +kernel) (by decide +kernel)⟩
theorem mv_X8_197 : MV RX8 197 yX6_wrongNumbers cX6_wrongNumbers 6 (some .int) 0 := ⟨⟨tbm (i := 295) (by decide +kernel) (by decide +kernel), yk_X6_wrongNumbers⟩, tbm (i := 296) (by decide +kernel) (by decide +kernel), tbm (i := 297) (by decide +kernel) (by decide +kernel)⟩
theorem mv_L_177 : MV RL 177 yX8_digest cX8_digest 8 (some .long) 0 := ⟨⟨tbm (i := 299) (by decide +kernel) (by decide +kernel), yk_X8_digest⟩, tbm (i := 300) (by decide +kernel) (by decide +kernel), tbm (i := 301) (by decide +kernel) (by decide +kernel)⟩
theorem kc_X8_200 : Cond.constantLong RX8 200 (3257 : Int64) ∈ TB := tbm (i := 303) (by decide +kernel) (by decide +kernel)
theorem mv_X8_175 : MV RX8 175 yX8_counted cX8_counted 2 (some .int) 1 := ⟨⟨tbm (i := 304) (by decide +kernel) (by decide +kernel), yk_X8_counted⟩, tbm (i := 306) (by decide +kernel) (by decide +kernel), tbm (i := 0) (by decide +kernel) (by decide +kernel)⟩
theorem mv_X8_243 : MV RX8 243 yX6_presses cX6_presses 6 (some .int) 0 := ⟨⟨tbm (i := 308) (by decide +kernel) (by decide +kernel), yk_X6_presses⟩, tbm (i := 309) (by decide +kernel) (by decide +kernel), tbm (i := 310) (by decide +kernel) (by decide +kernel)⟩
theorem mv_X8_252 : MV RX8 252 yX6_openDoors cX6_openDoors 6 (some .int) 0 := ⟨⟨tbm (i := 312) (by decide +kernel) (by decide +kernel), yk_X6_openDoors⟩, tbm (i := 313) (by decide +kernel) (by decide +kernel), tbm (i := 314) (by decide +kernel) (by decide +kernel)⟩
theorem mv_X8_255 : MV RX8 255 yX6_lockedDoors cX6_lockedDoors 6 (some .int) 0 := ⟨⟨tbm (i := 316) (by decide +kernel) (by decide +kernel), yk_X6_lockedDoors⟩, tbm (i := 317) (by decide +kernel) (by decide +kernel), tbm (i := 318) (by decide +kernel) (by decide +kernel)⟩
theorem mv_X6_111 : MV RX6 111 yX1_isLocked cX1_isLocked 2 (some .boolean) 1 := ⟨⟨tbm (i := 320) (by decide +kernel) (by decide +kernel), yk_X1_isLocked⟩, tbm (i := 321) (by decide +kernel) (by decide +kernel), tbm (i := 322) (by decide +kernel) (by decide +kernel)⟩
theorem ms_X8_202 : MS RX8 202 yX8_mixed cX8_mixed 4 (some .long) 2 := ⟨⟨tbm (i := 324) (by decide +kernel) (by decide +kernel), yk_X8_mixed⟩, tbm (i := 325) (by decide +kernel) (by decide +kernel)⟩
theorem kc_X8_276 : Cond.constantLong RX8 276 (31 : Int64) ∈ TB := tbm (i := 327) (by decide +kernel) (by decide +kernel)
theorem mv_X8_133 : MV RX8 133 yX4_value cX4_value 2 (some .int) 1 := ⟨⟨tbm (i := 328) (by decide +kernel) (by decide +kernel), yk_X4_value⟩, tbm (i := 329) (by decide +kernel) (by decide +kernel), tbm (i := 330) (by decide +kernel) (by decide +kernel)⟩
theorem mv_X8_165 : MV RX8 165 yX2_look cX2_look 2 (some .int) 1 := ⟨⟨tbm (i := 332) (by decide +kernel) (by decide +kernel), yk_X2_look⟩, tbm (i := 333) (by decide +kernel) (by decide +kernel), tbm (i := 334) (by decide +kernel) (by decide +kernel)⟩
theorem mn_X2_24 : MN RX2 24 yX8_counterBehind "RollingFob" cX8_counterBehind 1 (some .int) 1 := ⟨⟨by decide +kernel, yk_X8_counterBehind⟩, tbm (i := 337) (by decide +kernel) (by decide +kernel)⟩
theorem mn_X2_28 : MN RX2 28 yX8_numberOf "RollingFob" cX8_numberOf 2 (some .int) 2 := ⟨⟨by decide +kernel, yk_X8_numberOf⟩, tbm (i := 340) (by decide +kernel) (by decide +kernel)⟩
theorem kc_X8_230 : Cond.constant RX8 230 (40503 : Int32) ∈ TB := tbm (i := 342) (by decide +kernel) (by decide +kernel)
theorem kc_X8_178 : Cond.constant RX8 178 (65535 : Int32) ∈ TB := tbm (i := 343) (by decide +kernel) (by decide +kernel)
theorem mv_X8_206 : MV RX8 206 yX8_mixedDoor cX8_mixedDoor 11 (some .long) 2 := ⟨⟨tbm (i := 344) (by decide +kernel) (by decide +kernel), yk_X8_mixedDoor⟩, tbm (i := 346) (by decide +kernel) (by decide +kernel), tbm (i := 1) (by decide +kernel) (by decide +kernel)⟩
theorem mv_X8_169 : MV RX8 169 yX1_look cX1_look 3 (some .int) 2 := ⟨⟨tbm (i := 348) (by decide +kernel) (by decide +kernel), yk_X1_look⟩, tbm (i := 349) (by decide +kernel) (by decide +kernel), tbm (i := 350) (by decide +kernel) (by decide +kernel)⟩
theorem mv_X1_51 : MV RX1 51 yX1_isLocked cX1_isLocked 2 (some .boolean) 1 := ⟨⟨tbm (i := 352) (by decide +kernel) (by decide +kernel), yk_X1_isLocked⟩, tbm (i := 321) (by decide +kernel) (by decide +kernel), tbm (i := 322) (by decide +kernel) (by decide +kernel)⟩
theorem mv_X1_69 : MV RX1 69 yX1_learntSlots cX1_learntSlots 6 (some .int) 0 := ⟨⟨tbm (i := 353) (by decide +kernel) (by decide +kernel), yk_X1_learntSlots⟩, tbm (i := 354) (by decide +kernel) (by decide +kernel), tbm (i := 355) (by decide +kernel) (by decide +kernel)⟩
theorem mv_X1_47 : MV RX1 47 yX5_look cX5_look 2 (some .int) 1 := ⟨⟨tbm (i := 357) (by decide +kernel) (by decide +kernel), yk_X5_look⟩, tbm (i := 358) (by decide +kernel) (by decide +kernel), tbm (i := 359) (by decide +kernel) (by decide +kernel)⟩
theorem mv_X8_168 : MV RX8 168 yX5_look cX5_look 2 (some .int) 1 := ⟨⟨tbm (i := 361) (by decide +kernel) (by decide +kernel), yk_X5_look⟩, tbm (i := 358) (by decide +kernel) (by decide +kernel), tbm (i := 359) (by decide +kernel) (by decide +kernel)⟩
theorem mv_X8_190 : MV RX8 190 yX8_firstUseful cX8_firstUseful 3 (some .int) 1 := ⟨⟨tbm (i := 362) (by decide +kernel) (by decide +kernel), yk_X8_firstUseful⟩, tbm (i := 364) (by decide +kernel) (by decide +kernel), tbm (i := 2) (by decide +kernel) (by decide +kernel)⟩
theorem mv_X8_172 : MV RX8 172 yX0_number cX0_number 2 (some .int) 1 := ⟨⟨tbm (i := 366) (by decide +kernel) (by decide +kernel), yk_X0_number⟩, tbm (i := 367) (by decide +kernel) (by decide +kernel), tbm (i := 368) (by decide +kernel) (by decide +kernel)⟩
theorem mv_X8_179 : MV RX8 179 yX8_tryNumber cX8_tryNumber 3 (some .int) 2 := ⟨⟨tbm (i := 370) (by decide +kernel) (by decide +kernel), yk_X8_tryNumber⟩, tbm (i := 372) (by decide +kernel) (by decide +kernel), tbm (i := 3) (by decide +kernel) (by decide +kernel)⟩
theorem mv_X8_258 : MV RX8 258 yX1_copyFrom cX1_copyFrom 3 none 1 := ⟨⟨tbm (i := 374) (by decide +kernel) (by decide +kernel), yk_X1_copyFrom⟩, tbm (i := 375) (by decide +kernel) (by decide +kernel), tbm (i := 376) (by decide +kernel) (by decide +kernel)⟩
theorem mv_X1_18 : MV RX1 18 yX5_copyFrom cX5_copyFrom 2 none 1 := ⟨⟨tbm (i := 378) (by decide +kernel) (by decide +kernel), yk_X5_copyFrom⟩, tbm (i := 379) (by decide +kernel) (by decide +kernel), tbm (i := 380) (by decide +kernel) (by decide +kernel)⟩
theorem mv_X8_262 : MV RX8 262 yX1_hear cX1_hear 8 (some .int) 2 := ⟨⟨tbm (i := 382) (by decide +kernel) (by decide +kernel), yk_X1_hear⟩, tbm (i := 383) (by decide +kernel) (by decide +kernel), tbm (i := 384) (by decide +kernel) (by decide +kernel)⟩
theorem mv_X1_58 : MV RX1 58 yX5_stepsTo cX5_stepsTo 5 (some .int) 2 := ⟨⟨tbm (i := 386) (by decide +kernel) (by decide +kernel), yk_X5_stepsTo⟩, tbm (i := 387) (by decide +kernel) (by decide +kernel), tbm (i := 388) (by decide +kernel) (by decide +kernel)⟩
theorem mn_X5_31 : MN RX5 31 yX8_counterBehind "RollingFob" cX8_counterBehind 1 (some .int) 1 := ⟨⟨by decide +kernel, yk_X8_counterBehind⟩, tbm (i := 337) (by decide +kernel) (by decide +kernel)⟩
theorem mn_X5_35 : MN RX5 35 yX8_numberOf "RollingFob" cX8_numberOf 2 (some .int) 2 := ⟨⟨by decide +kernel, yk_X8_numberOf⟩, tbm (i := 340) (by decide +kernel) (by decide +kernel)⟩
theorem mv_X1_65 : MV RX1 65 yX5_take cX5_take 4 (some .boolean) 2 := ⟨⟨tbm (i := 392) (by decide +kernel) (by decide +kernel), yk_X5_take⟩, tbm (i := 393) (by decide +kernel) (by decide +kernel), tbm (i := 394) (by decide +kernel) (by decide +kernel)⟩
theorem mv_X8_183 : MV RX8 183 yX8_pressesToOpen cX8_pressesToOpen 7 (some .int) 2 := ⟨⟨tbm (i := 396) (by decide +kernel) (by decide +kernel), yk_X8_pressesToOpen⟩, tbm (i := 398) (by decide +kernel) (by decide +kernel), tbm (i := 4) (by decide +kernel) (by decide +kernel)⟩
theorem ms_X8_270 : MS RX8 270 yX8_counterBehind cX8_counterBehind 1 (some .int) 1 := ⟨⟨tbm (i := 403) (by decide +kernel) (by decide +kernel), yk_X8_counterBehind⟩, tbm (i := 337) (by decide +kernel) (by decide +kernel)⟩
theorem ms_X8_273 : MS RX8 273 yX8_numberOf cX8_numberOf 2 (some .int) 2 := ⟨⟨tbm (i := 404) (by decide +kernel) (by decide +kernel), yk_X8_numberOf⟩, tbm (i := 340) (by decide +kernel) (by decide +kernel)⟩
theorem mv_X8_187 : MV RX8 187 yX8_mostUnheard cX8_mostUnheard 6 (some .int) 2 := ⟨⟨tbm (i := 405) (by decide +kernel) (by decide +kernel), yk_X8_mostUnheard⟩, tbm (i := 407) (by decide +kernel) (by decide +kernel), tbm (i := 5) (by decide +kernel) (by decide +kernel)⟩
theorem mv_X8_210 : MV RX8 210 yX8_openShare cX8_openShare 3 (some .double) 0 := ⟨⟨tbm (i := 409) (by decide +kernel) (by decide +kernel), yk_X8_openShare⟩, tbm (i := 288) (by decide +kernel) (by decide +kernel), tbm (i := 289) (by decide +kernel) (by decide +kernel)⟩
theorem ms_X8_214 : MS RX8 214 yX8_shareBits cX8_shareBits 6 (some .long) 1 := ⟨⟨tbm (i := 410) (by decide +kernel) (by decide +kernel), yk_X8_shareBits⟩, tbm (i := 411) (by decide +kernel) (by decide +kernel)⟩
theorem kc_X8_278 : Cond.constantLong RX8 278 (1023 : Int64) ∈ TB := tbm (i := 413) (by decide +kernel) (by decide +kernel)
theorem kc_X8_280 : Cond.constantDouble RX8 280 (4611686018427387904 : UInt64) ∈ TB := tbm (i := 414) (by decide +kernel) (by decide +kernel)
theorem kc_X8_282 : Cond.constantDouble RX8 282 (4841369599423283200 : UInt64) ∈ TB := tbm (i := 415) (by decide +kernel) (by decide +kernel)
theorem mv_X8_218 : MV RX8 218 yX7_code cX7_code 2 (some .int) 1 := ⟨⟨tbm (i := 416) (by decide +kernel) (by decide +kernel), yk_X7_code⟩, tbm (i := 275) (by decide +kernel) (by decide +kernel), tbm (i := 276) (by decide +kernel) (by decide +kernel)⟩
theorem mv_L_7 : MV RL 7 yX8_make cX8_make 6 (some .int) 3 := ⟨⟨tbm (i := 422) (by decide +kernel) (by decide +kernel), yk_X8_make⟩, tbm (i := 423) (by decide +kernel) (by decide +kernel), tbm (i := 424) (by decide +kernel) (by decide +kernel)⟩
theorem ms_X8_37 : MS RX8 37 yX8_needIndex cX8_needIndex 2 none 2 := ⟨⟨tbm (i := 426) (by decide +kernel) (by decide +kernel), yk_X8_needIndex⟩, tbm (i := 427) (by decide +kernel) (by decide +kernel)⟩
theorem ms_X8_41 : MS RX8 41 yX8_needRange cX8_needRange 3 none 3 := ⟨⟨tbm (i := 492) (by decide +kernel) (by decide +kernel), yk_X8_needRange⟩, tbm (i := 493) (by decide +kernel) (by decide +kernel)⟩
theorem ms_X8_151 : MS RX8 151 yX8_needArgument cX8_needArgument 1 none 1 := ⟨⟨tbm (i := 495) (by decide +kernel) (by decide +kernel), yk_X8_needArgument⟩, tbm (i := 496) (by decide +kernel) (by decide +kernel)⟩
theorem mv_X8_45 : MV RX8 45 yX3_keep cX3_keep 2 none 1 := ⟨⟨tbm (i := 513) (by decide +kernel) (by decide +kernel), yk_X3_keep⟩, tbm (i := 514) (by decide +kernel) (by decide +kernel), tbm (i := 515) (by decide +kernel) (by decide +kernel)⟩
theorem mv_X3_22 : MV RX3 22 yX6_copyFrom cX6_copyFrom 3 none 1 := ⟨⟨tbm (i := 517) (by decide +kernel) (by decide +kernel), yk_X6_copyFrom⟩, tbm (i := 518) (by decide +kernel) (by decide +kernel), tbm (i := 519) (by decide +kernel) (by decide +kernel)⟩
theorem mv_X6_41 : MV RX6 41 yX2_copyFrom cX2_copyFrom 2 none 1 := ⟨⟨tbm (i := 521) (by decide +kernel) (by decide +kernel), yk_X2_copyFrom⟩, tbm (i := 522) (by decide +kernel) (by decide +kernel), tbm (i := 523) (by decide +kernel) (by decide +kernel)⟩
theorem mv_X6_45 : MV RX6 45 yX1_copyFrom cX1_copyFrom 3 none 1 := ⟨⟨tbm (i := 525) (by decide +kernel) (by decide +kernel), yk_X1_copyFrom⟩, tbm (i := 375) (by decide +kernel) (by decide +kernel), tbm (i := 376) (by decide +kernel) (by decide +kernel)⟩
theorem mv_X6_48 : MV RX6 48 yX0_copyFrom cX0_copyFrom 2 none 1 := ⟨⟨tbm (i := 526) (by decide +kernel) (by decide +kernel), yk_X0_copyFrom⟩, tbm (i := 527) (by decide +kernel) (by decide +kernel), tbm (i := 528) (by decide +kernel) (by decide +kernel)⟩
theorem mv_X6_51 : MV RX6 51 yX4_copyFrom cX4_copyFrom 2 none 1 := ⟨⟨tbm (i := 533) (by decide +kernel) (by decide +kernel), yk_X4_copyFrom⟩, tbm (i := 534) (by decide +kernel) (by decide +kernel), tbm (i := 535) (by decide +kernel) (by decide +kernel)⟩
theorem mv_L_17 : MV RL 17 yX8_battery cX8_battery 5 (some .int) 2 := ⟨⟨tbm (i := 541) (by decide +kernel) (by decide +kernel), yk_X8_battery⟩, tbm (i := 542) (by decide +kernel) (by decide +kernel), tbm (i := 543) (by decide +kernel) (by decide +kernel)⟩
theorem mv_L_21 : MV RL 21 yX8_press cX8_press 3 (some .int) 2 := ⟨⟨tbm (i := 549) (by decide +kernel) (by decide +kernel), yk_X8_press⟩, tbm (i := 550) (by decide +kernel) (by decide +kernel), tbm (i := 551) (by decide +kernel) (by decide +kernel)⟩
theorem mv_X8_65 : MV RX8 65 yX6_canPress cX6_canPress 2 (some .boolean) 1 := ⟨⟨tbm (i := 553) (by decide +kernel) (by decide +kernel), yk_X6_canPress⟩, tbm (i := 554) (by decide +kernel) (by decide +kernel), tbm (i := 555) (by decide +kernel) (by decide +kernel)⟩
theorem ms_X8_69 : MS RX8 69 yX8_needState cX8_needState 1 none 1 := ⟨⟨tbm (i := 557) (by decide +kernel) (by decide +kernel), yk_X8_needState⟩, tbm (i := 558) (by decide +kernel) (by decide +kernel)⟩
theorem mv_X8_73 : MV RX8 73 yX6_pressFob cX6_pressFob 4 (some .int) 2 := ⟨⟨tbm (i := 575) (by decide +kernel) (by decide +kernel), yk_X6_pressFob⟩, tbm (i := 576) (by decide +kernel) (by decide +kernel), tbm (i := 577) (by decide +kernel) (by decide +kernel)⟩
theorem mv_X6_67 : MV RX6 67 yX6_canPress cX6_canPress 2 (some .boolean) 1 := ⟨⟨tbm (i := 579) (by decide +kernel) (by decide +kernel), yk_X6_canPress⟩, tbm (i := 554) (by decide +kernel) (by decide +kernel), tbm (i := 555) (by decide +kernel) (by decide +kernel)⟩
theorem mv_X6_71 : MV RX6 71 yX2_sendNext cX2_sendNext 1 (some .int) 0 := ⟨⟨tbm (i := 580) (by decide +kernel) (by decide +kernel), yk_X2_sendNext⟩, tbm (i := 581) (by decide +kernel) (by decide +kernel), tbm (i := 582) (by decide +kernel) (by decide +kernel)⟩
theorem mv_X6_75 : MV RX6 75 yX0_record cX0_record 2 none 1 := ⟨⟨tbm (i := 584) (by decide +kernel) (by decide +kernel), yk_X0_record⟩, tbm (i := 585) (by decide +kernel) (by decide +kernel), tbm (i := 586) (by decide +kernel) (by decide +kernel)⟩
theorem mv_X6_78 : MV RX6 78 yX6_send cX6_send 6 (some .int) 2 := ⟨⟨tbm (i := 589) (by decide +kernel) (by decide +kernel), yk_X6_send⟩, tbm (i := 591) (by decide +kernel) (by decide +kernel), tbm (i := 7) (by decide +kernel) (by decide +kernel)⟩
theorem mv_X6_94 : MV RX6 94 yX1_hear cX1_hear 8 (some .int) 2 := ⟨⟨tbm (i := 593) (by decide +kernel) (by decide +kernel), yk_X1_hear⟩, tbm (i := 383) (by decide +kernel) (by decide +kernel), tbm (i := 384) (by decide +kernel) (by decide +kernel)⟩
theorem mv_L_26 : MV RL 26 yX8_again cX8_again 3 (some .int) 2 := ⟨⟨tbm (i := 597) (by decide +kernel) (by decide +kernel), yk_X8_again⟩, tbm (i := 598) (by decide +kernel) (by decide +kernel), tbm (i := 599) (by decide +kernel) (by decide +kernel)⟩
theorem mv_X8_86 : MV RX8 86 yX6_sendAgain cX6_sendAgain 4 (some .int) 2 := ⟨⟨tbm (i := 601) (by decide +kernel) (by decide +kernel), yk_X6_sendAgain⟩, tbm (i := 602) (by decide +kernel) (by decide +kernel), tbm (i := 603) (by decide +kernel) (by decide +kernel)⟩
theorem mv_X6_82 : MV RX6 82 yX6_canSendAgain cX6_canSendAgain 2 (some .boolean) 1 := ⟨⟨tbm (i := 605) (by decide +kernel) (by decide +kernel), yk_X6_canSendAgain⟩, tbm (i := 606) (by decide +kernel) (by decide +kernel), tbm (i := 607) (by decide +kernel) (by decide +kernel)⟩
theorem mv_X6_85 : MV RX6 85 yX0_number cX0_number 2 (some .int) 1 := ⟨⟨tbm (i := 609) (by decide +kernel) (by decide +kernel), yk_X0_number⟩, tbm (i := 367) (by decide +kernel) (by decide +kernel), tbm (i := 368) (by decide +kernel) (by decide +kernel)⟩
theorem mv_L_29 : MV RL 29 yX8_learn cX8_learn 5 (some .int) 3 := ⟨⟨tbm (i := 619) (by decide +kernel) (by decide +kernel), yk_X8_learn⟩, tbm (i := 620) (by decide +kernel) (by decide +kernel), tbm (i := 621) (by decide +kernel) (by decide +kernel)⟩
theorem mv_X8_97 : MV RX8 97 yX5_learnFrom cX5_learnFrom 2 none 1 := ⟨⟨tbm (i := 623) (by decide +kernel) (by decide +kernel), yk_X5_learnFrom⟩, tbm (i := 624) (by decide +kernel) (by decide +kernel), tbm (i := 625) (by decide +kernel) (by decide +kernel)⟩
theorem mv_X8_103 : MV RX8 103 yX1_learntSlots cX1_learntSlots 6 (some .int) 0 := ⟨⟨tbm (i := 627) (by decide +kernel) (by decide +kernel), yk_X1_learntSlots⟩, tbm (i := 354) (by decide +kernel) (by decide +kernel), tbm (i := 355) (by decide +kernel) (by decide +kernel)⟩
theorem mv_L_32 : MV RL 32 yX8_forget cX8_forget 5 (some .int) 2 := ⟨⟨tbm (i := 631) (by decide +kernel) (by decide +kernel), yk_X8_forget⟩, tbm (i := 632) (by decide +kernel) (by decide +kernel), tbm (i := 633) (by decide +kernel) (by decide +kernel)⟩
theorem mv_X8_111 : MV RX8 111 yX5_empty cX5_empty 1 none 0 := ⟨⟨tbm (i := 635) (by decide +kernel) (by decide +kernel), yk_X5_empty⟩, tbm (i := 636) (by decide +kernel) (by decide +kernel), tbm (i := 637) (by decide +kernel) (by decide +kernel)⟩
theorem mv_L_35 : MV RL 35 yX8_shut cX8_shut 4 (some .int) 1 := ⟨⟨tbm (i := 642) (by decide +kernel) (by decide +kernel), yk_X8_shut⟩, tbm (i := 643) (by decide +kernel) (by decide +kernel), tbm (i := 644) (by decide +kernel) (by decide +kernel)⟩
theorem mv_L_39 : MV RL 39 yX8_unlock cX8_unlock 4 (some .int) 1 := ⟨⟨tbm (i := 649) (by decide +kernel) (by decide +kernel), yk_X8_unlock⟩, tbm (i := 650) (by decide +kernel) (by decide +kernel), tbm (i := 651) (by decide +kernel) (by decide +kernel)⟩
theorem mv_L_42 : MV RL 42 yX8_set cX8_set 4 (some .int) 2 := ⟨⟨tbm (i := 656) (by decide +kernel) (by decide +kernel), yk_X8_set⟩, tbm (i := 657) (by decide +kernel) (by decide +kernel), tbm (i := 658) (by decide +kernel) (by decide +kernel)⟩
theorem ms_X8_120 : MS RX8 120 yX4_least cX4_least 1 (some .int) 1 := ⟨⟨tbm (i := 660) (by decide +kernel) (by decide +kernel), yk_X4_least⟩, tbm (i := 661) (by decide +kernel) (by decide +kernel)⟩
theorem ms_X8_126 : MS RX8 126 yX4_most cX4_most 1 (some .int) 1 := ⟨⟨tbm (i := 663) (by decide +kernel) (by decide +kernel), yk_X4_most⟩, tbm (i := 664) (by decide +kernel) (by decide +kernel)⟩
theorem mv_X8_136 : MV RX8 136 yX4_change cX4_change 3 none 2 := ⟨⟨tbm (i := 666) (by decide +kernel) (by decide +kernel), yk_X4_change⟩, tbm (i := 667) (by decide +kernel) (by decide +kernel), tbm (i := 668) (by decide +kernel) (by decide +kernel)⟩
theorem mv_L_45 : MV RL 45 yX8_append cX8_append 2 (some .int) 1 := ⟨⟨tbm (i := 673) (by decide +kernel) (by decide +kernel), yk_X8_append⟩, tbm (i := 674) (by decide +kernel) (by decide +kernel), tbm (i := 675) (by decide +kernel) (by decide +kernel)⟩
theorem mv_X8_140 : MV RX8 140 yX7_add cX7_add 2 none 1 := ⟨⟨tbm (i := 677) (by decide +kernel) (by decide +kernel), yk_X7_add⟩, tbm (i := 678) (by decide +kernel) (by decide +kernel), tbm (i := 679) (by decide +kernel) (by decide +kernel)⟩
theorem mv_L_48 : MV RL 48 yX8_play cX8_play 4 (some .int) 0 := ⟨⟨tbm (i := 684) (by decide +kernel) (by decide +kernel), yk_X8_play⟩, tbm (i := 685) (by decide +kernel) (by decide +kernel), tbm (i := 686) (by decide +kernel) (by decide +kernel)⟩
theorem mv_X8_147 : MV RX8 147 yX7_isComplete cX7_isComplete 3 (some .boolean) 0 := ⟨⟨tbm (i := 688) (by decide +kernel) (by decide +kernel), yk_X7_isComplete⟩, tbm (i := 689) (by decide +kernel) (by decide +kernel), tbm (i := 690) (by decide +kernel) (by decide +kernel)⟩
theorem mv_X8_154 : MV RX8 154 yX7_endsPart cX7_endsPart 2 (some .boolean) 1 := ⟨⟨tbm (i := 692) (by decide +kernel) (by decide +kernel), yk_X7_endsPart⟩, tbm (i := 693) (by decide +kernel) (by decide +kernel), tbm (i := 694) (by decide +kernel) (by decide +kernel)⟩
theorem mv_X8_157 : MV RX8 157 yX8_playPart cX8_playPart 4 (some .boolean) 2 := ⟨⟨tbm (i := 696) (by decide +kernel) (by decide +kernel), yk_X8_playPart⟩, tbm (i := 698) (by decide +kernel) (by decide +kernel), tbm (i := 8) (by decide +kernel) (by decide +kernel)⟩
theorem mv_X8_231 : MV RX8 231 yX7_digit cX7_digit 3 (some .int) 1 := ⟨⟨tbm (i := 700) (by decide +kernel) (by decide +kernel), yk_X7_digit⟩, tbm (i := 701) (by decide +kernel) (by decide +kernel), tbm (i := 702) (by decide +kernel) (by decide +kernel)⟩
theorem mv_X8_234 : MV RX8 234 yX7_mask cX7_mask 6 (some .int) 2 := ⟨⟨tbm (i := 704) (by decide +kernel) (by decide +kernel), yk_X7_mask⟩, tbm (i := 705) (by decide +kernel) (by decide +kernel), tbm (i := 706) (by decide +kernel) (by decide +kernel)⟩
theorem mv_X7_27 : MV RX7 27 yX7_digit cX7_digit 3 (some .int) 1 := ⟨⟨tbm (i := 708) (by decide +kernel) (by decide +kernel), yk_X7_digit⟩, tbm (i := 701) (by decide +kernel) (by decide +kernel), tbm (i := 702) (by decide +kernel) (by decide +kernel)⟩
theorem mv_X8_237 : MV RX8 237 yX6_canSendAgain cX6_canSendAgain 2 (some .boolean) 1 := ⟨⟨tbm (i := 709) (by decide +kernel) (by decide +kernel), yk_X6_canSendAgain⟩, tbm (i := 606) (by decide +kernel) (by decide +kernel), tbm (i := 607) (by decide +kernel) (by decide +kernel)⟩
theorem mv_X8_240 : MV RX8 240 yX6_shutDoor cX6_shutDoor 2 (some .boolean) 1 := ⟨⟨tbm (i := 710) (by decide +kernel) (by decide +kernel), yk_X6_shutDoor⟩, tbm (i := 711) (by decide +kernel) (by decide +kernel), tbm (i := 712) (by decide +kernel) (by decide +kernel)⟩
theorem mv_L_52 : MV RL 52 yX8_undo cX8_undo 1 (some .int) 0 := ⟨⟨tbm (i := 717) (by decide +kernel) (by decide +kernel), yk_X8_undo⟩, tbm (i := 718) (by decide +kernel) (by decide +kernel), tbm (i := 719) (by decide +kernel) (by decide +kernel)⟩
theorem mv_X8_162 : MV RX8 162 yX3_restore cX3_restore 2 none 1 := ⟨⟨tbm (i := 721) (by decide +kernel) (by decide +kernel), yk_X3_restore⟩, tbm (i := 722) (by decide +kernel) (by decide +kernel), tbm (i := 723) (by decide +kernel) (by decide +kernel)⟩
theorem mv_L_55 : MV RL 55 yX8_fob cX8_fob 3 (some .int) 2 := ⟨⟨tbm (i := 728) (by decide +kernel) (by decide +kernel), yk_X8_fob⟩, tbm (i := 729) (by decide +kernel) (by decide +kernel), tbm (i := 730) (by decide +kernel) (by decide +kernel)⟩
theorem mv_L_58 : MV RL 58 yX8_slot cX8_slot 4 (some .int) 3 := ⟨⟨tbm (i := 735) (by decide +kernel) (by decide +kernel), yk_X8_slot⟩, tbm (i := 736) (by decide +kernel) (by decide +kernel), tbm (i := 737) (by decide +kernel) (by decide +kernel)⟩
theorem mv_L_61 : MV RL 61 yX8_door cX8_door 3 (some .int) 2 := ⟨⟨tbm (i := 742) (by decide +kernel) (by decide +kernel), yk_X8_door⟩, tbm (i := 743) (by decide +kernel) (by decide +kernel), tbm (i := 744) (by decide +kernel) (by decide +kernel)⟩
theorem mv_L_64 : MV RL 64 yX8_air cX8_air 2 (some .int) 1 := ⟨⟨tbm (i := 749) (by decide +kernel) (by decide +kernel), yk_X8_air⟩, tbm (i := 750) (by decide +kernel) (by decide +kernel), tbm (i := 751) (by decide +kernel) (by decide +kernel)⟩
theorem mv_L_67 : MV RL 67 yX8_count cX8_count 2 (some .int) 1 := ⟨⟨tbm (i := 756) (by decide +kernel) (by decide +kernel), yk_X8_count⟩, tbm (i := 757) (by decide +kernel) (by decide +kernel), tbm (i := 758) (by decide +kernel) (by decide +kernel)⟩
theorem mv_L_70 : MV RL 70 yX8_setting cX8_setting 2 (some .int) 1 := ⟨⟨tbm (i := 763) (by decide +kernel) (by decide +kernel), yk_X8_setting⟩, tbm (i := 764) (by decide +kernel) (by decide +kernel), tbm (i := 765) (by decide +kernel) (by decide +kernel)⟩
theorem mv_L_73 : MV RL 73 yX8_ifHeard cX8_ifHeard 3 (some .int) 2 := ⟨⟨tbm (i := 770) (by decide +kernel) (by decide +kernel), yk_X8_ifHeard⟩, tbm (i := 771) (by decide +kernel) (by decide +kernel), tbm (i := 772) (by decide +kernel) (by decide +kernel)⟩
theorem mv_L_76 : MV RL 76 yX8_opensIn cX8_opensIn 3 (some .int) 2 := ⟨⟨tbm (i := 777) (by decide +kernel) (by decide +kernel), yk_X8_opensIn⟩, tbm (i := 778) (by decide +kernel) (by decide +kernel), tbm (i := 779) (by decide +kernel) (by decide +kernel)⟩
theorem mv_L_79 : MV RL 79 yX8_unheard cX8_unheard 3 (some .int) 2 := ⟨⟨tbm (i := 784) (by decide +kernel) (by decide +kernel), yk_X8_unheard⟩, tbm (i := 785) (by decide +kernel) (by decide +kernel), tbm (i := 786) (by decide +kernel) (by decide +kernel)⟩
theorem mv_L_82 : MV RL 82 yX8_useful cX8_useful 2 (some .int) 1 := ⟨⟨tbm (i := 791) (by decide +kernel) (by decide +kernel), yk_X8_useful⟩, tbm (i := 792) (by decide +kernel) (by decide +kernel), tbm (i := 793) (by decide +kernel) (by decide +kernel)⟩
theorem fl_X9_7 : FL RX9 7 9 0 := ⟨RX9, TX9, 13, rfl, by decide, tbm (i := 801) (by decide +kernel) (by decide +kernel)⟩
theorem fl_X9_13 : FL RX9 13 9 1 := ⟨RX9, TX9, 13, rfl, by decide, tbm (i := 802) (by decide +kernel) (by decide +kernel)⟩
theorem fl_X9_16 : FL RX9 16 9 2 := ⟨RX9, TX9, 13, rfl, by decide, tbm (i := 803) (by decide +kernel) (by decide +kernel)⟩
theorem fl_X9_37 : FL RX9 37 9 3 := ⟨RX9, TX9, 13, rfl, by decide, tbm (i := 804) (by decide +kernel) (by decide +kernel)⟩
theorem fl_X9_19 : FL RX9 19 9 4 := ⟨RX9, TX9, 13, rfl, by decide, tbm (i := 805) (by decide +kernel) (by decide +kernel)⟩
theorem fl_X9_114 : FL RX9 114 9 5 := ⟨RX9, TX9, 13, rfl, by decide, tbm (i := 806) (by decide +kernel) (by decide +kernel)⟩
theorem fl_X9_25 : FL RX9 25 9 6 := ⟨RX9, TX9, 13, rfl, by decide, tbm (i := 807) (by decide +kernel) (by decide +kernel)⟩
theorem fl_X9_117 : FL RX9 117 9 7 := ⟨RX9, TX9, 13, rfl, by decide, tbm (i := 808) (by decide +kernel) (by decide +kernel)⟩
theorem fl_X9_120 : FL RX9 120 9 8 := ⟨RX9, TX9, 13, rfl, by decide, tbm (i := 809) (by decide +kernel) (by decide +kernel)⟩
theorem fl_X9_22 : FL RX9 22 9 9 := ⟨RX9, TX9, 13, rfl, by decide, tbm (i := 810) (by decide +kernel) (by decide +kernel)⟩
theorem fl_X9_131 : FL RX9 131 9 10 := ⟨RX9, TX9, 13, rfl, by decide, tbm (i := 811) (by decide +kernel) (by decide +kernel)⟩
theorem fl_X9_50 : FL RX9 50 9 11 := ⟨RX9, TX9, 13, rfl, by decide, tbm (i := 812) (by decide +kernel) (by decide +kernel)⟩
theorem fl_X9_53 : FL RX9 53 9 12 := ⟨RX9, TX9, 13, rfl, by decide, tbm (i := 813) (by decide +kernel) (by decide +kernel)⟩
theorem mv_L_95 : MV RL 95 yX9_thrown cX9_thrown 1 (some .int) 0 := ⟨⟨tbm (i := 841) (by decide +kernel) (by decide +kernel), yk_X9_thrown⟩, tbm (i := 842) (by decide +kernel) (by decide +kernel), tbm (i := 843) (by decide +kernel) (by decide +kernel)⟩
theorem mv_L_141 : MV RL 141 yX9_undo cX9_undo 1 (some .int) 0 := ⟨⟨tbm (i := 845) (by decide +kernel) (by decide +kernel), yk_X9_undo⟩, tbm (i := 846) (by decide +kernel) (by decide +kernel), tbm (i := 847) (by decide +kernel) (by decide +kernel)⟩
theorem mv_X9_44 : MV RX9 44 yX9_fails cX9_fails 2 (some .int) 1 := ⟨⟨tbm (i := 849) (by decide +kernel) (by decide +kernel), yk_X9_fails⟩, tbm (i := 851) (by decide +kernel) (by decide +kernel), tbm (i := 9) (by decide +kernel) (by decide +kernel)⟩
theorem ms_X9_40 : MS RX9 40 yX9_copies cX9_copies 5 none 4 := ⟨⟨tbm (i := 853) (by decide +kernel) (by decide +kernel), yk_X9_copies⟩, tbm (i := 854) (by decide +kernel) (by decide +kernel)⟩
theorem mv_L_94 : MV RL 94 yX9_make cX9_make 4 (some .int) 3 := ⟨⟨tbm (i := 856) (by decide +kernel) (by decide +kernel), yk_X9_make⟩, tbm (i := 857) (by decide +kernel) (by decide +kernel), tbm (i := 858) (by decide +kernel) (by decide +kernel)⟩
theorem ms_X9_92 : MS RX9 92 yX9_isFob cX9_isFob 1 (some .boolean) 1 := ⟨⟨tbm (i := 860) (by decide +kernel) (by decide +kernel), yk_X9_isFob⟩, tbm (i := 861) (by decide +kernel) (by decide +kernel)⟩
theorem ms_X9_29 : MS RX9 29 yX9_in cX9_in 3 (some .boolean) 3 := ⟨⟨tbm (i := 863) (by decide +kernel) (by decide +kernel), yk_X9_in⟩, tbm (i := 864) (by decide +kernel) (by decide +kernel)⟩
theorem mv_X9_95 : MV RX9 95 yX9_saves cX9_saves 2 none 0 := ⟨⟨tbm (i := 866) (by decide +kernel) (by decide +kernel), yk_X9_saves⟩, tbm (i := 868) (by decide +kernel) (by decide +kernel), tbm (i := 10) (by decide +kernel) (by decide +kernel)⟩
theorem mv_X9_98 : MV RX9 98 yX9_changes cX9_changes 4 (some .int) 2 := ⟨⟨tbm (i := 870) (by decide +kernel) (by decide +kernel), yk_X9_changes⟩, tbm (i := 872) (by decide +kernel) (by decide +kernel), tbm (i := 11) (by decide +kernel) (by decide +kernel)⟩
theorem mv_L_101 : MV RL 101 yX9_battery cX9_battery 3 (some .int) 2 := ⟨⟨tbm (i := 874) (by decide +kernel) (by decide +kernel), yk_X9_battery⟩, tbm (i := 875) (by decide +kernel) (by decide +kernel), tbm (i := 876) (by decide +kernel) (by decide +kernel)⟩
theorem mv_L_104 : MV RL 104 yX9_press cX9_press 3 (some .int) 2 := ⟨⟨tbm (i := 878) (by decide +kernel) (by decide +kernel), yk_X9_press⟩, tbm (i := 879) (by decide +kernel) (by decide +kernel), tbm (i := 880) (by decide +kernel) (by decide +kernel)⟩
theorem mv_X9_101 : MV RX9 101 yX9_presses cX9_presses 7 (some .int) 3 := ⟨⟨tbm (i := 882) (by decide +kernel) (by decide +kernel), yk_X9_presses⟩, tbm (i := 884) (by decide +kernel) (by decide +kernel), tbm (i := 12) (by decide +kernel) (by decide +kernel)⟩
theorem ms_X9_82 : MS RX9 82 yX9_next cX9_next 2 (some .int) 2 := ⟨⟨tbm (i := 886) (by decide +kernel) (by decide +kernel), yk_X9_next⟩, tbm (i := 887) (by decide +kernel) (by decide +kernel)⟩
theorem ms_X9_60 : MS RX9 60 yX9_ahead cX9_ahead 2 (some .int) 2 := ⟨⟨tbm (i := 889) (by decide +kernel) (by decide +kernel), yk_X9_ahead⟩, tbm (i := 890) (by decide +kernel) (by decide +kernel)⟩
theorem ms_X9_63 : MS RX9 63 yX9_numberOf cX9_numberOf 2 (some .int) 2 := ⟨⟨tbm (i := 892) (by decide +kernel) (by decide +kernel), yk_X9_numberOf⟩, tbm (i := 893) (by decide +kernel) (by decide +kernel)⟩
theorem kc_X9_48 : Cond.constant RX9 48 (40503 : Int32) ∈ TB := tbm (i := 895) (by decide +kernel) (by decide +kernel)
theorem kc_X9_49 : Cond.constant RX9 49 (65536 : Int32) ∈ TB := tbm (i := 896) (by decide +kernel) (by decide +kernel)
theorem mv_X9_86 : MV RX9 86 yX9_heard cX9_heard 6 (some .int) 3 := ⟨⟨tbm (i := 897) (by decide +kernel) (by decide +kernel), yk_X9_heard⟩, tbm (i := 899) (by decide +kernel) (by decide +kernel), tbm (i := 13) (by decide +kernel) (by decide +kernel)⟩
theorem mv_X9_78 : MV RX9 78 yX9_hears cX9_hears 8 (some .boolean) 3 := ⟨⟨tbm (i := 901) (by decide +kernel) (by decide +kernel), yk_X9_hears⟩, tbm (i := 903) (by decide +kernel) (by decide +kernel), tbm (i := 14) (by decide +kernel) (by decide +kernel)⟩
theorem mv_X9_74 : MV RX9 74 yX9_would cX9_would 6 (some .int) 3 := ⟨⟨tbm (i := 905) (by decide +kernel) (by decide +kernel), yk_X9_would⟩, tbm (i := 907) (by decide +kernel) (by decide +kernel), tbm (i := 15) (by decide +kernel) (by decide +kernel)⟩
theorem ms_X9_66 : MS RX9 66 yX9_isLocked cX9_isLocked 2 (some .boolean) 2 := ⟨⟨tbm (i := 909) (by decide +kernel) (by decide +kernel), yk_X9_isLocked⟩, tbm (i := 910) (by decide +kernel) (by decide +kernel)⟩
theorem mv_X9_70 : MV RX9 70 yX9_looks cX9_looks 7 none 3 := ⟨⟨tbm (i := 912) (by decide +kernel) (by decide +kernel), yk_X9_looks⟩, tbm (i := 914) (by decide +kernel) (by decide +kernel), tbm (i := 16) (by decide +kernel) (by decide +kernel)⟩
theorem ms_X9_56 : MS RX9 56 yX9_slotAt cX9_slotAt 2 (some .int) 2 := ⟨⟨tbm (i := 916) (by decide +kernel) (by decide +kernel), yk_X9_slotAt⟩, tbm (i := 917) (by decide +kernel) (by decide +kernel)⟩
theorem mv_L_107 : MV RL 107 yX9_again cX9_again 3 (some .int) 2 := ⟨⟨tbm (i := 919) (by decide +kernel) (by decide +kernel), yk_X9_again⟩, tbm (i := 920) (by decide +kernel) (by decide +kernel), tbm (i := 921) (by decide +kernel) (by decide +kernel)⟩
theorem mv_X9_104 : MV RX9 104 yX9_sends cX9_sends 4 (some .int) 2 := ⟨⟨tbm (i := 923) (by decide +kernel) (by decide +kernel), yk_X9_sends⟩, tbm (i := 925) (by decide +kernel) (by decide +kernel), tbm (i := 17) (by decide +kernel) (by decide +kernel)⟩
theorem ms_X9_89 : MS RX9 89 yX9_ones cX9_ones 1 (some .int) 1 := ⟨⟨tbm (i := 927) (by decide +kernel) (by decide +kernel), yk_X9_ones⟩, tbm (i := 928) (by decide +kernel) (by decide +kernel)⟩
theorem mv_L_110 : MV RL 110 yX9_learn cX9_learn 5 (some .int) 3 := ⟨⟨tbm (i := 930) (by decide +kernel) (by decide +kernel), yk_X9_learn⟩, tbm (i := 931) (by decide +kernel) (by decide +kernel), tbm (i := 932) (by decide +kernel) (by decide +kernel)⟩
theorem ms_X9_107 : MS RX9 107 yX9_isSlot cX9_isSlot 2 (some .boolean) 2 := ⟨⟨tbm (i := 934) (by decide +kernel) (by decide +kernel), yk_X9_isSlot⟩, tbm (i := 935) (by decide +kernel) (by decide +kernel)⟩
theorem ms_X9_33 : MS RX9 33 yX9_isDoor cX9_isDoor 1 (some .boolean) 1 := ⟨⟨tbm (i := 937) (by decide +kernel) (by decide +kernel), yk_X9_isDoor⟩, tbm (i := 938) (by decide +kernel) (by decide +kernel)⟩
theorem mv_X9_111 : MV RX9 111 yX9_learnt cX9_learnt 4 (some .int) 1 := ⟨⟨tbm (i := 940) (by decide +kernel) (by decide +kernel), yk_X9_learnt⟩, tbm (i := 942) (by decide +kernel) (by decide +kernel), tbm (i := 18) (by decide +kernel) (by decide +kernel)⟩
theorem mv_L_113 : MV RL 113 yX9_forget cX9_forget 3 (some .int) 2 := ⟨⟨tbm (i := 944) (by decide +kernel) (by decide +kernel), yk_X9_forget⟩, tbm (i := 945) (by decide +kernel) (by decide +kernel), tbm (i := 946) (by decide +kernel) (by decide +kernel)⟩
theorem mv_L_117 : MV RL 117 yX9_shut cX9_shut 2 (some .int) 1 := ⟨⟨tbm (i := 948) (by decide +kernel) (by decide +kernel), yk_X9_shut⟩, tbm (i := 949) (by decide +kernel) (by decide +kernel), tbm (i := 950) (by decide +kernel) (by decide +kernel)⟩
theorem mv_L_120 : MV RL 120 yX9_unlock cX9_unlock 2 (some .int) 1 := ⟨⟨tbm (i := 952) (by decide +kernel) (by decide +kernel), yk_X9_unlock⟩, tbm (i := 953) (by decide +kernel) (by decide +kernel), tbm (i := 954) (by decide +kernel) (by decide +kernel)⟩
theorem mv_L_123 : MV RL 123 yX9_set cX9_set 3 (some .int) 2 := ⟨⟨tbm (i := 956) (by decide +kernel) (by decide +kernel), yk_X9_set⟩, tbm (i := 957) (by decide +kernel) (by decide +kernel), tbm (i := 958) (by decide +kernel) (by decide +kernel)⟩
theorem mv_L_126 : MV RL 126 yX9_append cX9_append 2 (some .int) 1 := ⟨⟨tbm (i := 960) (by decide +kernel) (by decide +kernel), yk_X9_append⟩, tbm (i := 961) (by decide +kernel) (by decide +kernel), tbm (i := 962) (by decide +kernel) (by decide +kernel)⟩
theorem mv_L_130 : MV RL 130 yX9_clearBuffer cX9_clearBuffer 2 (some .int) 0 := ⟨⟨tbm (i := 964) (by decide +kernel) (by decide +kernel), yk_X9_clearBuffer⟩, tbm (i := 965) (by decide +kernel) (by decide +kernel), tbm (i := 966) (by decide +kernel) (by decide +kernel)⟩
theorem mv_L_134 : MV RL 134 yX9_firstError cX9_firstError 2 (some .int) 0 := ⟨⟨tbm (i := 968) (by decide +kernel) (by decide +kernel), yk_X9_firstError⟩, tbm (i := 969) (by decide +kernel) (by decide +kernel), tbm (i := 970) (by decide +kernel) (by decide +kernel)⟩
theorem mv_X9_143 : MV RX9 143 yX9_isText cX9_isText 2 (some .boolean) 0 := ⟨⟨tbm (i := 972) (by decide +kernel) (by decide +kernel), yk_X9_isText⟩, tbm (i := 974) (by decide +kernel) (by decide +kernel), tbm (i := 19) (by decide +kernel) (by decide +kernel)⟩
theorem mv_X9_140 : MV RX9 140 yX9_isPart cX9_isPart 2 (some .boolean) 0 := ⟨⟨tbm (i := 976) (by decide +kernel) (by decide +kernel), yk_X9_isPart⟩, tbm (i := 978) (by decide +kernel) (by decide +kernel), tbm (i := 20) (by decide +kernel) (by decide +kernel)⟩
theorem mv_X9_127 : MV RX9 127 yX9_stops cX9_stops 1 (some .boolean) 0 := ⟨⟨tbm (i := 980) (by decide +kernel) (by decide +kernel), yk_X9_stops⟩, tbm (i := 982) (by decide +kernel) (by decide +kernel), tbm (i := 21) (by decide +kernel) (by decide +kernel)⟩
theorem mv_X9_134 : MV RX9 134 yX9_isDigit cX9_isDigit 2 (some .boolean) 1 := ⟨⟨tbm (i := 984) (by decide +kernel) (by decide +kernel), yk_X9_isDigit⟩, tbm (i := 986) (by decide +kernel) (by decide +kernel), tbm (i := 22) (by decide +kernel) (by decide +kernel)⟩
theorem mv_X9_124 : MV RX9 124 yX9_isAt cX9_isAt 3 (some .boolean) 2 := ⟨⟨tbm (i := 988) (by decide +kernel) (by decide +kernel), yk_X9_isAt⟩, tbm (i := 990) (by decide +kernel) (by decide +kernel), tbm (i := 23) (by decide +kernel) (by decide +kernel)⟩
theorem mv_X9_137 : MV RX9 137 yX9_areDoors cX9_areDoors 2 (some .boolean) 0 := ⟨⟨tbm (i := 992) (by decide +kernel) (by decide +kernel), yk_X9_areDoors⟩, tbm (i := 994) (by decide +kernel) (by decide +kernel), tbm (i := 24) (by decide +kernel) (by decide +kernel)⟩
theorem mv_L_138 : MV RL 138 yX9_play cX9_play 2 (some .int) 0 := ⟨⟨tbm (i := 996) (by decide +kernel) (by decide +kernel), yk_X9_play⟩, tbm (i := 997) (by decide +kernel) (by decide +kernel), tbm (i := 998) (by decide +kernel) (by decide +kernel)⟩
theorem mv_X9_146 : MV RX9 146 yX9_does cX9_does 4 (some .boolean) 1 := ⟨⟨tbm (i := 1000) (by decide +kernel) (by decide +kernel), yk_X9_does⟩, tbm (i := 1002) (by decide +kernel) (by decide +kernel), tbm (i := 25) (by decide +kernel) (by decide +kernel)⟩
theorem mv_L_144 : MV RL 144 yX9_fob cX9_fob 3 (some .int) 2 := ⟨⟨tbm (i := 1004) (by decide +kernel) (by decide +kernel), yk_X9_fob⟩, tbm (i := 1005) (by decide +kernel) (by decide +kernel), tbm (i := 1006) (by decide +kernel) (by decide +kernel)⟩
theorem mv_X9_149 : MV RX9 149 yX9_ofFob cX9_ofFob 3 (some .int) 2 := ⟨⟨tbm (i := 1008) (by decide +kernel) (by decide +kernel), yk_X9_ofFob⟩, tbm (i := 1010) (by decide +kernel) (by decide +kernel), tbm (i := 26) (by decide +kernel) (by decide +kernel)⟩
theorem mv_L_147 : MV RL 147 yX9_slot cX9_slot 4 (some .int) 3 := ⟨⟨tbm (i := 1012) (by decide +kernel) (by decide +kernel), yk_X9_slot⟩, tbm (i := 1013) (by decide +kernel) (by decide +kernel), tbm (i := 1014) (by decide +kernel) (by decide +kernel)⟩
theorem mv_X9_152 : MV RX9 152 yX9_ofSlot cX9_ofSlot 5 (some .int) 3 := ⟨⟨tbm (i := 1016) (by decide +kernel) (by decide +kernel), yk_X9_ofSlot⟩, tbm (i := 1018) (by decide +kernel) (by decide +kernel), tbm (i := 27) (by decide +kernel) (by decide +kernel)⟩
theorem mv_L_150 : MV RL 150 yX9_door cX9_door 3 (some .int) 2 := ⟨⟨tbm (i := 1020) (by decide +kernel) (by decide +kernel), yk_X9_door⟩, tbm (i := 1021) (by decide +kernel) (by decide +kernel), tbm (i := 1022) (by decide +kernel) (by decide +kernel)⟩
theorem mv_X9_156 : MV RX9 156 yX9_ofDoor cX9_ofDoor 3 (some .int) 2 := ⟨⟨tbm (i := 1024) (by decide +kernel) (by decide +kernel), yk_X9_ofDoor⟩, tbm (i := 1026) (by decide +kernel) (by decide +kernel), tbm (i := 28) (by decide +kernel) (by decide +kernel)⟩
theorem mv_L_153 : MV RL 153 yX9_air cX9_air 2 (some .int) 1 := ⟨⟨tbm (i := 1028) (by decide +kernel) (by decide +kernel), yk_X9_air⟩, tbm (i := 1029) (by decide +kernel) (by decide +kernel), tbm (i := 1030) (by decide +kernel) (by decide +kernel)⟩
theorem mv_L_156 : MV RL 156 yX9_count cX9_count 2 (some .int) 1 := ⟨⟨tbm (i := 1032) (by decide +kernel) (by decide +kernel), yk_X9_count⟩, tbm (i := 1033) (by decide +kernel) (by decide +kernel), tbm (i := 1034) (by decide +kernel) (by decide +kernel)⟩
theorem mv_X9_162 : MV RX9 162 yX9_counted cX9_counted 2 (some .int) 1 := ⟨⟨tbm (i := 1036) (by decide +kernel) (by decide +kernel), yk_X9_counted⟩, tbm (i := 1038) (by decide +kernel) (by decide +kernel), tbm (i := 29) (by decide +kernel) (by decide +kernel)⟩
theorem mv_X9_159 : MV RX9 159 yX9_ofDoors cX9_ofDoors 4 (some .int) 1 := ⟨⟨tbm (i := 1040) (by decide +kernel) (by decide +kernel), yk_X9_ofDoors⟩, tbm (i := 1042) (by decide +kernel) (by decide +kernel), tbm (i := 30) (by decide +kernel) (by decide +kernel)⟩
theorem mv_L_159 : MV RL 159 yX9_setting cX9_setting 2 (some .int) 1 := ⟨⟨tbm (i := 1044) (by decide +kernel) (by decide +kernel), yk_X9_setting⟩, tbm (i := 1045) (by decide +kernel) (by decide +kernel), tbm (i := 1046) (by decide +kernel) (by decide +kernel)⟩
theorem mv_L_162 : MV RL 162 yX9_ifHeard cX9_ifHeard 3 (some .int) 2 := ⟨⟨tbm (i := 1048) (by decide +kernel) (by decide +kernel), yk_X9_ifHeard⟩, tbm (i := 1049) (by decide +kernel) (by decide +kernel), tbm (i := 1050) (by decide +kernel) (by decide +kernel)⟩
theorem kc_X9_165 : Cond.constant RX9 165 (65535 : Int32) ∈ TB := tbm (i := 1052) (by decide +kernel) (by decide +kernel)
theorem mv_L_165 : MV RL 165 yX9_opensIn cX9_opensIn 3 (some .int) 2 := ⟨⟨tbm (i := 1053) (by decide +kernel) (by decide +kernel), yk_X9_opensIn⟩, tbm (i := 1054) (by decide +kernel) (by decide +kernel), tbm (i := 1055) (by decide +kernel) (by decide +kernel)⟩
theorem mv_X9_166 : MV RX9 166 yX9_opens cX9_opens 4 (some .int) 2 := ⟨⟨tbm (i := 1057) (by decide +kernel) (by decide +kernel), yk_X9_opens⟩, tbm (i := 1059) (by decide +kernel) (by decide +kernel), tbm (i := 31) (by decide +kernel) (by decide +kernel)⟩
theorem mv_L_168 : MV RL 168 yX9_unheard cX9_unheard 3 (some .int) 2 := ⟨⟨tbm (i := 1061) (by decide +kernel) (by decide +kernel), yk_X9_unheard⟩, tbm (i := 1062) (by decide +kernel) (by decide +kernel), tbm (i := 1063) (by decide +kernel) (by decide +kernel)⟩
theorem mv_X9_169 : MV RX9 169 yX9_misses cX9_misses 5 (some .int) 2 := ⟨⟨tbm (i := 1065) (by decide +kernel) (by decide +kernel), yk_X9_misses⟩, tbm (i := 1067) (by decide +kernel) (by decide +kernel), tbm (i := 32) (by decide +kernel) (by decide +kernel)⟩
theorem mv_L_171 : MV RL 171 yX9_useful cX9_useful 2 (some .int) 1 := ⟨⟨tbm (i := 1069) (by decide +kernel) (by decide +kernel), yk_X9_useful⟩, tbm (i := 1070) (by decide +kernel) (by decide +kernel), tbm (i := 1071) (by decide +kernel) (by decide +kernel)⟩
theorem mv_X9_172 : MV RX9 172 yX9_first cX9_first 3 (some .int) 1 := ⟨⟨tbm (i := 1073) (by decide +kernel) (by decide +kernel), yk_X9_first⟩, tbm (i := 1075) (by decide +kernel) (by decide +kernel), tbm (i := 33) (by decide +kernel) (by decide +kernel)⟩
theorem mv_L_176 : MV RL 176 yX9_openShare cX9_openShare 1 (some .double) 0 := ⟨⟨tbm (i := 1077) (by decide +kernel) (by decide +kernel), yk_X9_openShare⟩, tbm (i := 1078) (by decide +kernel) (by decide +kernel), tbm (i := 1079) (by decide +kernel) (by decide +kernel)⟩
theorem mv_X9_175 : MV RX9 175 yX9_share cX9_share 3 (some .double) 0 := ⟨⟨tbm (i := 1081) (by decide +kernel) (by decide +kernel), yk_X9_share⟩, tbm (i := 1083) (by decide +kernel) (by decide +kernel), tbm (i := 34) (by decide +kernel) (by decide +kernel)⟩
theorem mv_L_181 : MV RL 181 yX9_digest cX9_digest 5 (some .long) 0 := ⟨⟨tbm (i := 1085) (by decide +kernel) (by decide +kernel), yk_X9_digest⟩, tbm (i := 1086) (by decide +kernel) (by decide +kernel), tbm (i := 1087) (by decide +kernel) (by decide +kernel)⟩
theorem kc_X9_179 : Cond.constantLong RX9 179 (3257 : Int64) ∈ TB := tbm (i := 1089) (by decide +kernel) (by decide +kernel)
theorem kc_X9_181 : Cond.constantLong RX9 181 (31 : Int64) ∈ TB := tbm (i := 1090) (by decide +kernel) (by decide +kernel)
theorem dm_0 {k : Nat} (h : k < 7) : dm k 0 0 := ⟨h, rfl⟩
theorem dm_1 {k : Nat} (h : k < 7) : dm k 1 0 := ⟨h, rfl⟩
theorem dm_2 {k j : Nat} (h : k < 7) (hj : j < 4) : dm k 2 j := ⟨h, hj⟩
theorem dm_3 {k : Nat} (h : k < 7) : dm k 3 0 := ⟨h, rfl⟩
theorem dm_4 {k j : Nat} (h : k < 8) (hj : j < 3) (hk : k = 7 → j = 0) : dm k 4 j := ⟨h, hj, hk⟩
theorem dm_5 {k j : Nat} (h : k < 8) (hj : j < 3) (hk : k = 7 → j = 0) : dm k 5 j := ⟨h, hj, hk⟩
theorem dm_6 {k : Nat} (h : k < 7) : dm k 6 0 := ⟨h, rfl⟩
theorem dm_7 {k : Nat} (h : k < 7) : dm k 7 0 := ⟨h, rfl⟩
theorem dm_8 {k : Nat} (h : k < 7) : dm k 8 0 := ⟨h, rfl⟩
theorem dm_9 : dm 8 9 0 := ⟨rfl, rfl⟩
theorem dm_10 : dm 8 10 0 := ⟨rfl, rfl⟩
theorem dm_11 : dm 8 11 0 := ⟨rfl, rfl⟩
theorem dm_12 : dm 8 12 0 := ⟨rfl, rfl⟩
theorem dm_13 : dm 9 13 0 := ⟨rfl, rfl⟩
theorem dm_14 : dm 15 14 0 := ⟨rfl, rfl⟩
theorem dm_15 {k : Nat} (h : k = 10 ∨ k = 11) : dm k 15 0 := ⟨h, rfl⟩
theorem dm_16 : dm 12 16 0 := ⟨rfl, rfl⟩
theorem dm_17 : dm 13 17 0 := ⟨rfl, rfl⟩
theorem dm_18 : dm 14 18 0 := ⟨rfl, rfl⟩
theorem dm_s {k d j : Nat} (h : k < 8) (hd : d < 3) (hj : j < 4) (hk : k = 7 → d = 0) : dm k (d + 20) j := ⟨h, hd, hj, hk⟩
theorem so_0_4 {cy : Nat → ClassId} {ad : Ads} {x : Mem} {v : Int32} {k : Nat} (h : k < 7) : SO cy ad x (up x k (3) v) k 0 0 (.inr (6, [.ref (ad k 1 0), .ref (ad k 3 0), .ref (ad k 6 0), .ref (ad k 8 0), .int (x k 3), .int (x k 4)].set 4 (.int v))) :=
  so_up (ow_sta (by omega) (by omega) (by omega)) (by simp [EE, up])
theorem so_0_5 {cy : Nat → ClassId} {ad : Ads} {x : Mem} {v : Int32} {k : Nat} (h : k < 7) : SO cy ad x (up x k (4) v) k 0 0 (.inr (6, [.ref (ad k 1 0), .ref (ad k 3 0), .ref (ad k 6 0), .ref (ad k 8 0), .int (x k 3), .int (x k 4)].set 5 (.int v))) :=
  so_up (ow_sta (by omega) (by omega) (by omega)) (by simp [EE, up])
theorem so_2_0 {cy : Nat → ClassId} {ad : Ads} {x : Mem} {v : Int32} {k j : Nat} (h : k < 7) (hj : j < 4) : SO cy ad x (up x k (14 + 4 * j) v) k 2 j (.inr (2, [.int (x k (14 + 4 * j)), .int (x k (15 + 4 * j)), .int (x k (16 + 4 * j)), .int (x k (17 + 4 * j))].set 0 (.int v))) :=
  so_up (by rw [show 14 + 4 * j = 14 + 4 * j + 0 by omega]; exact ow_fob (by omega) hj (by omega)) (by simp [EE, up])
theorem so_2_1 {cy : Nat → ClassId} {ad : Ads} {x : Mem} {v : Int32} {k j : Nat} (h : k < 7) (hj : j < 4) : SO cy ad x (up x k (15 + 4 * j) v) k 2 j (.inr (2, [.int (x k (14 + 4 * j)), .int (x k (15 + 4 * j)), .int (x k (16 + 4 * j)), .int (x k (17 + 4 * j))].set 1 (.int v))) :=
  so_up (by rw [show 15 + 4 * j = 14 + 4 * j + 1 by omega]; exact ow_fob (by omega) hj (by omega)) (by simp [EE, up])
theorem so_2_2 {cy : Nat → ClassId} {ad : Ads} {x : Mem} {v : Int32} {k j : Nat} (h : k < 7) (hj : j < 4) : SO cy ad x (up x k (16 + 4 * j) v) k 2 j (.inr (2, [.int (x k (14 + 4 * j)), .int (x k (15 + 4 * j)), .int (x k (16 + 4 * j)), .int (x k (17 + 4 * j))].set 2 (.int v))) :=
  so_up (by rw [show 16 + 4 * j = 14 + 4 * j + 2 by omega]; exact ow_fob (by omega) hj (by omega)) (by simp [EE, up])
theorem so_2_3 {cy : Nat → ClassId} {ad : Ads} {x : Mem} {v : Int32} {k j : Nat} (h : k < 7) (hj : j < 4) : SO cy ad x (up x k (17 + 4 * j) v) k 2 j (.inr (2, [.int (x k (14 + 4 * j)), .int (x k (15 + 4 * j)), .int (x k (16 + 4 * j)), .int (x k (17 + 4 * j))].set 3 (.int v))) :=
  so_up (by rw [show 17 + 4 * j = 14 + 4 * j + 3 by omega]; exact ow_fob (by omega) hj (by omega)) (by simp [EE, up])
theorem so_4_1 {cy : Nat → ClassId} {ad : Ads} {x : Mem} {v : Int32} {k j : Nat} (h : k < 8) (hj : j < 3) : SO cy ad x (up x k (30 + 22 * j) v) k 4 j (.inr (1, [.ref (ad k 5 j), .int (x k (30 + 22 * j)), .int (x k (31 + 22 * j)), .int (x k (32 + 22 * j)), .int (x k (33 + 22 * j)), .int (x k (34 + 22 * j)), .int (x k (35 + 22 * j))].set 1 (.int v))) :=
  so_up (by rw [show 30 + 22 * j = 30 + 22 * j + 0 by omega]; exact ow_door h hj (by omega)) (by simp [EE, up])
theorem so_4_2 {cy : Nat → ClassId} {ad : Ads} {x : Mem} {v : Int32} {k j : Nat} (h : k < 8) (hj : j < 3) : SO cy ad x (up x k (31 + 22 * j) v) k 4 j (.inr (1, [.ref (ad k 5 j), .int (x k (30 + 22 * j)), .int (x k (31 + 22 * j)), .int (x k (32 + 22 * j)), .int (x k (33 + 22 * j)), .int (x k (34 + 22 * j)), .int (x k (35 + 22 * j))].set 2 (.int v))) :=
  so_up (by rw [show 31 + 22 * j = 30 + 22 * j + 1 by omega]; exact ow_door h hj (by omega)) (by simp [EE, up])
theorem so_4_3 {cy : Nat → ClassId} {ad : Ads} {x : Mem} {v : Int32} {k j : Nat} (h : k < 8) (hj : j < 3) : SO cy ad x (up x k (32 + 22 * j) v) k 4 j (.inr (1, [.ref (ad k 5 j), .int (x k (30 + 22 * j)), .int (x k (31 + 22 * j)), .int (x k (32 + 22 * j)), .int (x k (33 + 22 * j)), .int (x k (34 + 22 * j)), .int (x k (35 + 22 * j))].set 3 (.int v))) :=
  so_up (by rw [show 32 + 22 * j = 30 + 22 * j + 2 by omega]; exact ow_door h hj (by omega)) (by simp [EE, up])
theorem so_4_4 {cy : Nat → ClassId} {ad : Ads} {x : Mem} {v : Int32} {k j : Nat} (h : k < 8) (hj : j < 3) : SO cy ad x (up x k (33 + 22 * j) v) k 4 j (.inr (1, [.ref (ad k 5 j), .int (x k (30 + 22 * j)), .int (x k (31 + 22 * j)), .int (x k (32 + 22 * j)), .int (x k (33 + 22 * j)), .int (x k (34 + 22 * j)), .int (x k (35 + 22 * j))].set 4 (.int v))) :=
  so_up (by rw [show 33 + 22 * j = 30 + 22 * j + 3 by omega]; exact ow_door h hj (by omega)) (by simp [EE, up])
theorem so_4_5 {cy : Nat → ClassId} {ad : Ads} {x : Mem} {v : Int32} {k j : Nat} (h : k < 8) (hj : j < 3) : SO cy ad x (up x k (34 + 22 * j) v) k 4 j (.inr (1, [.ref (ad k 5 j), .int (x k (30 + 22 * j)), .int (x k (31 + 22 * j)), .int (x k (32 + 22 * j)), .int (x k (33 + 22 * j)), .int (x k (34 + 22 * j)), .int (x k (35 + 22 * j))].set 5 (.int v))) :=
  so_up (by rw [show 34 + 22 * j = 30 + 22 * j + 4 by omega]; exact ow_door h hj (by omega)) (by simp [EE, up])
theorem so_4_6 {cy : Nat → ClassId} {ad : Ads} {x : Mem} {v : Int32} {k j : Nat} (h : k < 8) (hj : j < 3) : SO cy ad x (up x k (35 + 22 * j) v) k 4 j (.inr (1, [.ref (ad k 5 j), .int (x k (30 + 22 * j)), .int (x k (31 + 22 * j)), .int (x k (32 + 22 * j)), .int (x k (33 + 22 * j)), .int (x k (34 + 22 * j)), .int (x k (35 + 22 * j))].set 6 (.int v))) :=
  so_up (by rw [show 35 + 22 * j = 30 + 22 * j + 5 by omega]; exact ow_door h hj (by omega)) (by simp [EE, up])
theorem so_6_1 {cy : Nat → ClassId} {ad : Ads} {x : Mem} {v : Int32} {k : Nat} (h : k < 7) : SO cy ad x (up x k (5) v) k 6 0 (.inr (0, [.ref (ad k 7 0), .int (x k 5)].set 1 (.int v))) :=
  so_up (ow_len (by omega)) (by simp [EE, up])
theorem so_8_0 {cy : Nat → ClassId} {ad : Ads} {x : Mem} {v : Int32} {k : Nat} (h : k < 7) : SO cy ad x (up x k (0) v) k 8 0 (.inr (4, [.int (x k 0), .int (x k 1), .int (x k 2)].set 0 (.int v))) :=
  so_up (ow_set (by omega) (by omega)) (by simp [EE, up])
theorem so_8_1 {cy : Nat → ClassId} {ad : Ads} {x : Mem} {v : Int32} {k : Nat} (h : k < 7) : SO cy ad x (up x k (1) v) k 8 0 (.inr (4, [.int (x k 0), .int (x k 1), .int (x k 2)].set 1 (.int v))) :=
  so_up (ow_set (by omega) (by omega)) (by simp [EE, up])
theorem so_8_2 {cy : Nat → ClassId} {ad : Ads} {x : Mem} {v : Int32} {k : Nat} (h : k < 7) : SO cy ad x (up x k (2) v) k 8 0 (.inr (4, [.int (x k 0), .int (x k 1), .int (x k 2)].set 2 (.int v))) :=
  so_up (ow_set (by omega) (by omega)) (by simp [EE, up])
theorem so_10_1 {cy : Nat → ClassId} {ad : Ads} {x : Mem} {v : Int32}   : SO cy ad x (up x 8 (0) v) 8 10 0 (.inr (3, [.ref (ad 8 11 0), .int (x 8 0), .int (x 8 1)].set 1 (.int v))) :=
  so_up (ow_h (by omega)) (by simp [EE, up])
theorem so_10_2 {cy : Nat → ClassId} {ad : Ads} {x : Mem} {v : Int32}   : SO cy ad x (up x 8 (1) v) 8 10 0 (.inr (3, [.ref (ad 8 11 0), .int (x 8 0), .int (x 8 1)].set 2 (.int v))) :=
  so_up (ow_h (by omega)) (by simp [EE, up])
theorem so_12_1 {cy : Nat → ClassId} {ad : Ads} {x : Mem} {v : Int32}   : SO cy ad x (up x 8 (2) v) 8 12 0 (.inr (7, [.ref (ad 9 13 0), .int (x 8 2)].set 1 (.int v))) :=
  so_up (rfl) (by simp [EE, up])
theorem so_14_3 {cy : Nat → ClassId} {ad : Ads} {x : Mem} {v : Int32}   : SO cy ad x (up x 15 (0) v) 15 14 0 (.inr (9, [.ref (ad 10 15 0), .ref (ad 11 15 0), .ref (ad 12 16 0), .int (x 15 0), .ref (ad 13 17 0), .int (x 15 1), .int (x 15 2), .int (x 15 3), .int (x 15 4), .ref (ad 14 18 0), .int (x 15 5), .int (x 15 6), .int (x 15 7)].set 3 (.int v))) :=
  so_up (rfl) (by simp [EE, up])
theorem so_14_5 {cy : Nat → ClassId} {ad : Ads} {x : Mem} {v : Int32}   : SO cy ad x (up x 15 (1) v) 15 14 0 (.inr (9, [.ref (ad 10 15 0), .ref (ad 11 15 0), .ref (ad 12 16 0), .int (x 15 0), .ref (ad 13 17 0), .int (x 15 1), .int (x 15 2), .int (x 15 3), .int (x 15 4), .ref (ad 14 18 0), .int (x 15 5), .int (x 15 6), .int (x 15 7)].set 5 (.int v))) :=
  so_up (rfl) (by simp [EE, up])
theorem so_14_6 {cy : Nat → ClassId} {ad : Ads} {x : Mem} {v : Int32}   : SO cy ad x (up x 15 (2) v) 15 14 0 (.inr (9, [.ref (ad 10 15 0), .ref (ad 11 15 0), .ref (ad 12 16 0), .int (x 15 0), .ref (ad 13 17 0), .int (x 15 1), .int (x 15 2), .int (x 15 3), .int (x 15 4), .ref (ad 14 18 0), .int (x 15 5), .int (x 15 6), .int (x 15 7)].set 6 (.int v))) :=
  so_up (rfl) (by simp [EE, up])
theorem so_14_7 {cy : Nat → ClassId} {ad : Ads} {x : Mem} {v : Int32}   : SO cy ad x (up x 15 (3) v) 15 14 0 (.inr (9, [.ref (ad 10 15 0), .ref (ad 11 15 0), .ref (ad 12 16 0), .int (x 15 0), .ref (ad 13 17 0), .int (x 15 1), .int (x 15 2), .int (x 15 3), .int (x 15 4), .ref (ad 14 18 0), .int (x 15 5), .int (x 15 6), .int (x 15 7)].set 7 (.int v))) :=
  so_up (rfl) (by simp [EE, up])
theorem so_14_8 {cy : Nat → ClassId} {ad : Ads} {x : Mem} {v : Int32}   : SO cy ad x (up x 15 (4) v) 15 14 0 (.inr (9, [.ref (ad 10 15 0), .ref (ad 11 15 0), .ref (ad 12 16 0), .int (x 15 0), .ref (ad 13 17 0), .int (x 15 1), .int (x 15 2), .int (x 15 3), .int (x 15 4), .ref (ad 14 18 0), .int (x 15 5), .int (x 15 6), .int (x 15 7)].set 8 (.int v))) :=
  so_up (rfl) (by simp [EE, up])
theorem so_14_10 {cy : Nat → ClassId} {ad : Ads} {x : Mem} {v : Int32}   : SO cy ad x (up x 15 (5) v) 15 14 0 (.inr (9, [.ref (ad 10 15 0), .ref (ad 11 15 0), .ref (ad 12 16 0), .int (x 15 0), .ref (ad 13 17 0), .int (x 15 1), .int (x 15 2), .int (x 15 3), .int (x 15 4), .ref (ad 14 18 0), .int (x 15 5), .int (x 15 6), .int (x 15 7)].set 10 (.int v))) :=
  so_up (rfl) (by simp [EE, up])
theorem so_14_11 {cy : Nat → ClassId} {ad : Ads} {x : Mem} {v : Int32}   : SO cy ad x (up x 15 (6) v) 15 14 0 (.inr (9, [.ref (ad 10 15 0), .ref (ad 11 15 0), .ref (ad 12 16 0), .int (x 15 0), .ref (ad 13 17 0), .int (x 15 1), .int (x 15 2), .int (x 15 3), .int (x 15 4), .ref (ad 14 18 0), .int (x 15 5), .int (x 15 6), .int (x 15 7)].set 11 (.int v))) :=
  so_up (rfl) (by simp [EE, up])
theorem so_14_12 {cy : Nat → ClassId} {ad : Ads} {x : Mem} {v : Int32}   : SO cy ad x (up x 15 (7) v) 15 14 0 (.inr (9, [.ref (ad 10 15 0), .ref (ad 11 15 0), .ref (ad 12 16 0), .int (x 15 0), .ref (ad 13 17 0), .int (x 15 1), .int (x 15 2), .int (x 15 3), .int (x 15 4), .ref (ad 14 18 0), .int (x 15 5), .int (x 15 6), .int (x 15 7)].set 12 (.int v))) :=
  so_up (rfl) (by simp [EE, up])
theorem so_s_0 {cy : Nat → ClassId} {ad : Ads} {x : Mem} {v : Int32} {k d j : Nat} (h : k < 8) (hd : d < 3) (hj : j < 4) : SO cy ad x (up x k (36 + 22 * d + 4 * j) v) k (d + 20) j (.inr (5, [.int (x k (36 + 22 * d + 4 * j)), .int (x k (37 + 22 * d + 4 * j)), .int (x k (38 + 22 * d + 4 * j)), .int (x k (39 + 22 * d + 4 * j))].set 0 (.int v))) :=
  so_up (by rw [show 36 + 22 * d + 4 * j = 36 + 22 * d + 4 * j + 0 by omega]; exact ow_slot h hd hj (by omega)) (by simp [EE, up])
theorem so_s_1 {cy : Nat → ClassId} {ad : Ads} {x : Mem} {v : Int32} {k d j : Nat} (h : k < 8) (hd : d < 3) (hj : j < 4) : SO cy ad x (up x k (37 + 22 * d + 4 * j) v) k (d + 20) j (.inr (5, [.int (x k (36 + 22 * d + 4 * j)), .int (x k (37 + 22 * d + 4 * j)), .int (x k (38 + 22 * d + 4 * j)), .int (x k (39 + 22 * d + 4 * j))].set 1 (.int v))) :=
  so_up (by rw [show 37 + 22 * d + 4 * j = 36 + 22 * d + 4 * j + 1 by omega]; exact ow_slot h hd hj (by omega)) (by simp [EE, up])
theorem so_s_2 {cy : Nat → ClassId} {ad : Ads} {x : Mem} {v : Int32} {k d j : Nat} (h : k < 8) (hd : d < 3) (hj : j < 4) : SO cy ad x (up x k (38 + 22 * d + 4 * j) v) k (d + 20) j (.inr (5, [.int (x k (36 + 22 * d + 4 * j)), .int (x k (37 + 22 * d + 4 * j)), .int (x k (38 + 22 * d + 4 * j)), .int (x k (39 + 22 * d + 4 * j))].set 2 (.int v))) :=
  so_up (by rw [show 38 + 22 * d + 4 * j = 36 + 22 * d + 4 * j + 2 by omega]; exact ow_slot h hd hj (by omega)) (by simp [EE, up])
theorem so_s_3 {cy : Nat → ClassId} {ad : Ads} {x : Mem} {v : Int32} {k d j : Nat} (h : k < 8) (hd : d < 3) (hj : j < 4) : SO cy ad x (up x k (39 + 22 * d + 4 * j) v) k (d + 20) j (.inr (5, [.int (x k (36 + 22 * d + 4 * j)), .int (x k (37 + 22 * d + 4 * j)), .int (x k (38 + 22 * d + 4 * j)), .int (x k (39 + 22 * d + 4 * j))].set 3 (.int v))) :=
  so_up (by rw [show 39 + 22 * d + 4 * j = 36 + 22 * d + 4 * j + 3 by omega]; exact ow_slot h hd hj (by omega)) (by simp [EE, up])
theorem up_fun (x : Mem) (b i : Nat) (v : Int32) : up x b i v b = upd (x b) i v := by
  funext n
  by_cases h : n = i <;> simp [up, upd, h]
theorem so_13 {cy : Nat → ClassId} {ad : Ads} {x : Mem} {v : Int32} {i : Nat} : SO cy ad x (up x 9 i v) 9 13 0 (.inl (cy 0, 60, .inl (upd (x 9) i v))) := so_up rfl (by show Sum.inl _ = _; rw [up_fun])
theorem so_15 {cy : Nat → ClassId} {ad : Ads} {x : Mem} {v : Int32} {k i : Nat} (hk : k = 10 ∨ k = 11) : SO cy ad x (up x k i v) k 15 0 (.inl (cy 0, 96, .inl (upd (x k) i v))) := so_up (by rcases hk with rfl | rfl <;> rfl) (by show Sum.inl _ = _; rw [up_fun])
theorem so_16 {cy : Nat → ClassId} {ad : Ads} {x : Mem} {v : Int32} {i : Nat} : SO cy ad x (up x 12 i v) 12 16 0 (.inl (cy 0, 576, .inl (upd (x 12) i v))) := so_up rfl (by show Sum.inl _ = _; rw [up_fun])
theorem so_17 {cy : Nat → ClassId} {ad : Ads} {x : Mem} {v : Int32} {i : Nat} : SO cy ad x (up x 13 i v) 13 17 0 (.inl (cy 0, 60, .inl (upd (x 13) i v))) := so_up rfl (by show Sum.inl _ = _; rw [up_fun])
theorem so_18 {cy : Nat → ClassId} {ad : Ads} {x : Mem} {v : Int32} {i : Nat} : SO cy ad x (up x 14 i v) 14 18 0 (.inl (cy 0, 93, .inl (upd (x 14) i v))) := so_up rfl (by show Sum.inl _ = _; rw [up_fun])
end
section
theorem dX0_init_0 : decode cX0_init 0 = .ok (.aload_n 0, 1) := by decide +kernel
theorem dX0_init_1 : decode cX0_init 1 = .ok (.invokespecial 3, 3) := by decide +kernel
theorem dX0_init_4 : decode cX0_init 4 = .ok (.aload_n 0, 1) := by decide +kernel
theorem dX0_init_5 : decode cX0_init 5 = .ok (.bipush 8, 2) := by decide +kernel
theorem dX0_init_7 : decode cX0_init 7 = .ok (.newarray .int, 2) := by decide +kernel
theorem dX0_init_9 : decode cX0_init 9 = .ok (.putfield 9, 3) := by decide +kernel
theorem dX0_init_12 : decode cX0_init 12 = .ok (.return_, 1) := by decide +kernel
theorem dX0_copyFrom_0 : decode cX0_copyFrom 0 = .ok (.aload_n 1, 1) := by decide +kernel
theorem dX0_copyFrom_1 : decode cX0_copyFrom 1 = .ok (.getfield 9, 3) := by decide +kernel
theorem dX0_copyFrom_4 : decode cX0_copyFrom 4 = .ok (.iconst 0, 1) := by decide +kernel
theorem dX0_copyFrom_5 : decode cX0_copyFrom 5 = .ok (.aload_n 0, 1) := by decide +kernel
theorem dX0_copyFrom_6 : decode cX0_copyFrom 6 = .ok (.getfield 9, 3) := by decide +kernel
theorem dX0_copyFrom_9 : decode cX0_copyFrom 9 = .ok (.iconst 0, 1) := by decide +kernel
theorem dX0_copyFrom_10 : decode cX0_copyFrom 10 = .ok (.bipush 8, 2) := by decide +kernel
theorem dX0_copyFrom_12 : decode cX0_copyFrom 12 = .ok (.invokestatic 15, 3) := by decide +kernel
theorem dX0_copyFrom_15 : decode cX0_copyFrom 15 = .ok (.aload_n 0, 1) := by decide +kernel
theorem dX0_copyFrom_16 : decode cX0_copyFrom 16 = .ok (.aload_n 1, 1) := by decide +kernel
theorem dX0_copyFrom_17 : decode cX0_copyFrom 17 = .ok (.getfield 21, 3) := by decide +kernel
theorem dX0_copyFrom_20 : decode cX0_copyFrom 20 = .ok (.putfield 21, 3) := by decide +kernel
theorem dX0_copyFrom_23 : decode cX0_copyFrom 23 = .ok (.return_, 1) := by decide +kernel
theorem dX0_record_0 : decode cX0_record 0 = .ok (.aload_n 0, 1) := by decide +kernel
theorem dX0_record_1 : decode cX0_record 1 = .ok (.getfield 9, 3) := by decide +kernel
theorem dX0_record_4 : decode cX0_record 4 = .ok (.iconst 0, 1) := by decide +kernel
theorem dX0_record_5 : decode cX0_record 5 = .ok (.aload_n 0, 1) := by decide +kernel
theorem dX0_record_6 : decode cX0_record 6 = .ok (.getfield 9, 3) := by decide +kernel
theorem dX0_record_9 : decode cX0_record 9 = .ok (.iconst 1, 1) := by decide +kernel
theorem dX0_record_10 : decode cX0_record 10 = .ok (.bipush 7, 2) := by decide +kernel
theorem dX0_record_12 : decode cX0_record 12 = .ok (.invokestatic 15, 3) := by decide +kernel
theorem dX0_record_15 : decode cX0_record 15 = .ok (.aload_n 0, 1) := by decide +kernel
theorem dX0_record_16 : decode cX0_record 16 = .ok (.getfield 9, 3) := by decide +kernel
theorem dX0_record_19 : decode cX0_record 19 = .ok (.iconst 0, 1) := by decide +kernel
theorem dX0_record_20 : decode cX0_record 20 = .ok (.iload_n 1, 1) := by decide +kernel
theorem dX0_record_21 : decode cX0_record 21 = .ok (.iastore, 1) := by decide +kernel
theorem dX0_record_22 : decode cX0_record 22 = .ok (.aload_n 0, 1) := by decide +kernel
theorem dX0_record_23 : decode cX0_record 23 = .ok (.aload_n 0, 1) := by decide +kernel
theorem dX0_record_24 : decode cX0_record 24 = .ok (.getfield 21, 3) := by decide +kernel
theorem dX0_record_27 : decode cX0_record 27 = .ok (.iconst 1, 1) := by decide +kernel
theorem dX0_record_28 : decode cX0_record 28 = .ok (.iadd, 1) := by decide +kernel
theorem dX0_record_29 : decode cX0_record 29 = .ok (.bipush 8, 2) := by decide +kernel
theorem dX0_record_31 : decode cX0_record 31 = .ok (.invokestatic 25, 3) := by decide +kernel
theorem dX0_record_34 : decode cX0_record 34 = .ok (.putfield 21, 3) := by decide +kernel
theorem dX0_record_37 : decode cX0_record 37 = .ok (.return_, 1) := by decide +kernel
theorem dX0_number_0 : decode cX0_number 0 = .ok (.iload_n 1, 1) := by decide +kernel
theorem dX0_number_1 : decode cX0_number 1 = .ok (.ifCond .lt 26, 3) := by decide +kernel
theorem dX0_number_4 : decode cX0_number 4 = .ok (.iload_n 1, 1) := by decide +kernel
theorem dX0_number_5 : decode cX0_number 5 = .ok (.aload_n 0, 1) := by decide +kernel
theorem dX0_number_6 : decode cX0_number 6 = .ok (.getfield 21, 3) := by decide +kernel
theorem dX0_number_9 : decode cX0_number 9 = .ok (.if_icmp .ge 18, 3) := by decide +kernel
theorem dX0_number_12 : decode cX0_number 12 = .ok (.iload_n 1, 1) := by decide +kernel
theorem dX0_number_13 : decode cX0_number 13 = .ok (.bipush 8, 2) := by decide +kernel
theorem dX0_number_15 : decode cX0_number 15 = .ok (.if_icmp .ge 12, 3) := by decide +kernel
theorem dX0_number_18 : decode cX0_number 18 = .ok (.aload_n 0, 1) := by decide +kernel
theorem dX0_number_19 : decode cX0_number 19 = .ok (.getfield 9, 3) := by decide +kernel
theorem dX0_number_22 : decode cX0_number 22 = .ok (.iload_n 1, 1) := by decide +kernel
theorem dX0_number_23 : decode cX0_number 23 = .ok (.iaload, 1) := by decide +kernel
theorem dX0_number_24 : decode cX0_number 24 = .ok (.goto 4, 3) := by decide +kernel
theorem dX0_number_27 : decode cX0_number 27 = .ok (.iconst (-1), 1) := by decide +kernel
theorem dX0_number_28 : decode cX0_number 28 = .ok (.ireturn, 1) := by decide +kernel
theorem dX1_init_0 : decode cX1_init 0 = .ok (.aload_n 0, 1) := by decide +kernel
theorem dX1_init_1 : decode cX1_init 1 = .ok (.invokespecial 3, 3) := by decide +kernel
theorem dX1_init_4 : decode cX1_init 4 = .ok (.aload_n 0, 1) := by decide +kernel
theorem dX1_init_5 : decode cX1_init 5 = .ok (.iconst 4, 1) := by decide +kernel
theorem dX1_init_6 : decode cX1_init 6 = .ok (.anewarray 9, 3) := by decide +kernel
theorem dX1_init_9 : decode cX1_init 9 = .ok (.putfield 11, 3) := by decide +kernel
theorem dX1_init_12 : decode cX1_init 12 = .ok (.iconst 0, 1) := by decide +kernel
theorem dX1_init_13 : decode cX1_init 13 = .ok (.istore_n 1, 1) := by decide +kernel
theorem dX1_init_14 : decode cX1_init 14 = .ok (.iload_n 1, 1) := by decide +kernel
theorem dX1_init_15 : decode cX1_init 15 = .ok (.iconst 4, 1) := by decide +kernel
theorem dX1_init_16 : decode cX1_init 16 = .ok (.if_icmp .ge 22, 3) := by decide +kernel
theorem dX1_init_19 : decode cX1_init 19 = .ok (.aload_n 0, 1) := by decide +kernel
theorem dX1_init_20 : decode cX1_init 20 = .ok (.getfield 11, 3) := by decide +kernel
theorem dX1_init_23 : decode cX1_init 23 = .ok (.iload_n 1, 1) := by decide +kernel
theorem dX1_init_24 : decode cX1_init 24 = .ok (.new 9, 3) := by decide +kernel
theorem dX1_init_27 : decode cX1_init 27 = .ok (.dup, 1) := by decide +kernel
theorem dX1_init_28 : decode cX1_init 28 = .ok (.invokespecial 17, 3) := by decide +kernel
theorem dX1_init_31 : decode cX1_init 31 = .ok (.aastore, 1) := by decide +kernel
theorem dX1_init_32 : decode cX1_init 32 = .ok (.iinc 1 1, 3) := by decide +kernel
theorem dX1_init_35 : decode cX1_init 35 = .ok (.goto (-21), 3) := by decide +kernel
theorem dX1_init_38 : decode cX1_init 38 = .ok (.return_, 1) := by decide +kernel
theorem dX1_copyFrom_0 : decode cX1_copyFrom 0 = .ok (.iconst 0, 1) := by decide +kernel
theorem dX1_copyFrom_1 : decode cX1_copyFrom 1 = .ok (.istore_n 2, 1) := by decide +kernel
theorem dX1_copyFrom_2 : decode cX1_copyFrom 2 = .ok (.iload_n 2, 1) := by decide +kernel
theorem dX1_copyFrom_3 : decode cX1_copyFrom 3 = .ok (.iconst 4, 1) := by decide +kernel
theorem dX1_copyFrom_4 : decode cX1_copyFrom 4 = .ok (.if_icmp .ge 24, 3) := by decide +kernel
theorem dX1_copyFrom_7 : decode cX1_copyFrom 7 = .ok (.aload_n 0, 1) := by decide +kernel
theorem dX1_copyFrom_8 : decode cX1_copyFrom 8 = .ok (.getfield 11, 3) := by decide +kernel
theorem dX1_copyFrom_11 : decode cX1_copyFrom 11 = .ok (.iload_n 2, 1) := by decide +kernel
theorem dX1_copyFrom_12 : decode cX1_copyFrom 12 = .ok (.aaload, 1) := by decide +kernel
theorem dX1_copyFrom_13 : decode cX1_copyFrom 13 = .ok (.aload_n 1, 1) := by decide +kernel
theorem dX1_copyFrom_14 : decode cX1_copyFrom 14 = .ok (.getfield 11, 3) := by decide +kernel
theorem dX1_copyFrom_17 : decode cX1_copyFrom 17 = .ok (.iload_n 2, 1) := by decide +kernel
theorem dX1_copyFrom_18 : decode cX1_copyFrom 18 = .ok (.aaload, 1) := by decide +kernel
theorem dX1_copyFrom_19 : decode cX1_copyFrom 19 = .ok (.invokevirtual 18, 3) := by decide +kernel
theorem dX1_copyFrom_22 : decode cX1_copyFrom 22 = .ok (.iinc 2 1, 3) := by decide +kernel
theorem dX1_copyFrom_25 : decode cX1_copyFrom 25 = .ok (.goto (-23), 3) := by decide +kernel
theorem dX1_copyFrom_28 : decode cX1_copyFrom 28 = .ok (.aload_n 0, 1) := by decide +kernel
theorem dX1_copyFrom_29 : decode cX1_copyFrom 29 = .ok (.aload_n 1, 1) := by decide +kernel
theorem dX1_copyFrom_30 : decode cX1_copyFrom 30 = .ok (.getfield 22, 3) := by decide +kernel
theorem dX1_copyFrom_33 : decode cX1_copyFrom 33 = .ok (.putfield 22, 3) := by decide +kernel
theorem dX1_copyFrom_36 : decode cX1_copyFrom 36 = .ok (.aload_n 0, 1) := by decide +kernel
theorem dX1_copyFrom_37 : decode cX1_copyFrom 37 = .ok (.aload_n 1, 1) := by decide +kernel
theorem dX1_copyFrom_38 : decode cX1_copyFrom 38 = .ok (.getfield 26, 3) := by decide +kernel
theorem dX1_copyFrom_41 : decode cX1_copyFrom 41 = .ok (.putfield 26, 3) := by decide +kernel
theorem dX1_copyFrom_44 : decode cX1_copyFrom 44 = .ok (.aload_n 0, 1) := by decide +kernel
theorem dX1_copyFrom_45 : decode cX1_copyFrom 45 = .ok (.aload_n 1, 1) := by decide +kernel
theorem dX1_copyFrom_46 : decode cX1_copyFrom 46 = .ok (.getfield 30, 3) := by decide +kernel
theorem dX1_copyFrom_49 : decode cX1_copyFrom 49 = .ok (.putfield 30, 3) := by decide +kernel
theorem dX1_copyFrom_52 : decode cX1_copyFrom 52 = .ok (.aload_n 0, 1) := by decide +kernel
theorem dX1_copyFrom_53 : decode cX1_copyFrom 53 = .ok (.aload_n 1, 1) := by decide +kernel
theorem dX1_copyFrom_54 : decode cX1_copyFrom 54 = .ok (.getfield 33, 3) := by decide +kernel
theorem dX1_copyFrom_57 : decode cX1_copyFrom 57 = .ok (.putfield 33, 3) := by decide +kernel
theorem dX1_copyFrom_60 : decode cX1_copyFrom 60 = .ok (.aload_n 0, 1) := by decide +kernel
theorem dX1_copyFrom_61 : decode cX1_copyFrom 61 = .ok (.aload_n 1, 1) := by decide +kernel
theorem dX1_copyFrom_62 : decode cX1_copyFrom 62 = .ok (.getfield 36, 3) := by decide +kernel
theorem dX1_copyFrom_65 : decode cX1_copyFrom 65 = .ok (.putfield 36, 3) := by decide +kernel
theorem dX1_copyFrom_68 : decode cX1_copyFrom 68 = .ok (.aload_n 0, 1) := by decide +kernel
theorem dX1_copyFrom_69 : decode cX1_copyFrom 69 = .ok (.aload_n 1, 1) := by decide +kernel
theorem dX1_copyFrom_70 : decode cX1_copyFrom 70 = .ok (.getfield 39, 3) := by decide +kernel
theorem dX1_copyFrom_73 : decode cX1_copyFrom 73 = .ok (.putfield 39, 3) := by decide +kernel
theorem dX1_copyFrom_76 : decode cX1_copyFrom 76 = .ok (.return_, 1) := by decide +kernel
theorem dX1_isLocked_0 : decode cX1_isLocked 0 = .ok (.aload_n 1, 1) := by decide +kernel
theorem dX1_isLocked_1 : decode cX1_isLocked 1 = .ok (.getfield 42, 3) := by decide +kernel
theorem dX1_isLocked_4 : decode cX1_isLocked 4 = .ok (.ifCond .le 18, 3) := by decide +kernel
theorem dX1_isLocked_7 : decode cX1_isLocked 7 = .ok (.aload_n 0, 1) := by decide +kernel
theorem dX1_isLocked_8 : decode cX1_isLocked 8 = .ok (.getfield 26, 3) := by decide +kernel
theorem dX1_isLocked_11 : decode cX1_isLocked 11 = .ok (.aload_n 1, 1) := by decide +kernel
theorem dX1_isLocked_12 : decode cX1_isLocked 12 = .ok (.getfield 42, 3) := by decide +kernel
theorem dX1_isLocked_15 : decode cX1_isLocked 15 = .ok (.if_icmp .lt 7, 3) := by decide +kernel
theorem dX1_isLocked_18 : decode cX1_isLocked 18 = .ok (.iconst 1, 1) := by decide +kernel
theorem dX1_isLocked_19 : decode cX1_isLocked 19 = .ok (.goto 4, 3) := by decide +kernel
theorem dX1_isLocked_22 : decode cX1_isLocked 22 = .ok (.iconst 0, 1) := by decide +kernel
theorem dX1_isLocked_23 : decode cX1_isLocked 23 = .ok (.ireturn, 1) := by decide +kernel
theorem dX1_learntSlots_0 : decode cX1_learntSlots 0 = .ok (.iconst 0, 1) := by decide +kernel
theorem dX1_learntSlots_1 : decode cX1_learntSlots 1 = .ok (.istore_n 1, 1) := by decide +kernel
theorem dX1_learntSlots_2 : decode cX1_learntSlots 2 = .ok (.aload_n 0, 1) := by decide +kernel
theorem dX1_learntSlots_3 : decode cX1_learntSlots 3 = .ok (.getfield 11, 3) := by decide +kernel
theorem dX1_learntSlots_6 : decode cX1_learntSlots 6 = .ok (.astore_n 2, 1) := by decide +kernel
theorem dX1_learntSlots_7 : decode cX1_learntSlots 7 = .ok (.aload_n 2, 1) := by decide +kernel
theorem dX1_learntSlots_8 : decode cX1_learntSlots 8 = .ok (.arraylength, 1) := by decide +kernel
theorem dX1_learntSlots_9 : decode cX1_learntSlots 9 = .ok (.istore_n 3, 1) := by decide +kernel
theorem dX1_learntSlots_10 : decode cX1_learntSlots 10 = .ok (.iconst 0, 1) := by decide +kernel
theorem dX1_learntSlots_11 : decode cX1_learntSlots 11 = .ok (.istore 4, 2) := by decide +kernel
theorem dX1_learntSlots_13 : decode cX1_learntSlots 13 = .ok (.iload 4, 2) := by decide +kernel
theorem dX1_learntSlots_15 : decode cX1_learntSlots 15 = .ok (.iload_n 3, 1) := by decide +kernel
theorem dX1_learntSlots_16 : decode cX1_learntSlots 16 = .ok (.if_icmp .ge 24, 3) := by decide +kernel
theorem dX1_learntSlots_19 : decode cX1_learntSlots 19 = .ok (.aload_n 2, 1) := by decide +kernel
theorem dX1_learntSlots_20 : decode cX1_learntSlots 20 = .ok (.iload 4, 2) := by decide +kernel
theorem dX1_learntSlots_22 : decode cX1_learntSlots 22 = .ok (.aaload, 1) := by decide +kernel
theorem dX1_learntSlots_23 : decode cX1_learntSlots 23 = .ok (.astore 5, 2) := by decide +kernel
theorem dX1_learntSlots_25 : decode cX1_learntSlots 25 = .ok (.iload_n 1, 1) := by decide +kernel
theorem dX1_learntSlots_26 : decode cX1_learntSlots 26 = .ok (.aload 5, 2) := by decide +kernel
theorem dX1_learntSlots_28 : decode cX1_learntSlots 28 = .ok (.iconst 0, 1) := by decide +kernel
theorem dX1_learntSlots_29 : decode cX1_learntSlots 29 = .ok (.invokevirtual 47, 3) := by decide +kernel
theorem dX1_learntSlots_32 : decode cX1_learntSlots 32 = .ok (.iadd, 1) := by decide +kernel
theorem dX1_learntSlots_33 : decode cX1_learntSlots 33 = .ok (.istore_n 1, 1) := by decide +kernel
theorem dX1_learntSlots_34 : decode cX1_learntSlots 34 = .ok (.iinc 4 1, 3) := by decide +kernel
theorem dX1_learntSlots_37 : decode cX1_learntSlots 37 = .ok (.goto (-24), 3) := by decide +kernel
theorem dX1_learntSlots_40 : decode cX1_learntSlots 40 = .ok (.iload_n 1, 1) := by decide +kernel
theorem dX1_learntSlots_41 : decode cX1_learntSlots 41 = .ok (.ireturn, 1) := by decide +kernel
theorem dX1_hear_0 : decode cX1_hear 0 = .ok (.aload_n 0, 1) := by decide +kernel
theorem dX1_hear_1 : decode cX1_hear 1 = .ok (.aload_n 2, 1) := by decide +kernel
theorem dX1_hear_2 : decode cX1_hear 2 = .ok (.invokevirtual 51, 3) := by decide +kernel
theorem dX1_hear_5 : decode cX1_hear 5 = .ok (.ifCond .eq 15, 3) := by decide +kernel
theorem dX1_hear_8 : decode cX1_hear 8 = .ok (.aload_n 0, 1) := by decide +kernel
theorem dX1_hear_9 : decode cX1_hear 9 = .ok (.dup, 1) := by decide +kernel
theorem dX1_hear_10 : decode cX1_hear 10 = .ok (.getfield 39, 3) := by decide +kernel
theorem dX1_hear_13 : decode cX1_hear 13 = .ok (.iconst 1, 1) := by decide +kernel
theorem dX1_hear_14 : decode cX1_hear 14 = .ok (.iadd, 1) := by decide +kernel
theorem dX1_hear_15 : decode cX1_hear 15 = .ok (.putfield 39, 3) := by decide +kernel
theorem dX1_hear_18 : decode cX1_hear 18 = .ok (.iconst 3, 1) := by decide +kernel
theorem dX1_hear_19 : decode cX1_hear 19 = .ok (.ireturn, 1) := by decide +kernel
theorem dX1_hear_20 : decode cX1_hear 20 = .ok (.aload_n 0, 1) := by decide +kernel
theorem dX1_hear_21 : decode cX1_hear 21 = .ok (.getfield 11, 3) := by decide +kernel
theorem dX1_hear_24 : decode cX1_hear 24 = .ok (.astore_n 3, 1) := by decide +kernel
theorem dX1_hear_25 : decode cX1_hear 25 = .ok (.aload_n 3, 1) := by decide +kernel
theorem dX1_hear_26 : decode cX1_hear 26 = .ok (.arraylength, 1) := by decide +kernel
theorem dX1_hear_27 : decode cX1_hear 27 = .ok (.istore 4, 2) := by decide +kernel
theorem dX1_hear_29 : decode cX1_hear 29 = .ok (.iconst 0, 1) := by decide +kernel
theorem dX1_hear_30 : decode cX1_hear 30 = .ok (.istore 5, 2) := by decide +kernel
theorem dX1_hear_32 : decode cX1_hear 32 = .ok (.iload 5, 2) := by decide +kernel
theorem dX1_hear_34 : decode cX1_hear 34 = .ok (.iload 4, 2) := by decide +kernel
theorem dX1_hear_36 : decode cX1_hear 36 = .ok (.if_icmp .ge 85, 3) := by decide +kernel
theorem dX1_hear_39 : decode cX1_hear 39 = .ok (.aload_n 3, 1) := by decide +kernel
theorem dX1_hear_40 : decode cX1_hear 40 = .ok (.iload 5, 2) := by decide +kernel
theorem dX1_hear_42 : decode cX1_hear 42 = .ok (.aaload, 1) := by decide +kernel
theorem dX1_hear_43 : decode cX1_hear 43 = .ok (.astore 6, 2) := by decide +kernel
theorem dX1_hear_45 : decode cX1_hear 45 = .ok (.aload 6, 2) := by decide +kernel
theorem dX1_hear_47 : decode cX1_hear 47 = .ok (.iload_n 1, 1) := by decide +kernel
theorem dX1_hear_48 : decode cX1_hear 48 = .ok (.aload_n 2, 1) := by decide +kernel
theorem dX1_hear_49 : decode cX1_hear 49 = .ok (.getfield 55, 3) := by decide +kernel
theorem dX1_hear_52 : decode cX1_hear 52 = .ok (.invokevirtual 58, 3) := by decide +kernel
theorem dX1_hear_55 : decode cX1_hear 55 = .ok (.istore 7, 2) := by decide +kernel
theorem dX1_hear_57 : decode cX1_hear 57 = .ok (.iload 7, 2) := by decide +kernel
theorem dX1_hear_59 : decode cX1_hear 59 = .ok (.ifCond .le 39, 3) := by decide +kernel
theorem dX1_hear_62 : decode cX1_hear 62 = .ok (.aload 6, 2) := by decide +kernel
theorem dX1_hear_64 : decode cX1_hear 64 = .ok (.iload 7, 2) := by decide +kernel
theorem dX1_hear_66 : decode cX1_hear 66 = .ok (.aload_n 2, 1) := by decide +kernel
theorem dX1_hear_67 : decode cX1_hear 67 = .ok (.getfield 62, 3) := by decide +kernel
theorem dX1_hear_70 : decode cX1_hear 70 = .ok (.invokevirtual 65, 3) := by decide +kernel
theorem dX1_hear_73 : decode cX1_hear 73 = .ok (.ifCond .eq 25, 3) := by decide +kernel
theorem dX1_hear_76 : decode cX1_hear 76 = .ok (.aload_n 0, 1) := by decide +kernel
theorem dX1_hear_77 : decode cX1_hear 77 = .ok (.iconst 1, 1) := by decide +kernel
theorem dX1_hear_78 : decode cX1_hear 78 = .ok (.putfield 22, 3) := by decide +kernel
theorem dX1_hear_81 : decode cX1_hear 81 = .ok (.aload_n 0, 1) := by decide +kernel
theorem dX1_hear_82 : decode cX1_hear 82 = .ok (.dup, 1) := by decide +kernel
theorem dX1_hear_83 : decode cX1_hear 83 = .ok (.getfield 30, 3) := by decide +kernel
theorem dX1_hear_86 : decode cX1_hear 86 = .ok (.iconst 1, 1) := by decide +kernel
theorem dX1_hear_87 : decode cX1_hear 87 = .ok (.iadd, 1) := by decide +kernel
theorem dX1_hear_88 : decode cX1_hear 88 = .ok (.putfield 30, 3) := by decide +kernel
theorem dX1_hear_91 : decode cX1_hear 91 = .ok (.aload_n 0, 1) := by decide +kernel
theorem dX1_hear_92 : decode cX1_hear 92 = .ok (.iconst 0, 1) := by decide +kernel
theorem dX1_hear_93 : decode cX1_hear 93 = .ok (.putfield 26, 3) := by decide +kernel
theorem dX1_hear_96 : decode cX1_hear 96 = .ok (.iconst 0, 1) := by decide +kernel
theorem dX1_hear_97 : decode cX1_hear 97 = .ok (.ireturn, 1) := by decide +kernel
theorem dX1_hear_98 : decode cX1_hear 98 = .ok (.iload 7, 2) := by decide +kernel
theorem dX1_hear_100 : decode cX1_hear 100 = .ok (.ifCond .le 15, 3) := by decide +kernel
theorem dX1_hear_103 : decode cX1_hear 103 = .ok (.aload_n 0, 1) := by decide +kernel
theorem dX1_hear_104 : decode cX1_hear 104 = .ok (.dup, 1) := by decide +kernel
theorem dX1_hear_105 : decode cX1_hear 105 = .ok (.getfield 33, 3) := by decide +kernel
theorem dX1_hear_108 : decode cX1_hear 108 = .ok (.iconst 1, 1) := by decide +kernel
theorem dX1_hear_109 : decode cX1_hear 109 = .ok (.iadd, 1) := by decide +kernel
theorem dX1_hear_110 : decode cX1_hear 110 = .ok (.putfield 33, 3) := by decide +kernel
theorem dX1_hear_113 : decode cX1_hear 113 = .ok (.iconst 1, 1) := by decide +kernel
theorem dX1_hear_114 : decode cX1_hear 114 = .ok (.ireturn, 1) := by decide +kernel
theorem dX1_hear_115 : decode cX1_hear 115 = .ok (.iinc 5 1, 3) := by decide +kernel
theorem dX1_hear_118 : decode cX1_hear 118 = .ok (.goto (-86), 3) := by decide +kernel
theorem dX1_hear_121 : decode cX1_hear 121 = .ok (.aload_n 0, 1) := by decide +kernel
theorem dX1_hear_122 : decode cX1_hear 122 = .ok (.dup, 1) := by decide +kernel
theorem dX1_hear_123 : decode cX1_hear 123 = .ok (.getfield 26, 3) := by decide +kernel
theorem dX1_hear_126 : decode cX1_hear 126 = .ok (.iconst 1, 1) := by decide +kernel
theorem dX1_hear_127 : decode cX1_hear 127 = .ok (.iadd, 1) := by decide +kernel
theorem dX1_hear_128 : decode cX1_hear 128 = .ok (.putfield 26, 3) := by decide +kernel
theorem dX1_hear_131 : decode cX1_hear 131 = .ok (.aload_n 0, 1) := by decide +kernel
theorem dX1_hear_132 : decode cX1_hear 132 = .ok (.dup, 1) := by decide +kernel
theorem dX1_hear_133 : decode cX1_hear 133 = .ok (.getfield 36, 3) := by decide +kernel
theorem dX1_hear_136 : decode cX1_hear 136 = .ok (.iconst 1, 1) := by decide +kernel
theorem dX1_hear_137 : decode cX1_hear 137 = .ok (.iadd, 1) := by decide +kernel
theorem dX1_hear_138 : decode cX1_hear 138 = .ok (.putfield 36, 3) := by decide +kernel
theorem dX1_hear_141 : decode cX1_hear 141 = .ok (.iconst 2, 1) := by decide +kernel
theorem dX1_hear_142 : decode cX1_hear 142 = .ok (.ireturn, 1) := by decide +kernel
theorem dX1_look_0 : decode cX1_look 0 = .ok (.iload_n 1, 1) := by decide +kernel
theorem dX1_look_1 : decode cX1_look 1 = .ok (.tableswitch 104 0 7 #[47, 60, 65, 79, 84, 89, 94, 99], 47) := by decide +kernel
theorem dX1_look_48 : decode cX1_look 48 = .ok (.aload_n 0, 1) := by decide +kernel
theorem dX1_look_49 : decode cX1_look 49 = .ok (.getfield 22, 3) := by decide +kernel
theorem dX1_look_52 : decode cX1_look 52 = .ok (.ifCond .eq 7, 3) := by decide +kernel
theorem dX1_look_55 : decode cX1_look 55 = .ok (.iconst 1, 1) := by decide +kernel
theorem dX1_look_56 : decode cX1_look 56 = .ok (.goto 4, 3) := by decide +kernel
theorem dX1_look_59 : decode cX1_look 59 = .ok (.iconst 0, 1) := by decide +kernel
theorem dX1_look_60 : decode cX1_look 60 = .ok (.ireturn, 1) := by decide +kernel
theorem dX1_look_61 : decode cX1_look 61 = .ok (.aload_n 0, 1) := by decide +kernel
theorem dX1_look_62 : decode cX1_look 62 = .ok (.getfield 26, 3) := by decide +kernel
theorem dX1_look_65 : decode cX1_look 65 = .ok (.ireturn, 1) := by decide +kernel
theorem dX1_look_66 : decode cX1_look 66 = .ok (.aload_n 0, 1) := by decide +kernel
theorem dX1_look_67 : decode cX1_look 67 = .ok (.aload_n 2, 1) := by decide +kernel
theorem dX1_look_68 : decode cX1_look 68 = .ok (.invokevirtual 51, 3) := by decide +kernel
theorem dX1_look_71 : decode cX1_look 71 = .ok (.ifCond .eq 7, 3) := by decide +kernel
theorem dX1_look_74 : decode cX1_look 74 = .ok (.iconst 1, 1) := by decide +kernel
theorem dX1_look_75 : decode cX1_look 75 = .ok (.goto 4, 3) := by decide +kernel
theorem dX1_look_78 : decode cX1_look 78 = .ok (.iconst 0, 1) := by decide +kernel
theorem dX1_look_79 : decode cX1_look 79 = .ok (.ireturn, 1) := by decide +kernel
theorem dX1_look_80 : decode cX1_look 80 = .ok (.aload_n 0, 1) := by decide +kernel
theorem dX1_look_81 : decode cX1_look 81 = .ok (.invokevirtual 69, 3) := by decide +kernel
theorem dX1_look_84 : decode cX1_look 84 = .ok (.ireturn, 1) := by decide +kernel
theorem dX1_look_85 : decode cX1_look 85 = .ok (.aload_n 0, 1) := by decide +kernel
theorem dX1_look_86 : decode cX1_look 86 = .ok (.getfield 30, 3) := by decide +kernel
theorem dX1_look_89 : decode cX1_look 89 = .ok (.ireturn, 1) := by decide +kernel
theorem dX1_look_90 : decode cX1_look 90 = .ok (.aload_n 0, 1) := by decide +kernel
theorem dX1_look_91 : decode cX1_look 91 = .ok (.getfield 33, 3) := by decide +kernel
theorem dX1_look_94 : decode cX1_look 94 = .ok (.ireturn, 1) := by decide +kernel
theorem dX1_look_95 : decode cX1_look 95 = .ok (.aload_n 0, 1) := by decide +kernel
theorem dX1_look_96 : decode cX1_look 96 = .ok (.getfield 36, 3) := by decide +kernel
theorem dX1_look_99 : decode cX1_look 99 = .ok (.ireturn, 1) := by decide +kernel
theorem dX1_look_100 : decode cX1_look 100 = .ok (.aload_n 0, 1) := by decide +kernel
theorem dX1_look_101 : decode cX1_look 101 = .ok (.getfield 39, 3) := by decide +kernel
theorem dX1_look_104 : decode cX1_look 104 = .ok (.ireturn, 1) := by decide +kernel
theorem dX1_look_105 : decode cX1_look 105 = .ok (.iconst (-1), 1) := by decide +kernel
theorem dX1_look_106 : decode cX1_look 106 = .ok (.ireturn, 1) := by decide +kernel
theorem dX2_init_0 : decode cX2_init 0 = .ok (.aload_n 0, 1) := by decide +kernel
theorem dX2_init_1 : decode cX2_init 1 = .ok (.invokespecial 3, 3) := by decide +kernel
theorem dX2_init_4 : decode cX2_init 4 = .ok (.aload_n 0, 1) := by decide +kernel
theorem dX2_init_5 : decode cX2_init 5 = .ok (.iload_n 1, 1) := by decide +kernel
theorem dX2_init_6 : decode cX2_init 6 = .ok (.putfield 9, 3) := by decide +kernel
theorem dX2_init_9 : decode cX2_init 9 = .ok (.aload_n 0, 1) := by decide +kernel
theorem dX2_init_10 : decode cX2_init 10 = .ok (.bipush 100, 2) := by decide +kernel
theorem dX2_init_12 : decode cX2_init 12 = .ok (.putfield 15, 3) := by decide +kernel
theorem dX2_init_15 : decode cX2_init 15 = .ok (.return_, 1) := by decide +kernel
theorem dX2_copyFrom_0 : decode cX2_copyFrom 0 = .ok (.aload_n 0, 1) := by decide +kernel
theorem dX2_copyFrom_1 : decode cX2_copyFrom 1 = .ok (.aload_n 1, 1) := by decide +kernel
theorem dX2_copyFrom_2 : decode cX2_copyFrom 2 = .ok (.getfield 9, 3) := by decide +kernel
theorem dX2_copyFrom_5 : decode cX2_copyFrom 5 = .ok (.putfield 9, 3) := by decide +kernel
theorem dX2_copyFrom_8 : decode cX2_copyFrom 8 = .ok (.aload_n 0, 1) := by decide +kernel
theorem dX2_copyFrom_9 : decode cX2_copyFrom 9 = .ok (.aload_n 1, 1) := by decide +kernel
theorem dX2_copyFrom_10 : decode cX2_copyFrom 10 = .ok (.getfield 18, 3) := by decide +kernel
theorem dX2_copyFrom_13 : decode cX2_copyFrom 13 = .ok (.putfield 18, 3) := by decide +kernel
theorem dX2_copyFrom_16 : decode cX2_copyFrom 16 = .ok (.aload_n 0, 1) := by decide +kernel
theorem dX2_copyFrom_17 : decode cX2_copyFrom 17 = .ok (.aload_n 1, 1) := by decide +kernel
theorem dX2_copyFrom_18 : decode cX2_copyFrom 18 = .ok (.getfield 15, 3) := by decide +kernel
theorem dX2_copyFrom_21 : decode cX2_copyFrom 21 = .ok (.putfield 15, 3) := by decide +kernel
theorem dX2_copyFrom_24 : decode cX2_copyFrom 24 = .ok (.aload_n 0, 1) := by decide +kernel
theorem dX2_copyFrom_25 : decode cX2_copyFrom 25 = .ok (.aload_n 1, 1) := by decide +kernel
theorem dX2_copyFrom_26 : decode cX2_copyFrom 26 = .ok (.getfield 21, 3) := by decide +kernel
theorem dX2_copyFrom_29 : decode cX2_copyFrom 29 = .ok (.putfield 21, 3) := by decide +kernel
theorem dX2_copyFrom_32 : decode cX2_copyFrom 32 = .ok (.return_, 1) := by decide +kernel
theorem dX2_sendNext_0 : decode cX2_sendNext 0 = .ok (.aload_n 0, 1) := by decide +kernel
theorem dX2_sendNext_1 : decode cX2_sendNext 1 = .ok (.dup, 1) := by decide +kernel
theorem dX2_sendNext_2 : decode cX2_sendNext 2 = .ok (.getfield 15, 3) := by decide +kernel
theorem dX2_sendNext_5 : decode cX2_sendNext 5 = .ok (.iconst 1, 1) := by decide +kernel
theorem dX2_sendNext_6 : decode cX2_sendNext 6 = .ok (.isub, 1) := by decide +kernel
theorem dX2_sendNext_7 : decode cX2_sendNext 7 = .ok (.putfield 15, 3) := by decide +kernel
theorem dX2_sendNext_10 : decode cX2_sendNext 10 = .ok (.aload_n 0, 1) := by decide +kernel
theorem dX2_sendNext_11 : decode cX2_sendNext 11 = .ok (.dup, 1) := by decide +kernel
theorem dX2_sendNext_12 : decode cX2_sendNext 12 = .ok (.getfield 21, 3) := by decide +kernel
theorem dX2_sendNext_15 : decode cX2_sendNext 15 = .ok (.iconst 1, 1) := by decide +kernel
theorem dX2_sendNext_16 : decode cX2_sendNext 16 = .ok (.iadd, 1) := by decide +kernel
theorem dX2_sendNext_17 : decode cX2_sendNext 17 = .ok (.putfield 21, 3) := by decide +kernel
theorem dX2_sendNext_20 : decode cX2_sendNext 20 = .ok (.aload_n 0, 1) := by decide +kernel
theorem dX2_sendNext_21 : decode cX2_sendNext 21 = .ok (.aload_n 0, 1) := by decide +kernel
theorem dX2_sendNext_22 : decode cX2_sendNext 22 = .ok (.getfield 18, 3) := by decide +kernel
theorem dX2_sendNext_25 : decode cX2_sendNext 25 = .ok (.invokestatic 24, 3) := by decide +kernel
theorem dX2_sendNext_28 : decode cX2_sendNext 28 = .ok (.putfield 18, 3) := by decide +kernel
theorem dX2_sendNext_31 : decode cX2_sendNext 31 = .ok (.aload_n 0, 1) := by decide +kernel
theorem dX2_sendNext_32 : decode cX2_sendNext 32 = .ok (.getfield 9, 3) := by decide +kernel
theorem dX2_sendNext_35 : decode cX2_sendNext 35 = .ok (.aload_n 0, 1) := by decide +kernel
theorem dX2_sendNext_36 : decode cX2_sendNext 36 = .ok (.getfield 18, 3) := by decide +kernel
theorem dX2_sendNext_39 : decode cX2_sendNext 39 = .ok (.invokestatic 28, 3) := by decide +kernel
theorem dX2_sendNext_42 : decode cX2_sendNext 42 = .ok (.ireturn, 1) := by decide +kernel
theorem dX2_look_0 : decode cX2_look 0 = .ok (.iload_n 1, 1) := by decide +kernel
theorem dX2_look_1 : decode cX2_look 1 = .ok (.tableswitch 70 0 4 #[35, 40, 45, 50, 65], 35) := by decide +kernel
theorem dX2_look_36 : decode cX2_look 36 = .ok (.aload_n 0, 1) := by decide +kernel
theorem dX2_look_37 : decode cX2_look 37 = .ok (.getfield 9, 3) := by decide +kernel
theorem dX2_look_40 : decode cX2_look 40 = .ok (.ireturn, 1) := by decide +kernel
theorem dX2_look_41 : decode cX2_look 41 = .ok (.aload_n 0, 1) := by decide +kernel
theorem dX2_look_42 : decode cX2_look 42 = .ok (.getfield 18, 3) := by decide +kernel
theorem dX2_look_45 : decode cX2_look 45 = .ok (.ireturn, 1) := by decide +kernel
theorem dX2_look_46 : decode cX2_look 46 = .ok (.aload_n 0, 1) := by decide +kernel
theorem dX2_look_47 : decode cX2_look 47 = .ok (.getfield 15, 3) := by decide +kernel
theorem dX2_look_50 : decode cX2_look 50 = .ok (.ireturn, 1) := by decide +kernel
theorem dX2_look_51 : decode cX2_look 51 = .ok (.aload_n 0, 1) := by decide +kernel
theorem dX2_look_52 : decode cX2_look 52 = .ok (.getfield 9, 3) := by decide +kernel
theorem dX2_look_55 : decode cX2_look 55 = .ok (.aload_n 0, 1) := by decide +kernel
theorem dX2_look_56 : decode cX2_look 56 = .ok (.getfield 18, 3) := by decide +kernel
theorem dX2_look_59 : decode cX2_look 59 = .ok (.invokestatic 24, 3) := by decide +kernel
theorem dX2_look_62 : decode cX2_look 62 = .ok (.invokestatic 28, 3) := by decide +kernel
theorem dX2_look_65 : decode cX2_look 65 = .ok (.ireturn, 1) := by decide +kernel
theorem dX2_look_66 : decode cX2_look 66 = .ok (.aload_n 0, 1) := by decide +kernel
theorem dX2_look_67 : decode cX2_look 67 = .ok (.getfield 21, 3) := by decide +kernel
theorem dX2_look_70 : decode cX2_look 70 = .ok (.ireturn, 1) := by decide +kernel
theorem dX2_look_71 : decode cX2_look 71 = .ok (.iconst (-1), 1) := by decide +kernel
theorem dX2_look_72 : decode cX2_look 72 = .ok (.ireturn, 1) := by decide +kernel
theorem dX3_init_0 : decode cX3_init 0 = .ok (.aload_n 0, 1) := by decide +kernel
theorem dX3_init_1 : decode cX3_init 1 = .ok (.invokespecial 3, 3) := by decide +kernel
theorem dX3_init_4 : decode cX3_init 4 = .ok (.aload_n 0, 1) := by decide +kernel
theorem dX3_init_5 : decode cX3_init 5 = .ok (.bipush 6, 2) := by decide +kernel
theorem dX3_init_7 : decode cX3_init 7 = .ok (.anewarray 9, 3) := by decide +kernel
theorem dX3_init_10 : decode cX3_init 10 = .ok (.putfield 11, 3) := by decide +kernel
theorem dX3_init_13 : decode cX3_init 13 = .ok (.iconst 0, 1) := by decide +kernel
theorem dX3_init_14 : decode cX3_init 14 = .ok (.istore_n 1, 1) := by decide +kernel
theorem dX3_init_15 : decode cX3_init 15 = .ok (.iload_n 1, 1) := by decide +kernel
theorem dX3_init_16 : decode cX3_init 16 = .ok (.bipush 6, 2) := by decide +kernel
theorem dX3_init_18 : decode cX3_init 18 = .ok (.if_icmp .ge 22, 3) := by decide +kernel
theorem dX3_init_21 : decode cX3_init 21 = .ok (.aload_n 0, 1) := by decide +kernel
theorem dX3_init_22 : decode cX3_init 22 = .ok (.getfield 11, 3) := by decide +kernel
theorem dX3_init_25 : decode cX3_init 25 = .ok (.iload_n 1, 1) := by decide +kernel
theorem dX3_init_26 : decode cX3_init 26 = .ok (.new 9, 3) := by decide +kernel
theorem dX3_init_29 : decode cX3_init 29 = .ok (.dup, 1) := by decide +kernel
theorem dX3_init_30 : decode cX3_init 30 = .ok (.invokespecial 17, 3) := by decide +kernel
theorem dX3_init_33 : decode cX3_init 33 = .ok (.aastore, 1) := by decide +kernel
theorem dX3_init_34 : decode cX3_init 34 = .ok (.iinc 1 1, 3) := by decide +kernel
theorem dX3_init_37 : decode cX3_init 37 = .ok (.goto (-22), 3) := by decide +kernel
theorem dX3_init_40 : decode cX3_init 40 = .ok (.return_, 1) := by decide +kernel
theorem dX3_keep_0 : decode cX3_keep 0 = .ok (.aload_n 0, 1) := by decide +kernel
theorem dX3_keep_1 : decode cX3_keep 1 = .ok (.getfield 11, 3) := by decide +kernel
theorem dX3_keep_4 : decode cX3_keep 4 = .ok (.aload_n 0, 1) := by decide +kernel
theorem dX3_keep_5 : decode cX3_keep 5 = .ok (.getfield 18, 3) := by decide +kernel
theorem dX3_keep_8 : decode cX3_keep 8 = .ok (.aaload, 1) := by decide +kernel
theorem dX3_keep_9 : decode cX3_keep 9 = .ok (.aload_n 1, 1) := by decide +kernel
theorem dX3_keep_10 : decode cX3_keep 10 = .ok (.invokevirtual 22, 3) := by decide +kernel
theorem dX3_keep_13 : decode cX3_keep 13 = .ok (.aload_n 0, 1) := by decide +kernel
theorem dX3_keep_14 : decode cX3_keep 14 = .ok (.aload_n 0, 1) := by decide +kernel
theorem dX3_keep_15 : decode cX3_keep 15 = .ok (.getfield 18, 3) := by decide +kernel
theorem dX3_keep_18 : decode cX3_keep 18 = .ok (.iconst 1, 1) := by decide +kernel
theorem dX3_keep_19 : decode cX3_keep 19 = .ok (.iadd, 1) := by decide +kernel
theorem dX3_keep_20 : decode cX3_keep 20 = .ok (.bipush 6, 2) := by decide +kernel
theorem dX3_keep_22 : decode cX3_keep 22 = .ok (.irem, 1) := by decide +kernel
theorem dX3_keep_23 : decode cX3_keep 23 = .ok (.putfield 18, 3) := by decide +kernel
theorem dX3_keep_26 : decode cX3_keep 26 = .ok (.aload_n 0, 1) := by decide +kernel
theorem dX3_keep_27 : decode cX3_keep 27 = .ok (.aload_n 0, 1) := by decide +kernel
theorem dX3_keep_28 : decode cX3_keep 28 = .ok (.getfield 26, 3) := by decide +kernel
theorem dX3_keep_31 : decode cX3_keep 31 = .ok (.iconst 1, 1) := by decide +kernel
theorem dX3_keep_32 : decode cX3_keep 32 = .ok (.iadd, 1) := by decide +kernel
theorem dX3_keep_33 : decode cX3_keep 33 = .ok (.bipush 6, 2) := by decide +kernel
theorem dX3_keep_35 : decode cX3_keep 35 = .ok (.invokestatic 29, 3) := by decide +kernel
theorem dX3_keep_38 : decode cX3_keep 38 = .ok (.putfield 26, 3) := by decide +kernel
theorem dX3_keep_41 : decode cX3_keep 41 = .ok (.return_, 1) := by decide +kernel
theorem dX3_restore_0 : decode cX3_restore 0 = .ok (.aload_n 0, 1) := by decide +kernel
theorem dX3_restore_1 : decode cX3_restore 1 = .ok (.aload_n 0, 1) := by decide +kernel
theorem dX3_restore_2 : decode cX3_restore 2 = .ok (.getfield 18, 3) := by decide +kernel
theorem dX3_restore_5 : decode cX3_restore 5 = .ok (.bipush 6, 2) := by decide +kernel
theorem dX3_restore_7 : decode cX3_restore 7 = .ok (.iadd, 1) := by decide +kernel
theorem dX3_restore_8 : decode cX3_restore 8 = .ok (.iconst 1, 1) := by decide +kernel
theorem dX3_restore_9 : decode cX3_restore 9 = .ok (.isub, 1) := by decide +kernel
theorem dX3_restore_10 : decode cX3_restore 10 = .ok (.bipush 6, 2) := by decide +kernel
theorem dX3_restore_12 : decode cX3_restore 12 = .ok (.irem, 1) := by decide +kernel
theorem dX3_restore_13 : decode cX3_restore 13 = .ok (.putfield 18, 3) := by decide +kernel
theorem dX3_restore_16 : decode cX3_restore 16 = .ok (.aload_n 1, 1) := by decide +kernel
theorem dX3_restore_17 : decode cX3_restore 17 = .ok (.aload_n 0, 1) := by decide +kernel
theorem dX3_restore_18 : decode cX3_restore 18 = .ok (.getfield 11, 3) := by decide +kernel
theorem dX3_restore_21 : decode cX3_restore 21 = .ok (.aload_n 0, 1) := by decide +kernel
theorem dX3_restore_22 : decode cX3_restore 22 = .ok (.getfield 18, 3) := by decide +kernel
theorem dX3_restore_25 : decode cX3_restore 25 = .ok (.aaload, 1) := by decide +kernel
theorem dX3_restore_26 : decode cX3_restore 26 = .ok (.invokevirtual 22, 3) := by decide +kernel
theorem dX3_restore_29 : decode cX3_restore 29 = .ok (.aload_n 0, 1) := by decide +kernel
theorem dX3_restore_30 : decode cX3_restore 30 = .ok (.dup, 1) := by decide +kernel
theorem dX3_restore_31 : decode cX3_restore 31 = .ok (.getfield 26, 3) := by decide +kernel
theorem dX3_restore_34 : decode cX3_restore 34 = .ok (.iconst 1, 1) := by decide +kernel
theorem dX3_restore_35 : decode cX3_restore 35 = .ok (.isub, 1) := by decide +kernel
theorem dX3_restore_36 : decode cX3_restore 36 = .ok (.putfield 26, 3) := by decide +kernel
theorem dX3_restore_39 : decode cX3_restore 39 = .ok (.return_, 1) := by decide +kernel
theorem dX4_init_0 : decode cX4_init 0 = .ok (.aload_n 0, 1) := by decide +kernel
theorem dX4_init_1 : decode cX4_init 1 = .ok (.invokespecial 1, 3) := by decide +kernel
theorem dX4_init_4 : decode cX4_init 4 = .ok (.aload_n 0, 1) := by decide +kernel
theorem dX4_init_5 : decode cX4_init 5 = .ok (.bipush 16, 2) := by decide +kernel
theorem dX4_init_7 : decode cX4_init 7 = .ok (.putfield 7, 3) := by decide +kernel
theorem dX4_init_10 : decode cX4_init 10 = .ok (.aload_n 0, 1) := by decide +kernel
theorem dX4_init_11 : decode cX4_init 11 = .ok (.bipush 100, 2) := by decide +kernel
theorem dX4_init_13 : decode cX4_init 13 = .ok (.putfield 13, 3) := by decide +kernel
theorem dX4_init_16 : decode cX4_init 16 = .ok (.aload_n 0, 1) := by decide +kernel
theorem dX4_init_17 : decode cX4_init 17 = .ok (.bipush 8, 2) := by decide +kernel
theorem dX4_init_19 : decode cX4_init 19 = .ok (.putfield 16, 3) := by decide +kernel
theorem dX4_init_22 : decode cX4_init 22 = .ok (.return_, 1) := by decide +kernel
theorem dX4_least_0 : decode cX4_least 0 = .ok (.iload_n 0, 1) := by decide +kernel
theorem dX4_least_1 : decode cX4_least 1 = .ok (.iconst 2, 1) := by decide +kernel
theorem dX4_least_2 : decode cX4_least 2 = .ok (.if_icmp .ne 7, 3) := by decide +kernel
theorem dX4_least_5 : decode cX4_least 5 = .ok (.iconst 0, 1) := by decide +kernel
theorem dX4_least_6 : decode cX4_least 6 = .ok (.goto 4, 3) := by decide +kernel
theorem dX4_least_9 : decode cX4_least 9 = .ok (.iconst 1, 1) := by decide +kernel
theorem dX4_least_10 : decode cX4_least 10 = .ok (.ireturn, 1) := by decide +kernel
theorem dX4_most_0 : decode cX4_most 0 = .ok (.iload_n 0, 1) := by decide +kernel
theorem dX4_most_1 : decode cX4_most 1 = .ok (.lookupswitch 34 #[(0, 27), (1, 30)], 27) := by decide +kernel
theorem dX4_most_28 : decode cX4_most 28 = .ok (.bipush 64, 2) := by decide +kernel
theorem dX4_most_30 : decode cX4_most 30 = .ok (.ireturn, 1) := by decide +kernel
theorem dX4_most_31 : decode cX4_most 31 = .ok (.sipush 500, 3) := by decide +kernel
theorem dX4_most_34 : decode cX4_most 34 = .ok (.ireturn, 1) := by decide +kernel
theorem dX4_most_35 : decode cX4_most 35 = .ok (.bipush 20, 2) := by decide +kernel
theorem dX4_most_37 : decode cX4_most 37 = .ok (.ireturn, 1) := by decide +kernel
theorem dX4_copyFrom_0 : decode cX4_copyFrom 0 = .ok (.aload_n 0, 1) := by decide +kernel
theorem dX4_copyFrom_1 : decode cX4_copyFrom 1 = .ok (.aload_n 1, 1) := by decide +kernel
theorem dX4_copyFrom_2 : decode cX4_copyFrom 2 = .ok (.getfield 7, 3) := by decide +kernel
theorem dX4_copyFrom_5 : decode cX4_copyFrom 5 = .ok (.putfield 7, 3) := by decide +kernel
theorem dX4_copyFrom_8 : decode cX4_copyFrom 8 = .ok (.aload_n 0, 1) := by decide +kernel
theorem dX4_copyFrom_9 : decode cX4_copyFrom 9 = .ok (.aload_n 1, 1) := by decide +kernel
theorem dX4_copyFrom_10 : decode cX4_copyFrom 10 = .ok (.getfield 13, 3) := by decide +kernel
theorem dX4_copyFrom_13 : decode cX4_copyFrom 13 = .ok (.putfield 13, 3) := by decide +kernel
theorem dX4_copyFrom_16 : decode cX4_copyFrom 16 = .ok (.aload_n 0, 1) := by decide +kernel
theorem dX4_copyFrom_17 : decode cX4_copyFrom 17 = .ok (.aload_n 1, 1) := by decide +kernel
theorem dX4_copyFrom_18 : decode cX4_copyFrom 18 = .ok (.getfield 16, 3) := by decide +kernel
theorem dX4_copyFrom_21 : decode cX4_copyFrom 21 = .ok (.putfield 16, 3) := by decide +kernel
theorem dX4_copyFrom_24 : decode cX4_copyFrom 24 = .ok (.return_, 1) := by decide +kernel
theorem dX4_value_0 : decode cX4_value 0 = .ok (.iload_n 1, 1) := by decide +kernel
theorem dX4_value_1 : decode cX4_value 1 = .ok (.lookupswitch 37 #[(0, 27), (1, 32)], 27) := by decide +kernel
theorem dX4_value_28 : decode cX4_value 28 = .ok (.aload_n 0, 1) := by decide +kernel
theorem dX4_value_29 : decode cX4_value 29 = .ok (.getfield 7, 3) := by decide +kernel
theorem dX4_value_32 : decode cX4_value 32 = .ok (.ireturn, 1) := by decide +kernel
theorem dX4_value_33 : decode cX4_value 33 = .ok (.aload_n 0, 1) := by decide +kernel
theorem dX4_value_34 : decode cX4_value 34 = .ok (.getfield 13, 3) := by decide +kernel
theorem dX4_value_37 : decode cX4_value 37 = .ok (.ireturn, 1) := by decide +kernel
theorem dX4_value_38 : decode cX4_value 38 = .ok (.aload_n 0, 1) := by decide +kernel
theorem dX4_value_39 : decode cX4_value 39 = .ok (.getfield 16, 3) := by decide +kernel
theorem dX4_value_42 : decode cX4_value 42 = .ok (.ireturn, 1) := by decide +kernel
theorem dX4_change_0 : decode cX4_change 0 = .ok (.iload_n 1, 1) := by decide +kernel
theorem dX4_change_1 : decode cX4_change 1 = .ok (.lookupswitch 43 #[(0, 27), (1, 35)], 27) := by decide +kernel
theorem dX4_change_28 : decode cX4_change 28 = .ok (.aload_n 0, 1) := by decide +kernel
theorem dX4_change_29 : decode cX4_change 29 = .ok (.iload_n 2, 1) := by decide +kernel
theorem dX4_change_30 : decode cX4_change 30 = .ok (.putfield 7, 3) := by decide +kernel
theorem dX4_change_33 : decode cX4_change 33 = .ok (.goto 16, 3) := by decide +kernel
theorem dX4_change_36 : decode cX4_change 36 = .ok (.aload_n 0, 1) := by decide +kernel
theorem dX4_change_37 : decode cX4_change 37 = .ok (.iload_n 2, 1) := by decide +kernel
theorem dX4_change_38 : decode cX4_change 38 = .ok (.putfield 13, 3) := by decide +kernel
theorem dX4_change_41 : decode cX4_change 41 = .ok (.goto 8, 3) := by decide +kernel
theorem dX4_change_44 : decode cX4_change 44 = .ok (.aload_n 0, 1) := by decide +kernel
theorem dX4_change_45 : decode cX4_change 45 = .ok (.iload_n 2, 1) := by decide +kernel
theorem dX4_change_46 : decode cX4_change 46 = .ok (.putfield 16, 3) := by decide +kernel
theorem dX4_change_49 : decode cX4_change 49 = .ok (.return_, 1) := by decide +kernel
theorem dX5_init_0 : decode cX5_init 0 = .ok (.aload_n 0, 1) := by decide +kernel
theorem dX5_init_1 : decode cX5_init 1 = .ok (.invokespecial 3, 3) := by decide +kernel
theorem dX5_init_4 : decode cX5_init 4 = .ok (.aload_n 0, 1) := by decide +kernel
theorem dX5_init_5 : decode cX5_init 5 = .ok (.iconst (-1), 1) := by decide +kernel
theorem dX5_init_6 : decode cX5_init 6 = .ok (.putfield 9, 3) := by decide +kernel
theorem dX5_init_9 : decode cX5_init 9 = .ok (.aload_n 0, 1) := by decide +kernel
theorem dX5_init_10 : decode cX5_init 10 = .ok (.iconst (-1), 1) := by decide +kernel
theorem dX5_init_11 : decode cX5_init 11 = .ok (.putfield 15, 3) := by decide +kernel
theorem dX5_init_14 : decode cX5_init 14 = .ok (.aload_n 0, 1) := by decide +kernel
theorem dX5_init_15 : decode cX5_init 15 = .ok (.iconst (-1), 1) := by decide +kernel
theorem dX5_init_16 : decode cX5_init 16 = .ok (.putfield 18, 3) := by decide +kernel
theorem dX5_init_19 : decode cX5_init 19 = .ok (.return_, 1) := by decide +kernel
theorem dX5_copyFrom_0 : decode cX5_copyFrom 0 = .ok (.aload_n 0, 1) := by decide +kernel
theorem dX5_copyFrom_1 : decode cX5_copyFrom 1 = .ok (.aload_n 1, 1) := by decide +kernel
theorem dX5_copyFrom_2 : decode cX5_copyFrom 2 = .ok (.getfield 21, 3) := by decide +kernel
theorem dX5_copyFrom_5 : decode cX5_copyFrom 5 = .ok (.putfield 21, 3) := by decide +kernel
theorem dX5_copyFrom_8 : decode cX5_copyFrom 8 = .ok (.aload_n 0, 1) := by decide +kernel
theorem dX5_copyFrom_9 : decode cX5_copyFrom 9 = .ok (.aload_n 1, 1) := by decide +kernel
theorem dX5_copyFrom_10 : decode cX5_copyFrom 10 = .ok (.getfield 9, 3) := by decide +kernel
theorem dX5_copyFrom_13 : decode cX5_copyFrom 13 = .ok (.putfield 9, 3) := by decide +kernel
theorem dX5_copyFrom_16 : decode cX5_copyFrom 16 = .ok (.aload_n 0, 1) := by decide +kernel
theorem dX5_copyFrom_17 : decode cX5_copyFrom 17 = .ok (.aload_n 1, 1) := by decide +kernel
theorem dX5_copyFrom_18 : decode cX5_copyFrom 18 = .ok (.getfield 15, 3) := by decide +kernel
theorem dX5_copyFrom_21 : decode cX5_copyFrom 21 = .ok (.putfield 15, 3) := by decide +kernel
theorem dX5_copyFrom_24 : decode cX5_copyFrom 24 = .ok (.aload_n 0, 1) := by decide +kernel
theorem dX5_copyFrom_25 : decode cX5_copyFrom 25 = .ok (.aload_n 1, 1) := by decide +kernel
theorem dX5_copyFrom_26 : decode cX5_copyFrom 26 = .ok (.getfield 18, 3) := by decide +kernel
theorem dX5_copyFrom_29 : decode cX5_copyFrom 29 = .ok (.putfield 18, 3) := by decide +kernel
theorem dX5_copyFrom_32 : decode cX5_copyFrom 32 = .ok (.return_, 1) := by decide +kernel
theorem dX5_learnFrom_0 : decode cX5_learnFrom 0 = .ok (.aload_n 0, 1) := by decide +kernel
theorem dX5_learnFrom_1 : decode cX5_learnFrom 1 = .ok (.iconst 1, 1) := by decide +kernel
theorem dX5_learnFrom_2 : decode cX5_learnFrom 2 = .ok (.putfield 21, 3) := by decide +kernel
theorem dX5_learnFrom_5 : decode cX5_learnFrom 5 = .ok (.aload_n 0, 1) := by decide +kernel
theorem dX5_learnFrom_6 : decode cX5_learnFrom 6 = .ok (.aload_n 1, 1) := by decide +kernel
theorem dX5_learnFrom_7 : decode cX5_learnFrom 7 = .ok (.getfield 25, 3) := by decide +kernel
theorem dX5_learnFrom_10 : decode cX5_learnFrom 10 = .ok (.putfield 9, 3) := by decide +kernel
theorem dX5_learnFrom_13 : decode cX5_learnFrom 13 = .ok (.aload_n 0, 1) := by decide +kernel
theorem dX5_learnFrom_14 : decode cX5_learnFrom 14 = .ok (.aload_n 1, 1) := by decide +kernel
theorem dX5_learnFrom_15 : decode cX5_learnFrom 15 = .ok (.getfield 28, 3) := by decide +kernel
theorem dX5_learnFrom_18 : decode cX5_learnFrom 18 = .ok (.putfield 15, 3) := by decide +kernel
theorem dX5_learnFrom_21 : decode cX5_learnFrom 21 = .ok (.aload_n 0, 1) := by decide +kernel
theorem dX5_learnFrom_22 : decode cX5_learnFrom 22 = .ok (.iconst (-1), 1) := by decide +kernel
theorem dX5_learnFrom_23 : decode cX5_learnFrom 23 = .ok (.putfield 18, 3) := by decide +kernel
theorem dX5_learnFrom_26 : decode cX5_learnFrom 26 = .ok (.return_, 1) := by decide +kernel
theorem dX5_empty_0 : decode cX5_empty 0 = .ok (.aload_n 0, 1) := by decide +kernel
theorem dX5_empty_1 : decode cX5_empty 1 = .ok (.iconst 0, 1) := by decide +kernel
theorem dX5_empty_2 : decode cX5_empty 2 = .ok (.putfield 21, 3) := by decide +kernel
theorem dX5_empty_5 : decode cX5_empty 5 = .ok (.aload_n 0, 1) := by decide +kernel
theorem dX5_empty_6 : decode cX5_empty 6 = .ok (.iconst (-1), 1) := by decide +kernel
theorem dX5_empty_7 : decode cX5_empty 7 = .ok (.putfield 9, 3) := by decide +kernel
theorem dX5_empty_10 : decode cX5_empty 10 = .ok (.aload_n 0, 1) := by decide +kernel
theorem dX5_empty_11 : decode cX5_empty 11 = .ok (.iconst (-1), 1) := by decide +kernel
theorem dX5_empty_12 : decode cX5_empty 12 = .ok (.putfield 15, 3) := by decide +kernel
theorem dX5_empty_15 : decode cX5_empty 15 = .ok (.aload_n 0, 1) := by decide +kernel
theorem dX5_empty_16 : decode cX5_empty 16 = .ok (.iconst (-1), 1) := by decide +kernel
theorem dX5_empty_17 : decode cX5_empty 17 = .ok (.putfield 18, 3) := by decide +kernel
theorem dX5_empty_20 : decode cX5_empty 20 = .ok (.return_, 1) := by decide +kernel
theorem dX5_stepsTo_0 : decode cX5_stepsTo 0 = .ok (.aload_n 0, 1) := by decide +kernel
theorem dX5_stepsTo_1 : decode cX5_stepsTo 1 = .ok (.getfield 21, 3) := by decide +kernel
theorem dX5_stepsTo_4 : decode cX5_stepsTo 4 = .ok (.ifCond .ne 5, 3) := by decide +kernel
theorem dX5_stepsTo_7 : decode cX5_stepsTo 7 = .ok (.iconst 0, 1) := by decide +kernel
theorem dX5_stepsTo_8 : decode cX5_stepsTo 8 = .ok (.ireturn, 1) := by decide +kernel
theorem dX5_stepsTo_9 : decode cX5_stepsTo 9 = .ok (.aload_n 0, 1) := by decide +kernel
theorem dX5_stepsTo_10 : decode cX5_stepsTo 10 = .ok (.getfield 15, 3) := by decide +kernel
theorem dX5_stepsTo_13 : decode cX5_stepsTo 13 = .ok (.istore_n 3, 1) := by decide +kernel
theorem dX5_stepsTo_14 : decode cX5_stepsTo 14 = .ok (.iconst 1, 1) := by decide +kernel
theorem dX5_stepsTo_15 : decode cX5_stepsTo 15 = .ok (.istore 4, 2) := by decide +kernel
theorem dX5_stepsTo_17 : decode cX5_stepsTo 17 = .ok (.iload 4, 2) := by decide +kernel
theorem dX5_stepsTo_19 : decode cX5_stepsTo 19 = .ok (.iload_n 2, 1) := by decide +kernel
theorem dX5_stepsTo_20 : decode cX5_stepsTo 20 = .ok (.if_icmp .gt 29, 3) := by decide +kernel
theorem dX5_stepsTo_23 : decode cX5_stepsTo 23 = .ok (.iload_n 3, 1) := by decide +kernel
theorem dX5_stepsTo_24 : decode cX5_stepsTo 24 = .ok (.invokestatic 31, 3) := by decide +kernel
theorem dX5_stepsTo_27 : decode cX5_stepsTo 27 = .ok (.istore_n 3, 1) := by decide +kernel
theorem dX5_stepsTo_28 : decode cX5_stepsTo 28 = .ok (.aload_n 0, 1) := by decide +kernel
theorem dX5_stepsTo_29 : decode cX5_stepsTo 29 = .ok (.getfield 9, 3) := by decide +kernel
theorem dX5_stepsTo_32 : decode cX5_stepsTo 32 = .ok (.iload_n 3, 1) := by decide +kernel
theorem dX5_stepsTo_33 : decode cX5_stepsTo 33 = .ok (.invokestatic 35, 3) := by decide +kernel
theorem dX5_stepsTo_36 : decode cX5_stepsTo 36 = .ok (.iload_n 1, 1) := by decide +kernel
theorem dX5_stepsTo_37 : decode cX5_stepsTo 37 = .ok (.if_icmp .ne 6, 3) := by decide +kernel
theorem dX5_stepsTo_40 : decode cX5_stepsTo 40 = .ok (.iload 4, 2) := by decide +kernel
theorem dX5_stepsTo_42 : decode cX5_stepsTo 42 = .ok (.ireturn, 1) := by decide +kernel
theorem dX5_stepsTo_43 : decode cX5_stepsTo 43 = .ok (.iinc 4 1, 3) := by decide +kernel
theorem dX5_stepsTo_46 : decode cX5_stepsTo 46 = .ok (.goto (-29), 3) := by decide +kernel
theorem dX5_stepsTo_49 : decode cX5_stepsTo 49 = .ok (.iconst 0, 1) := by decide +kernel
theorem dX5_stepsTo_50 : decode cX5_stepsTo 50 = .ok (.ireturn, 1) := by decide +kernel
theorem dX5_take_0 : decode cX5_take 0 = .ok (.aload_n 0, 1) := by decide +kernel
theorem dX5_take_1 : decode cX5_take 1 = .ok (.getfield 15, 3) := by decide +kernel
theorem dX5_take_4 : decode cX5_take 4 = .ok (.iload_n 1, 1) := by decide +kernel
theorem dX5_take_5 : decode cX5_take 5 = .ok (.iadd, 1) := by decide +kernel
theorem dX5_take_6 : decode cX5_take 6 = .ok (.sipush 10000, 3) := by decide +kernel
theorem dX5_take_9 : decode cX5_take 9 = .ok (.irem, 1) := by decide +kernel
theorem dX5_take_10 : decode cX5_take 10 = .ok (.istore_n 3, 1) := by decide +kernel
theorem dX5_take_11 : decode cX5_take 11 = .ok (.iload_n 1, 1) := by decide +kernel
theorem dX5_take_12 : decode cX5_take 12 = .ok (.iload_n 2, 1) := by decide +kernel
theorem dX5_take_13 : decode cX5_take 13 = .ok (.if_icmp .le 22, 3) := by decide +kernel
theorem dX5_take_16 : decode cX5_take 16 = .ok (.aload_n 0, 1) := by decide +kernel
theorem dX5_take_17 : decode cX5_take 17 = .ok (.getfield 18, 3) := by decide +kernel
theorem dX5_take_20 : decode cX5_take 20 = .ok (.iconst (-1), 1) := by decide +kernel
theorem dX5_take_21 : decode cX5_take 21 = .ok (.if_icmp .eq 26, 3) := by decide +kernel
theorem dX5_take_24 : decode cX5_take 24 = .ok (.iload_n 3, 1) := by decide +kernel
theorem dX5_take_25 : decode cX5_take 25 = .ok (.aload_n 0, 1) := by decide +kernel
theorem dX5_take_26 : decode cX5_take 26 = .ok (.getfield 18, 3) := by decide +kernel
theorem dX5_take_29 : decode cX5_take 29 = .ok (.invokestatic 31, 3) := by decide +kernel
theorem dX5_take_32 : decode cX5_take 32 = .ok (.if_icmp .ne 15, 3) := by decide +kernel
theorem dX5_take_35 : decode cX5_take 35 = .ok (.aload_n 0, 1) := by decide +kernel
theorem dX5_take_36 : decode cX5_take 36 = .ok (.iload_n 3, 1) := by decide +kernel
theorem dX5_take_37 : decode cX5_take 37 = .ok (.putfield 15, 3) := by decide +kernel
theorem dX5_take_40 : decode cX5_take 40 = .ok (.aload_n 0, 1) := by decide +kernel
theorem dX5_take_41 : decode cX5_take 41 = .ok (.iconst (-1), 1) := by decide +kernel
theorem dX5_take_42 : decode cX5_take 42 = .ok (.putfield 18, 3) := by decide +kernel
theorem dX5_take_45 : decode cX5_take 45 = .ok (.iconst 1, 1) := by decide +kernel
theorem dX5_take_46 : decode cX5_take 46 = .ok (.ireturn, 1) := by decide +kernel
theorem dX5_take_47 : decode cX5_take 47 = .ok (.aload_n 0, 1) := by decide +kernel
theorem dX5_take_48 : decode cX5_take 48 = .ok (.iload_n 3, 1) := by decide +kernel
theorem dX5_take_49 : decode cX5_take 49 = .ok (.putfield 18, 3) := by decide +kernel
theorem dX5_take_52 : decode cX5_take 52 = .ok (.iconst 0, 1) := by decide +kernel
theorem dX5_take_53 : decode cX5_take 53 = .ok (.ireturn, 1) := by decide +kernel
theorem dX5_look_0 : decode cX5_look 0 = .ok (.iload_n 1, 1) := by decide +kernel
theorem dX5_look_1 : decode cX5_look 1 = .ok (.tableswitch 59 0 3 #[31, 44, 49, 54], 31) := by decide +kernel
theorem dX5_look_32 : decode cX5_look 32 = .ok (.aload_n 0, 1) := by decide +kernel
theorem dX5_look_33 : decode cX5_look 33 = .ok (.getfield 21, 3) := by decide +kernel
theorem dX5_look_36 : decode cX5_look 36 = .ok (.ifCond .eq 7, 3) := by decide +kernel
theorem dX5_look_39 : decode cX5_look 39 = .ok (.iconst 1, 1) := by decide +kernel
theorem dX5_look_40 : decode cX5_look 40 = .ok (.goto 4, 3) := by decide +kernel
theorem dX5_look_43 : decode cX5_look 43 = .ok (.iconst 0, 1) := by decide +kernel
theorem dX5_look_44 : decode cX5_look 44 = .ok (.ireturn, 1) := by decide +kernel
theorem dX5_look_45 : decode cX5_look 45 = .ok (.aload_n 0, 1) := by decide +kernel
theorem dX5_look_46 : decode cX5_look 46 = .ok (.getfield 9, 3) := by decide +kernel
theorem dX5_look_49 : decode cX5_look 49 = .ok (.ireturn, 1) := by decide +kernel
theorem dX5_look_50 : decode cX5_look 50 = .ok (.aload_n 0, 1) := by decide +kernel
theorem dX5_look_51 : decode cX5_look 51 = .ok (.getfield 15, 3) := by decide +kernel
theorem dX5_look_54 : decode cX5_look 54 = .ok (.ireturn, 1) := by decide +kernel
theorem dX5_look_55 : decode cX5_look 55 = .ok (.aload_n 0, 1) := by decide +kernel
theorem dX5_look_56 : decode cX5_look 56 = .ok (.getfield 18, 3) := by decide +kernel
theorem dX5_look_59 : decode cX5_look 59 = .ok (.ireturn, 1) := by decide +kernel
theorem dX5_look_60 : decode cX5_look 60 = .ok (.iconst (-1), 1) := by decide +kernel
theorem dX5_look_61 : decode cX5_look 61 = .ok (.ireturn, 1) := by decide +kernel
theorem dX6_init_0 : decode cX6_init 0 = .ok (.aload_n 0, 1) := by decide +kernel
theorem dX6_init_1 : decode cX6_init 1 = .ok (.invokespecial 3, 3) := by decide +kernel
theorem dX6_init_4 : decode cX6_init 4 = .ok (.aload_n 0, 1) := by decide +kernel
theorem dX6_init_5 : decode cX6_init 5 = .ok (.iconst 4, 1) := by decide +kernel
theorem dX6_init_6 : decode cX6_init 6 = .ok (.anewarray 9, 3) := by decide +kernel
theorem dX6_init_9 : decode cX6_init 9 = .ok (.putfield 11, 3) := by decide +kernel
theorem dX6_init_12 : decode cX6_init 12 = .ok (.iconst 0, 1) := by decide +kernel
theorem dX6_init_13 : decode cX6_init 13 = .ok (.istore_n 1, 1) := by decide +kernel
theorem dX6_init_14 : decode cX6_init 14 = .ok (.iload_n 1, 1) := by decide +kernel
theorem dX6_init_15 : decode cX6_init 15 = .ok (.iconst 4, 1) := by decide +kernel
theorem dX6_init_16 : decode cX6_init 16 = .ok (.if_icmp .ge 23, 3) := by decide +kernel
theorem dX6_init_19 : decode cX6_init 19 = .ok (.aload_n 0, 1) := by decide +kernel
theorem dX6_init_20 : decode cX6_init 20 = .ok (.getfield 11, 3) := by decide +kernel
theorem dX6_init_23 : decode cX6_init 23 = .ok (.iload_n 1, 1) := by decide +kernel
theorem dX6_init_24 : decode cX6_init 24 = .ok (.new 9, 3) := by decide +kernel
theorem dX6_init_27 : decode cX6_init 27 = .ok (.dup, 1) := by decide +kernel
theorem dX6_init_28 : decode cX6_init 28 = .ok (.iload_n 1, 1) := by decide +kernel
theorem dX6_init_29 : decode cX6_init 29 = .ok (.invokespecial 17, 3) := by decide +kernel
theorem dX6_init_32 : decode cX6_init 32 = .ok (.aastore, 1) := by decide +kernel
theorem dX6_init_33 : decode cX6_init 33 = .ok (.iinc 1 1, 3) := by decide +kernel
theorem dX6_init_36 : decode cX6_init 36 = .ok (.goto (-22), 3) := by decide +kernel
theorem dX6_init_39 : decode cX6_init 39 = .ok (.aload_n 0, 1) := by decide +kernel
theorem dX6_init_40 : decode cX6_init 40 = .ok (.iconst 3, 1) := by decide +kernel
theorem dX6_init_41 : decode cX6_init 41 = .ok (.anewarray 20, 3) := by decide +kernel
theorem dX6_init_44 : decode cX6_init 44 = .ok (.putfield 22, 3) := by decide +kernel
theorem dX6_init_47 : decode cX6_init 47 = .ok (.iconst 0, 1) := by decide +kernel
theorem dX6_init_48 : decode cX6_init 48 = .ok (.istore_n 1, 1) := by decide +kernel
theorem dX6_init_49 : decode cX6_init 49 = .ok (.iload_n 1, 1) := by decide +kernel
theorem dX6_init_50 : decode cX6_init 50 = .ok (.iconst 3, 1) := by decide +kernel
theorem dX6_init_51 : decode cX6_init 51 = .ok (.if_icmp .ge 22, 3) := by decide +kernel
theorem dX6_init_54 : decode cX6_init 54 = .ok (.aload_n 0, 1) := by decide +kernel
theorem dX6_init_55 : decode cX6_init 55 = .ok (.getfield 22, 3) := by decide +kernel
theorem dX6_init_58 : decode cX6_init 58 = .ok (.iload_n 1, 1) := by decide +kernel
theorem dX6_init_59 : decode cX6_init 59 = .ok (.new 20, 3) := by decide +kernel
theorem dX6_init_62 : decode cX6_init 62 = .ok (.dup, 1) := by decide +kernel
theorem dX6_init_63 : decode cX6_init 63 = .ok (.invokespecial 26, 3) := by decide +kernel
theorem dX6_init_66 : decode cX6_init 66 = .ok (.aastore, 1) := by decide +kernel
theorem dX6_init_67 : decode cX6_init 67 = .ok (.iinc 1 1, 3) := by decide +kernel
theorem dX6_init_70 : decode cX6_init 70 = .ok (.goto (-21), 3) := by decide +kernel
theorem dX6_init_73 : decode cX6_init 73 = .ok (.aload_n 0, 1) := by decide +kernel
theorem dX6_init_74 : decode cX6_init 74 = .ok (.new 27, 3) := by decide +kernel
theorem dX6_init_77 : decode cX6_init 77 = .ok (.dup, 1) := by decide +kernel
theorem dX6_init_78 : decode cX6_init 78 = .ok (.invokespecial 29, 3) := by decide +kernel
theorem dX6_init_81 : decode cX6_init 81 = .ok (.putfield 30, 3) := by decide +kernel
theorem dX6_init_84 : decode cX6_init 84 = .ok (.aload_n 0, 1) := by decide +kernel
theorem dX6_init_85 : decode cX6_init 85 = .ok (.new 34, 3) := by decide +kernel
theorem dX6_init_88 : decode cX6_init 88 = .ok (.dup, 1) := by decide +kernel
theorem dX6_init_89 : decode cX6_init 89 = .ok (.invokespecial 36, 3) := by decide +kernel
theorem dX6_init_92 : decode cX6_init 92 = .ok (.putfield 37, 3) := by decide +kernel
theorem dX6_init_95 : decode cX6_init 95 = .ok (.return_, 1) := by decide +kernel
theorem dX6_copyFrom_0 : decode cX6_copyFrom 0 = .ok (.iconst 0, 1) := by decide +kernel
theorem dX6_copyFrom_1 : decode cX6_copyFrom 1 = .ok (.istore_n 2, 1) := by decide +kernel
theorem dX6_copyFrom_2 : decode cX6_copyFrom 2 = .ok (.iload_n 2, 1) := by decide +kernel
theorem dX6_copyFrom_3 : decode cX6_copyFrom 3 = .ok (.iconst 4, 1) := by decide +kernel
theorem dX6_copyFrom_4 : decode cX6_copyFrom 4 = .ok (.if_icmp .ge 24, 3) := by decide +kernel
theorem dX6_copyFrom_7 : decode cX6_copyFrom 7 = .ok (.aload_n 0, 1) := by decide +kernel
theorem dX6_copyFrom_8 : decode cX6_copyFrom 8 = .ok (.getfield 11, 3) := by decide +kernel
theorem dX6_copyFrom_11 : decode cX6_copyFrom 11 = .ok (.iload_n 2, 1) := by decide +kernel
theorem dX6_copyFrom_12 : decode cX6_copyFrom 12 = .ok (.aaload, 1) := by decide +kernel
theorem dX6_copyFrom_13 : decode cX6_copyFrom 13 = .ok (.aload_n 1, 1) := by decide +kernel
theorem dX6_copyFrom_14 : decode cX6_copyFrom 14 = .ok (.getfield 11, 3) := by decide +kernel
theorem dX6_copyFrom_17 : decode cX6_copyFrom 17 = .ok (.iload_n 2, 1) := by decide +kernel
theorem dX6_copyFrom_18 : decode cX6_copyFrom 18 = .ok (.aaload, 1) := by decide +kernel
theorem dX6_copyFrom_19 : decode cX6_copyFrom 19 = .ok (.invokevirtual 41, 3) := by decide +kernel
theorem dX6_copyFrom_22 : decode cX6_copyFrom 22 = .ok (.iinc 2 1, 3) := by decide +kernel
theorem dX6_copyFrom_25 : decode cX6_copyFrom 25 = .ok (.goto (-23), 3) := by decide +kernel
theorem dX6_copyFrom_28 : decode cX6_copyFrom 28 = .ok (.iconst 0, 1) := by decide +kernel
theorem dX6_copyFrom_29 : decode cX6_copyFrom 29 = .ok (.istore_n 2, 1) := by decide +kernel
theorem dX6_copyFrom_30 : decode cX6_copyFrom 30 = .ok (.iload_n 2, 1) := by decide +kernel
theorem dX6_copyFrom_31 : decode cX6_copyFrom 31 = .ok (.iconst 3, 1) := by decide +kernel
theorem dX6_copyFrom_32 : decode cX6_copyFrom 32 = .ok (.if_icmp .ge 24, 3) := by decide +kernel
theorem dX6_copyFrom_35 : decode cX6_copyFrom 35 = .ok (.aload_n 0, 1) := by decide +kernel
theorem dX6_copyFrom_36 : decode cX6_copyFrom 36 = .ok (.getfield 22, 3) := by decide +kernel
theorem dX6_copyFrom_39 : decode cX6_copyFrom 39 = .ok (.iload_n 2, 1) := by decide +kernel
theorem dX6_copyFrom_40 : decode cX6_copyFrom 40 = .ok (.aaload, 1) := by decide +kernel
theorem dX6_copyFrom_41 : decode cX6_copyFrom 41 = .ok (.aload_n 1, 1) := by decide +kernel
theorem dX6_copyFrom_42 : decode cX6_copyFrom 42 = .ok (.getfield 22, 3) := by decide +kernel
theorem dX6_copyFrom_45 : decode cX6_copyFrom 45 = .ok (.iload_n 2, 1) := by decide +kernel
theorem dX6_copyFrom_46 : decode cX6_copyFrom 46 = .ok (.aaload, 1) := by decide +kernel
theorem dX6_copyFrom_47 : decode cX6_copyFrom 47 = .ok (.invokevirtual 45, 3) := by decide +kernel
theorem dX6_copyFrom_50 : decode cX6_copyFrom 50 = .ok (.iinc 2 1, 3) := by decide +kernel
theorem dX6_copyFrom_53 : decode cX6_copyFrom 53 = .ok (.goto (-23), 3) := by decide +kernel
theorem dX6_copyFrom_56 : decode cX6_copyFrom 56 = .ok (.aload_n 0, 1) := by decide +kernel
theorem dX6_copyFrom_57 : decode cX6_copyFrom 57 = .ok (.getfield 30, 3) := by decide +kernel
theorem dX6_copyFrom_60 : decode cX6_copyFrom 60 = .ok (.aload_n 1, 1) := by decide +kernel
theorem dX6_copyFrom_61 : decode cX6_copyFrom 61 = .ok (.getfield 30, 3) := by decide +kernel
theorem dX6_copyFrom_64 : decode cX6_copyFrom 64 = .ok (.invokevirtual 48, 3) := by decide +kernel
theorem dX6_copyFrom_67 : decode cX6_copyFrom 67 = .ok (.aload_n 0, 1) := by decide +kernel
theorem dX6_copyFrom_68 : decode cX6_copyFrom 68 = .ok (.getfield 37, 3) := by decide +kernel
theorem dX6_copyFrom_71 : decode cX6_copyFrom 71 = .ok (.aload_n 1, 1) := by decide +kernel
theorem dX6_copyFrom_72 : decode cX6_copyFrom 72 = .ok (.getfield 37, 3) := by decide +kernel
theorem dX6_copyFrom_75 : decode cX6_copyFrom 75 = .ok (.invokevirtual 51, 3) := by decide +kernel
theorem dX6_copyFrom_78 : decode cX6_copyFrom 78 = .ok (.aload_n 0, 1) := by decide +kernel
theorem dX6_copyFrom_79 : decode cX6_copyFrom 79 = .ok (.aload_n 1, 1) := by decide +kernel
theorem dX6_copyFrom_80 : decode cX6_copyFrom 80 = .ok (.getfield 54, 3) := by decide +kernel
theorem dX6_copyFrom_83 : decode cX6_copyFrom 83 = .ok (.putfield 54, 3) := by decide +kernel
theorem dX6_copyFrom_86 : decode cX6_copyFrom 86 = .ok (.aload_n 0, 1) := by decide +kernel
theorem dX6_copyFrom_87 : decode cX6_copyFrom 87 = .ok (.aload_n 1, 1) := by decide +kernel
theorem dX6_copyFrom_88 : decode cX6_copyFrom 88 = .ok (.getfield 58, 3) := by decide +kernel
theorem dX6_copyFrom_91 : decode cX6_copyFrom 91 = .ok (.putfield 58, 3) := by decide +kernel
theorem dX6_copyFrom_94 : decode cX6_copyFrom 94 = .ok (.return_, 1) := by decide +kernel
theorem dX6_canPress_0 : decode cX6_canPress 0 = .ok (.iload_n 1, 1) := by decide +kernel
theorem dX6_canPress_1 : decode cX6_canPress 1 = .ok (.ifCond .lt 24, 3) := by decide +kernel
theorem dX6_canPress_4 : decode cX6_canPress 4 = .ok (.iload_n 1, 1) := by decide +kernel
theorem dX6_canPress_5 : decode cX6_canPress 5 = .ok (.iconst 4, 1) := by decide +kernel
theorem dX6_canPress_6 : decode cX6_canPress 6 = .ok (.if_icmp .ge 19, 3) := by decide +kernel
theorem dX6_canPress_9 : decode cX6_canPress 9 = .ok (.aload_n 0, 1) := by decide +kernel
theorem dX6_canPress_10 : decode cX6_canPress 10 = .ok (.getfield 11, 3) := by decide +kernel
theorem dX6_canPress_13 : decode cX6_canPress 13 = .ok (.iload_n 1, 1) := by decide +kernel
theorem dX6_canPress_14 : decode cX6_canPress 14 = .ok (.aaload, 1) := by decide +kernel
theorem dX6_canPress_15 : decode cX6_canPress 15 = .ok (.getfield 61, 3) := by decide +kernel
theorem dX6_canPress_18 : decode cX6_canPress 18 = .ok (.ifCond .le 7, 3) := by decide +kernel
theorem dX6_canPress_21 : decode cX6_canPress 21 = .ok (.iconst 1, 1) := by decide +kernel
theorem dX6_canPress_22 : decode cX6_canPress 22 = .ok (.goto 4, 3) := by decide +kernel
theorem dX6_canPress_25 : decode cX6_canPress 25 = .ok (.iconst 0, 1) := by decide +kernel
theorem dX6_canPress_26 : decode cX6_canPress 26 = .ok (.ireturn, 1) := by decide +kernel
theorem dX6_canSendAgain_0 : decode cX6_canSendAgain 0 = .ok (.iload_n 1, 1) := by decide +kernel
theorem dX6_canSendAgain_1 : decode cX6_canSendAgain 1 = .ok (.ifCond .lt 18, 3) := by decide +kernel
theorem dX6_canSendAgain_4 : decode cX6_canSendAgain 4 = .ok (.iload_n 1, 1) := by decide +kernel
theorem dX6_canSendAgain_5 : decode cX6_canSendAgain 5 = .ok (.aload_n 0, 1) := by decide +kernel
theorem dX6_canSendAgain_6 : decode cX6_canSendAgain 6 = .ok (.getfield 30, 3) := by decide +kernel
theorem dX6_canSendAgain_9 : decode cX6_canSendAgain 9 = .ok (.getfield 64, 3) := by decide +kernel
theorem dX6_canSendAgain_12 : decode cX6_canSendAgain 12 = .ok (.if_icmp .ge 7, 3) := by decide +kernel
theorem dX6_canSendAgain_15 : decode cX6_canSendAgain 15 = .ok (.iconst 1, 1) := by decide +kernel
theorem dX6_canSendAgain_16 : decode cX6_canSendAgain 16 = .ok (.goto 4, 3) := by decide +kernel
theorem dX6_canSendAgain_19 : decode cX6_canSendAgain 19 = .ok (.iconst 0, 1) := by decide +kernel
theorem dX6_canSendAgain_20 : decode cX6_canSendAgain 20 = .ok (.ireturn, 1) := by decide +kernel
theorem dX6_pressFob_0 : decode cX6_pressFob 0 = .ok (.aload_n 0, 1) := by decide +kernel
theorem dX6_pressFob_1 : decode cX6_pressFob 1 = .ok (.iload_n 1, 1) := by decide +kernel
theorem dX6_pressFob_2 : decode cX6_pressFob 2 = .ok (.invokevirtual 67, 3) := by decide +kernel
theorem dX6_pressFob_5 : decode cX6_pressFob 5 = .ok (.ifCond .ne 5, 3) := by decide +kernel
theorem dX6_pressFob_8 : decode cX6_pressFob 8 = .ok (.iconst 0, 1) := by decide +kernel
theorem dX6_pressFob_9 : decode cX6_pressFob 9 = .ok (.ireturn, 1) := by decide +kernel
theorem dX6_pressFob_10 : decode cX6_pressFob 10 = .ok (.aload_n 0, 1) := by decide +kernel
theorem dX6_pressFob_11 : decode cX6_pressFob 11 = .ok (.getfield 11, 3) := by decide +kernel
theorem dX6_pressFob_14 : decode cX6_pressFob 14 = .ok (.iload_n 1, 1) := by decide +kernel
theorem dX6_pressFob_15 : decode cX6_pressFob 15 = .ok (.aaload, 1) := by decide +kernel
theorem dX6_pressFob_16 : decode cX6_pressFob 16 = .ok (.invokevirtual 71, 3) := by decide +kernel
theorem dX6_pressFob_19 : decode cX6_pressFob 19 = .ok (.istore_n 3, 1) := by decide +kernel
theorem dX6_pressFob_20 : decode cX6_pressFob 20 = .ok (.aload_n 0, 1) := by decide +kernel
theorem dX6_pressFob_21 : decode cX6_pressFob 21 = .ok (.getfield 30, 3) := by decide +kernel
theorem dX6_pressFob_24 : decode cX6_pressFob 24 = .ok (.iload_n 3, 1) := by decide +kernel
theorem dX6_pressFob_25 : decode cX6_pressFob 25 = .ok (.invokevirtual 75, 3) := by decide +kernel
theorem dX6_pressFob_28 : decode cX6_pressFob 28 = .ok (.aload_n 0, 1) := by decide +kernel
theorem dX6_pressFob_29 : decode cX6_pressFob 29 = .ok (.iload_n 3, 1) := by decide +kernel
theorem dX6_pressFob_30 : decode cX6_pressFob 30 = .ok (.iload_n 2, 1) := by decide +kernel
theorem dX6_pressFob_31 : decode cX6_pressFob 31 = .ok (.invokevirtual 78, 3) := by decide +kernel
theorem dX6_pressFob_34 : decode cX6_pressFob 34 = .ok (.ireturn, 1) := by decide +kernel
theorem dX6_sendAgain_0 : decode cX6_sendAgain 0 = .ok (.aload_n 0, 1) := by decide +kernel
theorem dX6_sendAgain_1 : decode cX6_sendAgain 1 = .ok (.iload_n 1, 1) := by decide +kernel
theorem dX6_sendAgain_2 : decode cX6_sendAgain 2 = .ok (.invokevirtual 82, 3) := by decide +kernel
theorem dX6_sendAgain_5 : decode cX6_sendAgain 5 = .ok (.ifCond .ne 5, 3) := by decide +kernel
theorem dX6_sendAgain_8 : decode cX6_sendAgain 8 = .ok (.iconst 0, 1) := by decide +kernel
theorem dX6_sendAgain_9 : decode cX6_sendAgain 9 = .ok (.ireturn, 1) := by decide +kernel
theorem dX6_sendAgain_10 : decode cX6_sendAgain 10 = .ok (.aload_n 0, 1) := by decide +kernel
theorem dX6_sendAgain_11 : decode cX6_sendAgain 11 = .ok (.dup, 1) := by decide +kernel
theorem dX6_sendAgain_12 : decode cX6_sendAgain 12 = .ok (.getfield 54, 3) := by decide +kernel
theorem dX6_sendAgain_15 : decode cX6_sendAgain 15 = .ok (.iconst 1, 1) := by decide +kernel
theorem dX6_sendAgain_16 : decode cX6_sendAgain 16 = .ok (.iadd, 1) := by decide +kernel
theorem dX6_sendAgain_17 : decode cX6_sendAgain 17 = .ok (.putfield 54, 3) := by decide +kernel
theorem dX6_sendAgain_20 : decode cX6_sendAgain 20 = .ok (.aload_n 0, 1) := by decide +kernel
theorem dX6_sendAgain_21 : decode cX6_sendAgain 21 = .ok (.aload_n 0, 1) := by decide +kernel
theorem dX6_sendAgain_22 : decode cX6_sendAgain 22 = .ok (.getfield 30, 3) := by decide +kernel
theorem dX6_sendAgain_25 : decode cX6_sendAgain 25 = .ok (.iload_n 1, 1) := by decide +kernel
theorem dX6_sendAgain_26 : decode cX6_sendAgain 26 = .ok (.invokevirtual 85, 3) := by decide +kernel
theorem dX6_sendAgain_29 : decode cX6_sendAgain 29 = .ok (.iload_n 2, 1) := by decide +kernel
theorem dX6_sendAgain_30 : decode cX6_sendAgain 30 = .ok (.invokevirtual 78, 3) := by decide +kernel
theorem dX6_sendAgain_33 : decode cX6_sendAgain 33 = .ok (.istore_n 3, 1) := by decide +kernel
theorem dX6_sendAgain_34 : decode cX6_sendAgain 34 = .ok (.aload_n 0, 1) := by decide +kernel
theorem dX6_sendAgain_35 : decode cX6_sendAgain 35 = .ok (.dup, 1) := by decide +kernel
theorem dX6_sendAgain_36 : decode cX6_sendAgain 36 = .ok (.getfield 58, 3) := by decide +kernel
theorem dX6_sendAgain_39 : decode cX6_sendAgain 39 = .ok (.iload_n 3, 1) := by decide +kernel
theorem dX6_sendAgain_40 : decode cX6_sendAgain 40 = .ok (.invokestatic 89, 3) := by decide +kernel
theorem dX6_sendAgain_43 : decode cX6_sendAgain 43 = .ok (.iadd, 1) := by decide +kernel
theorem dX6_sendAgain_44 : decode cX6_sendAgain 44 = .ok (.putfield 58, 3) := by decide +kernel
theorem dX6_sendAgain_47 : decode cX6_sendAgain 47 = .ok (.iload_n 3, 1) := by decide +kernel
theorem dX6_sendAgain_48 : decode cX6_sendAgain 48 = .ok (.ireturn, 1) := by decide +kernel
theorem dX6_send_0 : decode cX6_send 0 = .ok (.iconst 0, 1) := by decide +kernel
theorem dX6_send_1 : decode cX6_send 1 = .ok (.istore_n 3, 1) := by decide +kernel
theorem dX6_send_2 : decode cX6_send 2 = .ok (.iconst 0, 1) := by decide +kernel
theorem dX6_send_3 : decode cX6_send 3 = .ok (.istore 4, 2) := by decide +kernel
theorem dX6_send_5 : decode cX6_send 5 = .ok (.iload 4, 2) := by decide +kernel
theorem dX6_send_7 : decode cX6_send 7 = .ok (.iconst 3, 1) := by decide +kernel
theorem dX6_send_8 : decode cX6_send 8 = .ok (.if_icmp .ge 56, 3) := by decide +kernel
theorem dX6_send_11 : decode cX6_send 11 = .ok (.iload_n 2, 1) := by decide +kernel
theorem dX6_send_12 : decode cX6_send 12 = .ok (.iload 4, 2) := by decide +kernel
theorem dX6_send_14 : decode cX6_send 14 = .ok (.ishr, 1) := by decide +kernel
theorem dX6_send_15 : decode cX6_send 15 = .ok (.iconst 1, 1) := by decide +kernel
theorem dX6_send_16 : decode cX6_send 16 = .ok (.iand, 1) := by decide +kernel
theorem dX6_send_17 : decode cX6_send 17 = .ok (.iconst 1, 1) := by decide +kernel
theorem dX6_send_18 : decode cX6_send 18 = .ok (.if_icmp .ne 7, 3) := by decide +kernel
theorem dX6_send_21 : decode cX6_send 21 = .ok (.iconst 1, 1) := by decide +kernel
theorem dX6_send_22 : decode cX6_send 22 = .ok (.goto 4, 3) := by decide +kernel
theorem dX6_send_25 : decode cX6_send 25 = .ok (.iconst 0, 1) := by decide +kernel
theorem dX6_send_26 : decode cX6_send 26 = .ok (.istore 5, 2) := by decide +kernel
theorem dX6_send_28 : decode cX6_send 28 = .ok (.iload 5, 2) := by decide +kernel
theorem dX6_send_30 : decode cX6_send 30 = .ok (.ifCond .eq 28, 3) := by decide +kernel
theorem dX6_send_33 : decode cX6_send 33 = .ok (.aload_n 0, 1) := by decide +kernel
theorem dX6_send_34 : decode cX6_send 34 = .ok (.getfield 22, 3) := by decide +kernel
theorem dX6_send_37 : decode cX6_send 37 = .ok (.iload 4, 2) := by decide +kernel
theorem dX6_send_39 : decode cX6_send 39 = .ok (.aaload, 1) := by decide +kernel
theorem dX6_send_40 : decode cX6_send 40 = .ok (.iload_n 1, 1) := by decide +kernel
theorem dX6_send_41 : decode cX6_send 41 = .ok (.aload_n 0, 1) := by decide +kernel
theorem dX6_send_42 : decode cX6_send 42 = .ok (.getfield 37, 3) := by decide +kernel
theorem dX6_send_45 : decode cX6_send 45 = .ok (.invokevirtual 94, 3) := by decide +kernel
theorem dX6_send_48 : decode cX6_send 48 = .ok (.ifCond .ne 10, 3) := by decide +kernel
theorem dX6_send_51 : decode cX6_send 51 = .ok (.iload_n 3, 1) := by decide +kernel
theorem dX6_send_52 : decode cX6_send 52 = .ok (.iconst 1, 1) := by decide +kernel
theorem dX6_send_53 : decode cX6_send 53 = .ok (.iload 4, 2) := by decide +kernel
theorem dX6_send_55 : decode cX6_send 55 = .ok (.ishl, 1) := by decide +kernel
theorem dX6_send_56 : decode cX6_send 56 = .ok (.ior, 1) := by decide +kernel
theorem dX6_send_57 : decode cX6_send 57 = .ok (.istore_n 3, 1) := by decide +kernel
theorem dX6_send_58 : decode cX6_send 58 = .ok (.iinc 4 1, 3) := by decide +kernel
theorem dX6_send_61 : decode cX6_send 61 = .ok (.goto (-56), 3) := by decide +kernel
theorem dX6_send_64 : decode cX6_send 64 = .ok (.iload_n 3, 1) := by decide +kernel
theorem dX6_send_65 : decode cX6_send 65 = .ok (.ireturn, 1) := by decide +kernel
theorem dX6_shutDoor_0 : decode cX6_shutDoor 0 = .ok (.iload_n 1, 1) := by decide +kernel
theorem dX6_shutDoor_1 : decode cX6_shutDoor 1 = .ok (.ifCond .lt 8, 3) := by decide +kernel
theorem dX6_shutDoor_4 : decode cX6_shutDoor 4 = .ok (.iload_n 1, 1) := by decide +kernel
theorem dX6_shutDoor_5 : decode cX6_shutDoor 5 = .ok (.iconst 3, 1) := by decide +kernel
theorem dX6_shutDoor_6 : decode cX6_shutDoor 6 = .ok (.if_icmp .lt 5, 3) := by decide +kernel
theorem dX6_shutDoor_9 : decode cX6_shutDoor 9 = .ok (.iconst 0, 1) := by decide +kernel
theorem dX6_shutDoor_10 : decode cX6_shutDoor 10 = .ok (.ireturn, 1) := by decide +kernel
theorem dX6_shutDoor_11 : decode cX6_shutDoor 11 = .ok (.aload_n 0, 1) := by decide +kernel
theorem dX6_shutDoor_12 : decode cX6_shutDoor 12 = .ok (.getfield 22, 3) := by decide +kernel
theorem dX6_shutDoor_15 : decode cX6_shutDoor 15 = .ok (.iload_n 1, 1) := by decide +kernel
theorem dX6_shutDoor_16 : decode cX6_shutDoor 16 = .ok (.aaload, 1) := by decide +kernel
theorem dX6_shutDoor_17 : decode cX6_shutDoor 17 = .ok (.iconst 0, 1) := by decide +kernel
theorem dX6_shutDoor_18 : decode cX6_shutDoor 18 = .ok (.putfield 98, 3) := by decide +kernel
theorem dX6_shutDoor_21 : decode cX6_shutDoor 21 = .ok (.iconst 1, 1) := by decide +kernel
theorem dX6_shutDoor_22 : decode cX6_shutDoor 22 = .ok (.ireturn, 1) := by decide +kernel
theorem dX6_presses_0 : decode cX6_presses 0 = .ok (.iconst 0, 1) := by decide +kernel
theorem dX6_presses_1 : decode cX6_presses 1 = .ok (.istore_n 1, 1) := by decide +kernel
theorem dX6_presses_2 : decode cX6_presses 2 = .ok (.aload_n 0, 1) := by decide +kernel
theorem dX6_presses_3 : decode cX6_presses 3 = .ok (.getfield 11, 3) := by decide +kernel
theorem dX6_presses_6 : decode cX6_presses 6 = .ok (.astore_n 2, 1) := by decide +kernel
theorem dX6_presses_7 : decode cX6_presses 7 = .ok (.aload_n 2, 1) := by decide +kernel
theorem dX6_presses_8 : decode cX6_presses 8 = .ok (.arraylength, 1) := by decide +kernel
theorem dX6_presses_9 : decode cX6_presses 9 = .ok (.istore_n 3, 1) := by decide +kernel
theorem dX6_presses_10 : decode cX6_presses 10 = .ok (.iconst 0, 1) := by decide +kernel
theorem dX6_presses_11 : decode cX6_presses 11 = .ok (.istore 4, 2) := by decide +kernel
theorem dX6_presses_13 : decode cX6_presses 13 = .ok (.iload 4, 2) := by decide +kernel
theorem dX6_presses_15 : decode cX6_presses 15 = .ok (.iload_n 3, 1) := by decide +kernel
theorem dX6_presses_16 : decode cX6_presses 16 = .ok (.if_icmp .ge 23, 3) := by decide +kernel
theorem dX6_presses_19 : decode cX6_presses 19 = .ok (.aload_n 2, 1) := by decide +kernel
theorem dX6_presses_20 : decode cX6_presses 20 = .ok (.iload 4, 2) := by decide +kernel
theorem dX6_presses_22 : decode cX6_presses 22 = .ok (.aaload, 1) := by decide +kernel
theorem dX6_presses_23 : decode cX6_presses 23 = .ok (.astore 5, 2) := by decide +kernel
theorem dX6_presses_25 : decode cX6_presses 25 = .ok (.iload_n 1, 1) := by decide +kernel
theorem dX6_presses_26 : decode cX6_presses 26 = .ok (.aload 5, 2) := by decide +kernel
theorem dX6_presses_28 : decode cX6_presses 28 = .ok (.getfield 102, 3) := by decide +kernel
theorem dX6_presses_31 : decode cX6_presses 31 = .ok (.iadd, 1) := by decide +kernel
theorem dX6_presses_32 : decode cX6_presses 32 = .ok (.istore_n 1, 1) := by decide +kernel
theorem dX6_presses_33 : decode cX6_presses 33 = .ok (.iinc 4 1, 3) := by decide +kernel
theorem dX6_presses_36 : decode cX6_presses 36 = .ok (.goto (-23), 3) := by decide +kernel
theorem dX6_presses_39 : decode cX6_presses 39 = .ok (.iload_n 1, 1) := by decide +kernel
theorem dX6_presses_40 : decode cX6_presses 40 = .ok (.ireturn, 1) := by decide +kernel
theorem dX6_timesOpened_0 : decode cX6_timesOpened 0 = .ok (.iconst 0, 1) := by decide +kernel
theorem dX6_timesOpened_1 : decode cX6_timesOpened 1 = .ok (.istore_n 1, 1) := by decide +kernel
theorem dX6_timesOpened_2 : decode cX6_timesOpened 2 = .ok (.aload_n 0, 1) := by decide +kernel
theorem dX6_timesOpened_3 : decode cX6_timesOpened 3 = .ok (.getfield 22, 3) := by decide +kernel
theorem dX6_timesOpened_6 : decode cX6_timesOpened 6 = .ok (.astore_n 2, 1) := by decide +kernel
theorem dX6_timesOpened_7 : decode cX6_timesOpened 7 = .ok (.aload_n 2, 1) := by decide +kernel
theorem dX6_timesOpened_8 : decode cX6_timesOpened 8 = .ok (.arraylength, 1) := by decide +kernel
theorem dX6_timesOpened_9 : decode cX6_timesOpened 9 = .ok (.istore_n 3, 1) := by decide +kernel
theorem dX6_timesOpened_10 : decode cX6_timesOpened 10 = .ok (.iconst 0, 1) := by decide +kernel
theorem dX6_timesOpened_11 : decode cX6_timesOpened 11 = .ok (.istore 4, 2) := by decide +kernel
theorem dX6_timesOpened_13 : decode cX6_timesOpened 13 = .ok (.iload 4, 2) := by decide +kernel
theorem dX6_timesOpened_15 : decode cX6_timesOpened 15 = .ok (.iload_n 3, 1) := by decide +kernel
theorem dX6_timesOpened_16 : decode cX6_timesOpened 16 = .ok (.if_icmp .ge 23, 3) := by decide +kernel
theorem dX6_timesOpened_19 : decode cX6_timesOpened 19 = .ok (.aload_n 2, 1) := by decide +kernel
theorem dX6_timesOpened_20 : decode cX6_timesOpened 20 = .ok (.iload 4, 2) := by decide +kernel
theorem dX6_timesOpened_22 : decode cX6_timesOpened 22 = .ok (.aaload, 1) := by decide +kernel
theorem dX6_timesOpened_23 : decode cX6_timesOpened 23 = .ok (.astore 5, 2) := by decide +kernel
theorem dX6_timesOpened_25 : decode cX6_timesOpened 25 = .ok (.iload_n 1, 1) := by decide +kernel
theorem dX6_timesOpened_26 : decode cX6_timesOpened 26 = .ok (.aload 5, 2) := by decide +kernel
theorem dX6_timesOpened_28 : decode cX6_timesOpened 28 = .ok (.getfield 105, 3) := by decide +kernel
theorem dX6_timesOpened_31 : decode cX6_timesOpened 31 = .ok (.iadd, 1) := by decide +kernel
theorem dX6_timesOpened_32 : decode cX6_timesOpened 32 = .ok (.istore_n 1, 1) := by decide +kernel
theorem dX6_timesOpened_33 : decode cX6_timesOpened 33 = .ok (.iinc 4 1, 3) := by decide +kernel
theorem dX6_timesOpened_36 : decode cX6_timesOpened 36 = .ok (.goto (-23), 3) := by decide +kernel
theorem dX6_timesOpened_39 : decode cX6_timesOpened 39 = .ok (.iload_n 1, 1) := by decide +kernel
theorem dX6_timesOpened_40 : decode cX6_timesOpened 40 = .ok (.ireturn, 1) := by decide +kernel
theorem dX6_wrongNumbers_0 : decode cX6_wrongNumbers 0 = .ok (.iconst 0, 1) := by decide +kernel
theorem dX6_wrongNumbers_1 : decode cX6_wrongNumbers 1 = .ok (.istore_n 1, 1) := by decide +kernel
theorem dX6_wrongNumbers_2 : decode cX6_wrongNumbers 2 = .ok (.aload_n 0, 1) := by decide +kernel
theorem dX6_wrongNumbers_3 : decode cX6_wrongNumbers 3 = .ok (.getfield 22, 3) := by decide +kernel
theorem dX6_wrongNumbers_6 : decode cX6_wrongNumbers 6 = .ok (.astore_n 2, 1) := by decide +kernel
theorem dX6_wrongNumbers_7 : decode cX6_wrongNumbers 7 = .ok (.aload_n 2, 1) := by decide +kernel
theorem dX6_wrongNumbers_8 : decode cX6_wrongNumbers 8 = .ok (.arraylength, 1) := by decide +kernel
theorem dX6_wrongNumbers_9 : decode cX6_wrongNumbers 9 = .ok (.istore_n 3, 1) := by decide +kernel
theorem dX6_wrongNumbers_10 : decode cX6_wrongNumbers 10 = .ok (.iconst 0, 1) := by decide +kernel
theorem dX6_wrongNumbers_11 : decode cX6_wrongNumbers 11 = .ok (.istore 4, 2) := by decide +kernel
theorem dX6_wrongNumbers_13 : decode cX6_wrongNumbers 13 = .ok (.iload 4, 2) := by decide +kernel
theorem dX6_wrongNumbers_15 : decode cX6_wrongNumbers 15 = .ok (.iload_n 3, 1) := by decide +kernel
theorem dX6_wrongNumbers_16 : decode cX6_wrongNumbers 16 = .ok (.if_icmp .ge 23, 3) := by decide +kernel
theorem dX6_wrongNumbers_19 : decode cX6_wrongNumbers 19 = .ok (.aload_n 2, 1) := by decide +kernel
theorem dX6_wrongNumbers_20 : decode cX6_wrongNumbers 20 = .ok (.iload 4, 2) := by decide +kernel
theorem dX6_wrongNumbers_22 : decode cX6_wrongNumbers 22 = .ok (.aaload, 1) := by decide +kernel
theorem dX6_wrongNumbers_23 : decode cX6_wrongNumbers 23 = .ok (.astore 5, 2) := by decide +kernel
theorem dX6_wrongNumbers_25 : decode cX6_wrongNumbers 25 = .ok (.iload_n 1, 1) := by decide +kernel
theorem dX6_wrongNumbers_26 : decode cX6_wrongNumbers 26 = .ok (.aload 5, 2) := by decide +kernel
theorem dX6_wrongNumbers_28 : decode cX6_wrongNumbers 28 = .ok (.getfield 108, 3) := by decide +kernel
theorem dX6_wrongNumbers_31 : decode cX6_wrongNumbers 31 = .ok (.iadd, 1) := by decide +kernel
theorem dX6_wrongNumbers_32 : decode cX6_wrongNumbers 32 = .ok (.istore_n 1, 1) := by decide +kernel
theorem dX6_wrongNumbers_33 : decode cX6_wrongNumbers 33 = .ok (.iinc 4 1, 3) := by decide +kernel
theorem dX6_wrongNumbers_36 : decode cX6_wrongNumbers 36 = .ok (.goto (-23), 3) := by decide +kernel
theorem dX6_wrongNumbers_39 : decode cX6_wrongNumbers 39 = .ok (.iload_n 1, 1) := by decide +kernel
theorem dX6_wrongNumbers_40 : decode cX6_wrongNumbers 40 = .ok (.ireturn, 1) := by decide +kernel
theorem dX6_openDoors_0 : decode cX6_openDoors 0 = .ok (.iconst 0, 1) := by decide +kernel
theorem dX6_openDoors_1 : decode cX6_openDoors 1 = .ok (.istore_n 1, 1) := by decide +kernel
theorem dX6_openDoors_2 : decode cX6_openDoors 2 = .ok (.aload_n 0, 1) := by decide +kernel
theorem dX6_openDoors_3 : decode cX6_openDoors 3 = .ok (.getfield 22, 3) := by decide +kernel
theorem dX6_openDoors_6 : decode cX6_openDoors 6 = .ok (.astore_n 2, 1) := by decide +kernel
theorem dX6_openDoors_7 : decode cX6_openDoors 7 = .ok (.aload_n 2, 1) := by decide +kernel
theorem dX6_openDoors_8 : decode cX6_openDoors 8 = .ok (.arraylength, 1) := by decide +kernel
theorem dX6_openDoors_9 : decode cX6_openDoors 9 = .ok (.istore_n 3, 1) := by decide +kernel
theorem dX6_openDoors_10 : decode cX6_openDoors 10 = .ok (.iconst 0, 1) := by decide +kernel
theorem dX6_openDoors_11 : decode cX6_openDoors 11 = .ok (.istore 4, 2) := by decide +kernel
theorem dX6_openDoors_13 : decode cX6_openDoors 13 = .ok (.iload 4, 2) := by decide +kernel
theorem dX6_openDoors_15 : decode cX6_openDoors 15 = .ok (.iload_n 3, 1) := by decide +kernel
theorem dX6_openDoors_16 : decode cX6_openDoors 16 = .ok (.if_icmp .ge 31, 3) := by decide +kernel
theorem dX6_openDoors_19 : decode cX6_openDoors 19 = .ok (.aload_n 2, 1) := by decide +kernel
theorem dX6_openDoors_20 : decode cX6_openDoors 20 = .ok (.iload 4, 2) := by decide +kernel
theorem dX6_openDoors_22 : decode cX6_openDoors 22 = .ok (.aaload, 1) := by decide +kernel
theorem dX6_openDoors_23 : decode cX6_openDoors 23 = .ok (.astore 5, 2) := by decide +kernel
theorem dX6_openDoors_25 : decode cX6_openDoors 25 = .ok (.iload_n 1, 1) := by decide +kernel
theorem dX6_openDoors_26 : decode cX6_openDoors 26 = .ok (.aload 5, 2) := by decide +kernel
theorem dX6_openDoors_28 : decode cX6_openDoors 28 = .ok (.getfield 98, 3) := by decide +kernel
theorem dX6_openDoors_31 : decode cX6_openDoors 31 = .ok (.ifCond .eq 7, 3) := by decide +kernel
theorem dX6_openDoors_34 : decode cX6_openDoors 34 = .ok (.iconst 1, 1) := by decide +kernel
theorem dX6_openDoors_35 : decode cX6_openDoors 35 = .ok (.goto 4, 3) := by decide +kernel
theorem dX6_openDoors_38 : decode cX6_openDoors 38 = .ok (.iconst 0, 1) := by decide +kernel
theorem dX6_openDoors_39 : decode cX6_openDoors 39 = .ok (.iadd, 1) := by decide +kernel
theorem dX6_openDoors_40 : decode cX6_openDoors 40 = .ok (.istore_n 1, 1) := by decide +kernel
theorem dX6_openDoors_41 : decode cX6_openDoors 41 = .ok (.iinc 4 1, 3) := by decide +kernel
theorem dX6_openDoors_44 : decode cX6_openDoors 44 = .ok (.goto (-31), 3) := by decide +kernel
theorem dX6_openDoors_47 : decode cX6_openDoors 47 = .ok (.iload_n 1, 1) := by decide +kernel
theorem dX6_openDoors_48 : decode cX6_openDoors 48 = .ok (.ireturn, 1) := by decide +kernel
theorem dX6_lockedDoors_0 : decode cX6_lockedDoors 0 = .ok (.iconst 0, 1) := by decide +kernel
theorem dX6_lockedDoors_1 : decode cX6_lockedDoors 1 = .ok (.istore_n 1, 1) := by decide +kernel
theorem dX6_lockedDoors_2 : decode cX6_lockedDoors 2 = .ok (.aload_n 0, 1) := by decide +kernel
theorem dX6_lockedDoors_3 : decode cX6_lockedDoors 3 = .ok (.getfield 22, 3) := by decide +kernel
theorem dX6_lockedDoors_6 : decode cX6_lockedDoors 6 = .ok (.astore_n 2, 1) := by decide +kernel
theorem dX6_lockedDoors_7 : decode cX6_lockedDoors 7 = .ok (.aload_n 2, 1) := by decide +kernel
theorem dX6_lockedDoors_8 : decode cX6_lockedDoors 8 = .ok (.arraylength, 1) := by decide +kernel
theorem dX6_lockedDoors_9 : decode cX6_lockedDoors 9 = .ok (.istore_n 3, 1) := by decide +kernel
theorem dX6_lockedDoors_10 : decode cX6_lockedDoors 10 = .ok (.iconst 0, 1) := by decide +kernel
theorem dX6_lockedDoors_11 : decode cX6_lockedDoors 11 = .ok (.istore 4, 2) := by decide +kernel
theorem dX6_lockedDoors_13 : decode cX6_lockedDoors 13 = .ok (.iload 4, 2) := by decide +kernel
theorem dX6_lockedDoors_15 : decode cX6_lockedDoors 15 = .ok (.iload_n 3, 1) := by decide +kernel
theorem dX6_lockedDoors_16 : decode cX6_lockedDoors 16 = .ok (.if_icmp .ge 35, 3) := by decide +kernel
theorem dX6_lockedDoors_19 : decode cX6_lockedDoors 19 = .ok (.aload_n 2, 1) := by decide +kernel
theorem dX6_lockedDoors_20 : decode cX6_lockedDoors 20 = .ok (.iload 4, 2) := by decide +kernel
theorem dX6_lockedDoors_22 : decode cX6_lockedDoors 22 = .ok (.aaload, 1) := by decide +kernel
theorem dX6_lockedDoors_23 : decode cX6_lockedDoors 23 = .ok (.astore 5, 2) := by decide +kernel
theorem dX6_lockedDoors_25 : decode cX6_lockedDoors 25 = .ok (.iload_n 1, 1) := by decide +kernel
theorem dX6_lockedDoors_26 : decode cX6_lockedDoors 26 = .ok (.aload 5, 2) := by decide +kernel
theorem dX6_lockedDoors_28 : decode cX6_lockedDoors 28 = .ok (.aload_n 0, 1) := by decide +kernel
theorem dX6_lockedDoors_29 : decode cX6_lockedDoors 29 = .ok (.getfield 37, 3) := by decide +kernel
theorem dX6_lockedDoors_32 : decode cX6_lockedDoors 32 = .ok (.invokevirtual 111, 3) := by decide +kernel
theorem dX6_lockedDoors_35 : decode cX6_lockedDoors 35 = .ok (.ifCond .eq 7, 3) := by decide +kernel
theorem dX6_lockedDoors_38 : decode cX6_lockedDoors 38 = .ok (.iconst 1, 1) := by decide +kernel
theorem dX6_lockedDoors_39 : decode cX6_lockedDoors 39 = .ok (.goto 4, 3) := by decide +kernel
theorem dX6_lockedDoors_42 : decode cX6_lockedDoors 42 = .ok (.iconst 0, 1) := by decide +kernel
theorem dX6_lockedDoors_43 : decode cX6_lockedDoors 43 = .ok (.iadd, 1) := by decide +kernel
theorem dX6_lockedDoors_44 : decode cX6_lockedDoors 44 = .ok (.istore_n 1, 1) := by decide +kernel
theorem dX6_lockedDoors_45 : decode cX6_lockedDoors 45 = .ok (.iinc 4 1, 3) := by decide +kernel
theorem dX6_lockedDoors_48 : decode cX6_lockedDoors 48 = .ok (.goto (-35), 3) := by decide +kernel
theorem dX6_lockedDoors_51 : decode cX6_lockedDoors 51 = .ok (.iload_n 1, 1) := by decide +kernel
theorem dX6_lockedDoors_52 : decode cX6_lockedDoors 52 = .ok (.ireturn, 1) := by decide +kernel
theorem dX7_init_0 : decode cX7_init 0 = .ok (.aload_n 0, 1) := by decide +kernel
theorem dX7_init_1 : decode cX7_init 1 = .ok (.invokespecial 3, 3) := by decide +kernel
theorem dX7_init_4 : decode cX7_init 4 = .ok (.aload_n 0, 1) := by decide +kernel
theorem dX7_init_5 : decode cX7_init 5 = .ok (.bipush 60, 2) := by decide +kernel
theorem dX7_init_7 : decode cX7_init 7 = .ok (.newarray .int, 2) := by decide +kernel
theorem dX7_init_9 : decode cX7_init 9 = .ok (.putfield 9, 3) := by decide +kernel
theorem dX7_init_12 : decode cX7_init 12 = .ok (.return_, 1) := by decide +kernel
theorem dX7_add_0 : decode cX7_add 0 = .ok (.aload_n 0, 1) := by decide +kernel
theorem dX7_add_1 : decode cX7_add 1 = .ok (.getfield 15, 3) := by decide +kernel
theorem dX7_add_4 : decode cX7_add 4 = .ok (.ifCond .lt 32, 3) := by decide +kernel
theorem dX7_add_7 : decode cX7_add 7 = .ok (.aload_n 0, 1) := by decide +kernel
theorem dX7_add_8 : decode cX7_add 8 = .ok (.getfield 15, 3) := by decide +kernel
theorem dX7_add_11 : decode cX7_add 11 = .ok (.bipush 60, 2) := by decide +kernel
theorem dX7_add_13 : decode cX7_add 13 = .ok (.if_icmp .ge 23, 3) := by decide +kernel
theorem dX7_add_16 : decode cX7_add 16 = .ok (.aload_n 0, 1) := by decide +kernel
theorem dX7_add_17 : decode cX7_add 17 = .ok (.getfield 9, 3) := by decide +kernel
theorem dX7_add_20 : decode cX7_add 20 = .ok (.aload_n 0, 1) := by decide +kernel
theorem dX7_add_21 : decode cX7_add 21 = .ok (.getfield 15, 3) := by decide +kernel
theorem dX7_add_24 : decode cX7_add 24 = .ok (.iload_n 1, 1) := by decide +kernel
theorem dX7_add_25 : decode cX7_add 25 = .ok (.iastore, 1) := by decide +kernel
theorem dX7_add_26 : decode cX7_add 26 = .ok (.aload_n 0, 1) := by decide +kernel
theorem dX7_add_27 : decode cX7_add 27 = .ok (.dup, 1) := by decide +kernel
theorem dX7_add_28 : decode cX7_add 28 = .ok (.getfield 15, 3) := by decide +kernel
theorem dX7_add_31 : decode cX7_add 31 = .ok (.iconst 1, 1) := by decide +kernel
theorem dX7_add_32 : decode cX7_add 32 = .ok (.iadd, 1) := by decide +kernel
theorem dX7_add_33 : decode cX7_add 33 = .ok (.putfield 15, 3) := by decide +kernel
theorem dX7_add_36 : decode cX7_add 36 = .ok (.return_, 1) := by decide +kernel
theorem dX7_code_0 : decode cX7_code 0 = .ok (.iload_n 1, 1) := by decide +kernel
theorem dX7_code_1 : decode cX7_code 1 = .ok (.ifCond .lt 26, 3) := by decide +kernel
theorem dX7_code_4 : decode cX7_code 4 = .ok (.iload_n 1, 1) := by decide +kernel
theorem dX7_code_5 : decode cX7_code 5 = .ok (.aload_n 0, 1) := by decide +kernel
theorem dX7_code_6 : decode cX7_code 6 = .ok (.getfield 15, 3) := by decide +kernel
theorem dX7_code_9 : decode cX7_code 9 = .ok (.if_icmp .ge 18, 3) := by decide +kernel
theorem dX7_code_12 : decode cX7_code 12 = .ok (.iload_n 1, 1) := by decide +kernel
theorem dX7_code_13 : decode cX7_code 13 = .ok (.bipush 60, 2) := by decide +kernel
theorem dX7_code_15 : decode cX7_code 15 = .ok (.if_icmp .ge 12, 3) := by decide +kernel
theorem dX7_code_18 : decode cX7_code 18 = .ok (.aload_n 0, 1) := by decide +kernel
theorem dX7_code_19 : decode cX7_code 19 = .ok (.getfield 9, 3) := by decide +kernel
theorem dX7_code_22 : decode cX7_code 22 = .ok (.iload_n 1, 1) := by decide +kernel
theorem dX7_code_23 : decode cX7_code 23 = .ok (.iaload, 1) := by decide +kernel
theorem dX7_code_24 : decode cX7_code 24 = .ok (.goto 4, 3) := by decide +kernel
theorem dX7_code_27 : decode cX7_code 27 = .ok (.iconst (-1), 1) := by decide +kernel
theorem dX7_code_28 : decode cX7_code 28 = .ok (.ireturn, 1) := by decide +kernel
theorem dX7_digit_0 : decode cX7_digit 0 = .ok (.aload_n 0, 1) := by decide +kernel
theorem dX7_digit_1 : decode cX7_digit 1 = .ok (.iload_n 1, 1) := by decide +kernel
theorem dX7_digit_2 : decode cX7_digit 2 = .ok (.invokevirtual 19, 3) := by decide +kernel
theorem dX7_digit_5 : decode cX7_digit 5 = .ok (.istore_n 2, 1) := by decide +kernel
theorem dX7_digit_6 : decode cX7_digit 6 = .ok (.iload_n 2, 1) := by decide +kernel
theorem dX7_digit_7 : decode cX7_digit 7 = .ok (.bipush 48, 2) := by decide +kernel
theorem dX7_digit_9 : decode cX7_digit 9 = .ok (.if_icmp .lt 16, 3) := by decide +kernel
theorem dX7_digit_12 : decode cX7_digit 12 = .ok (.iload_n 2, 1) := by decide +kernel
theorem dX7_digit_13 : decode cX7_digit 13 = .ok (.bipush 57, 2) := by decide +kernel
theorem dX7_digit_15 : decode cX7_digit 15 = .ok (.if_icmp .gt 10, 3) := by decide +kernel
theorem dX7_digit_18 : decode cX7_digit 18 = .ok (.iload_n 2, 1) := by decide +kernel
theorem dX7_digit_19 : decode cX7_digit 19 = .ok (.bipush 48, 2) := by decide +kernel
theorem dX7_digit_21 : decode cX7_digit 21 = .ok (.isub, 1) := by decide +kernel
theorem dX7_digit_22 : decode cX7_digit 22 = .ok (.goto 4, 3) := by decide +kernel
theorem dX7_digit_25 : decode cX7_digit 25 = .ok (.iconst (-1), 1) := by decide +kernel
theorem dX7_digit_26 : decode cX7_digit 26 = .ok (.ireturn, 1) := by decide +kernel
theorem dX7_goodLength_0 : decode cX7_goodLength 0 = .ok (.iconst 0, 1) := by decide +kernel
theorem dX7_goodLength_1 : decode cX7_goodLength 1 = .ok (.istore_n 1, 1) := by decide +kernel
theorem dX7_goodLength_2 : decode cX7_goodLength 2 = .ok (.iconst 0, 1) := by decide +kernel
theorem dX7_goodLength_3 : decode cX7_goodLength 3 = .ok (.istore_n 2, 1) := by decide +kernel
theorem dX7_goodLength_4 : decode cX7_goodLength 4 = .ok (.iload_n 2, 1) := by decide +kernel
theorem dX7_goodLength_5 : decode cX7_goodLength 5 = .ok (.aload_n 0, 1) := by decide +kernel
theorem dX7_goodLength_6 : decode cX7_goodLength 6 = .ok (.getfield 15, 3) := by decide +kernel
theorem dX7_goodLength_9 : decode cX7_goodLength 9 = .ok (.if_icmp .ge 27, 3) := by decide +kernel
theorem dX7_goodLength_12 : decode cX7_goodLength 12 = .ok (.iload_n 1, 1) := by decide +kernel
theorem dX7_goodLength_13 : decode cX7_goodLength 13 = .ok (.aload_n 0, 1) := by decide +kernel
theorem dX7_goodLength_14 : decode cX7_goodLength 14 = .ok (.iload_n 2, 1) := by decide +kernel
theorem dX7_goodLength_15 : decode cX7_goodLength 15 = .ok (.invokevirtual 19, 3) := by decide +kernel
theorem dX7_goodLength_18 : decode cX7_goodLength 18 = .ok (.invokestatic 23, 3) := by decide +kernel
theorem dX7_goodLength_21 : decode cX7_goodLength 21 = .ok (.istore_n 1, 1) := by decide +kernel
theorem dX7_goodLength_22 : decode cX7_goodLength 22 = .ok (.iload_n 1, 1) := by decide +kernel
theorem dX7_goodLength_23 : decode cX7_goodLength 23 = .ok (.bipush 8, 2) := by decide +kernel
theorem dX7_goodLength_25 : decode cX7_goodLength 25 = .ok (.if_icmp .ne 5, 3) := by decide +kernel
theorem dX7_goodLength_28 : decode cX7_goodLength 28 = .ok (.iload_n 2, 1) := by decide +kernel
theorem dX7_goodLength_29 : decode cX7_goodLength 29 = .ok (.ireturn, 1) := by decide +kernel
theorem dX7_goodLength_30 : decode cX7_goodLength 30 = .ok (.iinc 2 1, 3) := by decide +kernel
theorem dX7_goodLength_33 : decode cX7_goodLength 33 = .ok (.goto (-29), 3) := by decide +kernel
theorem dX7_goodLength_36 : decode cX7_goodLength 36 = .ok (.aload_n 0, 1) := by decide +kernel
theorem dX7_goodLength_37 : decode cX7_goodLength 37 = .ok (.getfield 15, 3) := by decide +kernel
theorem dX7_goodLength_40 : decode cX7_goodLength 40 = .ok (.ireturn, 1) := by decide +kernel
theorem dX7_isComplete_0 : decode cX7_isComplete 0 = .ok (.iconst 0, 1) := by decide +kernel
theorem dX7_isComplete_1 : decode cX7_isComplete 1 = .ok (.istore_n 1, 1) := by decide +kernel
theorem dX7_isComplete_2 : decode cX7_isComplete 2 = .ok (.iconst 0, 1) := by decide +kernel
theorem dX7_isComplete_3 : decode cX7_isComplete 3 = .ok (.istore_n 2, 1) := by decide +kernel
theorem dX7_isComplete_4 : decode cX7_isComplete 4 = .ok (.iload_n 2, 1) := by decide +kernel
theorem dX7_isComplete_5 : decode cX7_isComplete 5 = .ok (.aload_n 0, 1) := by decide +kernel
theorem dX7_isComplete_6 : decode cX7_isComplete 6 = .ok (.getfield 15, 3) := by decide +kernel
theorem dX7_isComplete_9 : decode cX7_isComplete 9 = .ok (.if_icmp .ge 19, 3) := by decide +kernel
theorem dX7_isComplete_12 : decode cX7_isComplete 12 = .ok (.iload_n 1, 1) := by decide +kernel
theorem dX7_isComplete_13 : decode cX7_isComplete 13 = .ok (.aload_n 0, 1) := by decide +kernel
theorem dX7_isComplete_14 : decode cX7_isComplete 14 = .ok (.iload_n 2, 1) := by decide +kernel
theorem dX7_isComplete_15 : decode cX7_isComplete 15 = .ok (.invokevirtual 19, 3) := by decide +kernel
theorem dX7_isComplete_18 : decode cX7_isComplete 18 = .ok (.invokestatic 23, 3) := by decide +kernel
theorem dX7_isComplete_21 : decode cX7_isComplete 21 = .ok (.istore_n 1, 1) := by decide +kernel
theorem dX7_isComplete_22 : decode cX7_isComplete 22 = .ok (.iinc 2 1, 3) := by decide +kernel
theorem dX7_isComplete_25 : decode cX7_isComplete 25 = .ok (.goto (-21), 3) := by decide +kernel
theorem dX7_isComplete_28 : decode cX7_isComplete 28 = .ok (.iload_n 1, 1) := by decide +kernel
theorem dX7_isComplete_29 : decode cX7_isComplete 29 = .ok (.iconst 5, 1) := by decide +kernel
theorem dX7_isComplete_30 : decode cX7_isComplete 30 = .ok (.if_icmp .lt 13, 3) := by decide +kernel
theorem dX7_isComplete_33 : decode cX7_isComplete 33 = .ok (.iload_n 1, 1) := by decide +kernel
theorem dX7_isComplete_34 : decode cX7_isComplete 34 = .ok (.bipush 7, 2) := by decide +kernel
theorem dX7_isComplete_36 : decode cX7_isComplete 36 = .ok (.if_icmp .gt 7, 3) := by decide +kernel
theorem dX7_isComplete_39 : decode cX7_isComplete 39 = .ok (.iconst 1, 1) := by decide +kernel
theorem dX7_isComplete_40 : decode cX7_isComplete 40 = .ok (.goto 4, 3) := by decide +kernel
theorem dX7_isComplete_43 : decode cX7_isComplete 43 = .ok (.iconst 0, 1) := by decide +kernel
theorem dX7_isComplete_44 : decode cX7_isComplete 44 = .ok (.ireturn, 1) := by decide +kernel
theorem dX7_endsPart_0 : decode cX7_endsPart 0 = .ok (.iload_n 1, 1) := by decide +kernel
theorem dX7_endsPart_1 : decode cX7_endsPart 1 = .ok (.aload_n 0, 1) := by decide +kernel
theorem dX7_endsPart_2 : decode cX7_endsPart 2 = .ok (.getfield 15, 3) := by decide +kernel
theorem dX7_endsPart_5 : decode cX7_endsPart 5 = .ok (.if_icmp .eq 13, 3) := by decide +kernel
theorem dX7_endsPart_8 : decode cX7_endsPart 8 = .ok (.aload_n 0, 1) := by decide +kernel
theorem dX7_endsPart_9 : decode cX7_endsPart 9 = .ok (.iload_n 1, 1) := by decide +kernel
theorem dX7_endsPart_10 : decode cX7_endsPart 10 = .ok (.invokevirtual 19, 3) := by decide +kernel
theorem dX7_endsPart_13 : decode cX7_endsPart 13 = .ok (.bipush 59, 2) := by decide +kernel
theorem dX7_endsPart_15 : decode cX7_endsPart 15 = .ok (.if_icmp .ne 7, 3) := by decide +kernel
theorem dX7_endsPart_18 : decode cX7_endsPart 18 = .ok (.iconst 1, 1) := by decide +kernel
theorem dX7_endsPart_19 : decode cX7_endsPart 19 = .ok (.goto 4, 3) := by decide +kernel
theorem dX7_endsPart_22 : decode cX7_endsPart 22 = .ok (.iconst 0, 1) := by decide +kernel
theorem dX7_endsPart_23 : decode cX7_endsPart 23 = .ok (.ireturn, 1) := by decide +kernel
theorem dX7_mask_0 : decode cX7_mask 0 = .ok (.iconst 0, 1) := by decide +kernel
theorem dX7_mask_1 : decode cX7_mask 1 = .ok (.istore_n 3, 1) := by decide +kernel
theorem dX7_mask_2 : decode cX7_mask 2 = .ok (.iload_n 1, 1) := by decide +kernel
theorem dX7_mask_3 : decode cX7_mask 3 = .ok (.istore 4, 2) := by decide +kernel
theorem dX7_mask_5 : decode cX7_mask 5 = .ok (.iload 4, 2) := by decide +kernel
theorem dX7_mask_7 : decode cX7_mask 7 = .ok (.iload_n 2, 1) := by decide +kernel
theorem dX7_mask_8 : decode cX7_mask 8 = .ok (.if_icmp .ge 35, 3) := by decide +kernel
theorem dX7_mask_11 : decode cX7_mask 11 = .ok (.aload_n 0, 1) := by decide +kernel
theorem dX7_mask_12 : decode cX7_mask 12 = .ok (.iload 4, 2) := by decide +kernel
theorem dX7_mask_14 : decode cX7_mask 14 = .ok (.invokevirtual 27, 3) := by decide +kernel
theorem dX7_mask_17 : decode cX7_mask 17 = .ok (.istore 5, 2) := by decide +kernel
theorem dX7_mask_19 : decode cX7_mask 19 = .ok (.iload 5, 2) := by decide +kernel
theorem dX7_mask_21 : decode cX7_mask 21 = .ok (.ifCond .lt 16, 3) := by decide +kernel
theorem dX7_mask_24 : decode cX7_mask 24 = .ok (.iload 5, 2) := by decide +kernel
theorem dX7_mask_26 : decode cX7_mask 26 = .ok (.iconst 3, 1) := by decide +kernel
theorem dX7_mask_27 : decode cX7_mask 27 = .ok (.if_icmp .ge 10, 3) := by decide +kernel
theorem dX7_mask_30 : decode cX7_mask 30 = .ok (.iload_n 3, 1) := by decide +kernel
theorem dX7_mask_31 : decode cX7_mask 31 = .ok (.iconst 1, 1) := by decide +kernel
theorem dX7_mask_32 : decode cX7_mask 32 = .ok (.iload 5, 2) := by decide +kernel
theorem dX7_mask_34 : decode cX7_mask 34 = .ok (.ishl, 1) := by decide +kernel
theorem dX7_mask_35 : decode cX7_mask 35 = .ok (.ior, 1) := by decide +kernel
theorem dX7_mask_36 : decode cX7_mask 36 = .ok (.istore_n 3, 1) := by decide +kernel
theorem dX7_mask_37 : decode cX7_mask 37 = .ok (.iinc 4 1, 3) := by decide +kernel
theorem dX7_mask_40 : decode cX7_mask 40 = .ok (.goto (-35), 3) := by decide +kernel
theorem dX7_mask_43 : decode cX7_mask 43 = .ok (.iload_n 3, 1) := by decide +kernel
theorem dX7_mask_44 : decode cX7_mask 44 = .ok (.ireturn, 1) := by decide +kernel
theorem dX7_expectedBehind_0 : decode cX7_expectedBehind 0 = .ok (.iload_n 0, 1) := by decide +kernel
theorem dX7_expectedBehind_1 : decode cX7_expectedBehind 1 = .ok (.tableswitch 134 0 8 #[51, 56, 75, 94, 114, 134, 134, 134, 131], 51) := by decide +kernel
theorem dX7_expectedBehind_52 : decode cX7_expectedBehind 52 = .ok (.iload_n 1, 1) := by decide +kernel
theorem dX7_expectedBehind_53 : decode cX7_expectedBehind 53 = .ok (.invokestatic 30, 3) := by decide +kernel
theorem dX7_expectedBehind_56 : decode cX7_expectedBehind 56 = .ok (.ireturn, 1) := by decide +kernel
theorem dX7_expectedBehind_57 : decode cX7_expectedBehind 57 = .ok (.iload_n 1, 1) := by decide +kernel
theorem dX7_expectedBehind_58 : decode cX7_expectedBehind 58 = .ok (.bipush 48, 2) := by decide +kernel
theorem dX7_expectedBehind_60 : decode cX7_expectedBehind 60 = .ok (.if_icmp .lt 13, 3) := by decide +kernel
theorem dX7_expectedBehind_63 : decode cX7_expectedBehind 63 = .ok (.iload_n 1, 1) := by decide +kernel
theorem dX7_expectedBehind_64 : decode cX7_expectedBehind 64 = .ok (.bipush 51, 2) := by decide +kernel
theorem dX7_expectedBehind_66 : decode cX7_expectedBehind 66 = .ok (.if_icmp .gt 7, 3) := by decide +kernel
theorem dX7_expectedBehind_69 : decode cX7_expectedBehind 69 = .ok (.iconst 4, 1) := by decide +kernel
theorem dX7_expectedBehind_70 : decode cX7_expectedBehind 70 = .ok (.goto 5, 3) := by decide +kernel
theorem dX7_expectedBehind_73 : decode cX7_expectedBehind 73 = .ok (.bipush 8, 2) := by decide +kernel
theorem dX7_expectedBehind_75 : decode cX7_expectedBehind 75 = .ok (.ireturn, 1) := by decide +kernel
theorem dX7_expectedBehind_76 : decode cX7_expectedBehind 76 = .ok (.iload_n 1, 1) := by decide +kernel
theorem dX7_expectedBehind_77 : decode cX7_expectedBehind 77 = .ok (.bipush 48, 2) := by decide +kernel
theorem dX7_expectedBehind_79 : decode cX7_expectedBehind 79 = .ok (.if_icmp .lt 13, 3) := by decide +kernel
theorem dX7_expectedBehind_82 : decode cX7_expectedBehind 82 = .ok (.iload_n 1, 1) := by decide +kernel
theorem dX7_expectedBehind_83 : decode cX7_expectedBehind 83 = .ok (.bipush 55, 2) := by decide +kernel
theorem dX7_expectedBehind_85 : decode cX7_expectedBehind 85 = .ok (.if_icmp .gt 7, 3) := by decide +kernel
theorem dX7_expectedBehind_88 : decode cX7_expectedBehind 88 = .ok (.iconst 4, 1) := by decide +kernel
theorem dX7_expectedBehind_89 : decode cX7_expectedBehind 89 = .ok (.goto 5, 3) := by decide +kernel
theorem dX7_expectedBehind_92 : decode cX7_expectedBehind 92 = .ok (.bipush 8, 2) := by decide +kernel
theorem dX7_expectedBehind_94 : decode cX7_expectedBehind 94 = .ok (.ireturn, 1) := by decide +kernel
theorem dX7_expectedBehind_95 : decode cX7_expectedBehind 95 = .ok (.iload_n 1, 1) := by decide +kernel
theorem dX7_expectedBehind_96 : decode cX7_expectedBehind 96 = .ok (.bipush 48, 2) := by decide +kernel
theorem dX7_expectedBehind_98 : decode cX7_expectedBehind 98 = .ok (.if_icmp .lt 14, 3) := by decide +kernel
theorem dX7_expectedBehind_101 : decode cX7_expectedBehind 101 = .ok (.iload_n 1, 1) := by decide +kernel
theorem dX7_expectedBehind_102 : decode cX7_expectedBehind 102 = .ok (.bipush 50, 2) := by decide +kernel
theorem dX7_expectedBehind_104 : decode cX7_expectedBehind 104 = .ok (.if_icmp .gt 8, 3) := by decide +kernel
theorem dX7_expectedBehind_107 : decode cX7_expectedBehind 107 = .ok (.bipush 7, 2) := by decide +kernel
theorem dX7_expectedBehind_109 : decode cX7_expectedBehind 109 = .ok (.goto 5, 3) := by decide +kernel
theorem dX7_expectedBehind_112 : decode cX7_expectedBehind 112 = .ok (.bipush 8, 2) := by decide +kernel
theorem dX7_expectedBehind_114 : decode cX7_expectedBehind 114 = .ok (.ireturn, 1) := by decide +kernel
theorem dX7_expectedBehind_115 : decode cX7_expectedBehind 115 = .ok (.iload_n 1, 1) := by decide +kernel
theorem dX7_expectedBehind_116 : decode cX7_expectedBehind 116 = .ok (.bipush 45, 2) := by decide +kernel
theorem dX7_expectedBehind_118 : decode cX7_expectedBehind 118 = .ok (.if_icmp .ne 8, 3) := by decide +kernel
theorem dX7_expectedBehind_121 : decode cX7_expectedBehind 121 = .ok (.bipush 7, 2) := by decide +kernel
theorem dX7_expectedBehind_123 : decode cX7_expectedBehind 123 = .ok (.goto 8, 3) := by decide +kernel
theorem dX7_expectedBehind_126 : decode cX7_expectedBehind 126 = .ok (.iload_n 1, 1) := by decide +kernel
theorem dX7_expectedBehind_127 : decode cX7_expectedBehind 127 = .ok (.iconst 0, 1) := by decide +kernel
theorem dX7_expectedBehind_128 : decode cX7_expectedBehind 128 = .ok (.invokestatic 33, 3) := by decide +kernel
theorem dX7_expectedBehind_131 : decode cX7_expectedBehind 131 = .ok (.ireturn, 1) := by decide +kernel
theorem dX7_expectedBehind_132 : decode cX7_expectedBehind 132 = .ok (.bipush 8, 2) := by decide +kernel
theorem dX7_expectedBehind_134 : decode cX7_expectedBehind 134 = .ok (.ireturn, 1) := by decide +kernel
theorem dX7_expectedBehind_135 : decode cX7_expectedBehind 135 = .ok (.iload_n 1, 1) := by decide +kernel
theorem dX7_expectedBehind_136 : decode cX7_expectedBehind 136 = .ok (.bipush 59, 2) := by decide +kernel
theorem dX7_expectedBehind_138 : decode cX7_expectedBehind 138 = .ok (.if_icmp .ne 7, 3) := by decide +kernel
theorem dX7_expectedBehind_141 : decode cX7_expectedBehind 141 = .ok (.iconst 0, 1) := by decide +kernel
theorem dX7_expectedBehind_142 : decode cX7_expectedBehind 142 = .ok (.goto 12, 3) := by decide +kernel
theorem dX7_expectedBehind_145 : decode cX7_expectedBehind 145 = .ok (.iload_n 1, 1) := by decide +kernel
theorem dX7_expectedBehind_146 : decode cX7_expectedBehind 146 = .ok (.iload_n 0, 1) := by decide +kernel
theorem dX7_expectedBehind_147 : decode cX7_expectedBehind 147 = .ok (.iconst 5, 1) := by decide +kernel
theorem dX7_expectedBehind_148 : decode cX7_expectedBehind 148 = .ok (.isub, 1) := by decide +kernel
theorem dX7_expectedBehind_149 : decode cX7_expectedBehind 149 = .ok (.iconst 1, 1) := by decide +kernel
theorem dX7_expectedBehind_150 : decode cX7_expectedBehind 150 = .ok (.iadd, 1) := by decide +kernel
theorem dX7_expectedBehind_151 : decode cX7_expectedBehind 151 = .ok (.invokestatic 33, 3) := by decide +kernel
theorem dX7_expectedBehind_154 : decode cX7_expectedBehind 154 = .ok (.ireturn, 1) := by decide +kernel
theorem dX7_expectedInPart_0 : decode cX7_expectedInPart 0 = .ok (.iload_n 0, 1) := by decide +kernel
theorem dX7_expectedInPart_1 : decode cX7_expectedInPart 1 = .ok (.lookupswitch 41 #[(99, 39), (102, 35), (114, 37)], 35) := by decide +kernel
theorem dX7_expectedInPart_36 : decode cX7_expectedInPart 36 = .ok (.iconst 1, 1) := by decide +kernel
theorem dX7_expectedInPart_37 : decode cX7_expectedInPart 37 = .ok (.ireturn, 1) := by decide +kernel
theorem dX7_expectedInPart_38 : decode cX7_expectedInPart 38 = .ok (.iconst 2, 1) := by decide +kernel
theorem dX7_expectedInPart_39 : decode cX7_expectedInPart 39 = .ok (.ireturn, 1) := by decide +kernel
theorem dX7_expectedInPart_40 : decode cX7_expectedInPart 40 = .ok (.iconst 3, 1) := by decide +kernel
theorem dX7_expectedInPart_41 : decode cX7_expectedInPart 41 = .ok (.ireturn, 1) := by decide +kernel
theorem dX7_expectedInPart_42 : decode cX7_expectedInPart 42 = .ok (.bipush 8, 2) := by decide +kernel
theorem dX7_expectedInPart_44 : decode cX7_expectedInPart 44 = .ok (.ireturn, 1) := by decide +kernel
theorem dX7_expectedInSet_0 : decode cX7_expectedInSet 0 = .ok (.iload_n 0, 1) := by decide +kernel
theorem dX7_expectedInSet_1 : decode cX7_expectedInSet 1 = .ok (.bipush 48, 2) := by decide +kernel
theorem dX7_expectedInSet_3 : decode cX7_expectedInSet 3 = .ok (.isub, 1) := by decide +kernel
theorem dX7_expectedInSet_4 : decode cX7_expectedInSet 4 = .ok (.istore_n 2, 1) := by decide +kernel
theorem dX7_expectedInSet_5 : decode cX7_expectedInSet 5 = .ok (.iload_n 2, 1) := by decide +kernel
theorem dX7_expectedInSet_6 : decode cX7_expectedInSet 6 = .ok (.iload_n 1, 1) := by decide +kernel
theorem dX7_expectedInSet_7 : decode cX7_expectedInSet 7 = .ok (.if_icmp .lt 14, 3) := by decide +kernel
theorem dX7_expectedInSet_10 : decode cX7_expectedInSet 10 = .ok (.iload_n 2, 1) := by decide +kernel
theorem dX7_expectedInSet_11 : decode cX7_expectedInSet 11 = .ok (.iconst 3, 1) := by decide +kernel
theorem dX7_expectedInSet_12 : decode cX7_expectedInSet 12 = .ok (.if_icmp .ge 9, 3) := by decide +kernel
theorem dX7_expectedInSet_15 : decode cX7_expectedInSet 15 = .ok (.iconst 5, 1) := by decide +kernel
theorem dX7_expectedInSet_16 : decode cX7_expectedInSet 16 = .ok (.iload_n 2, 1) := by decide +kernel
theorem dX7_expectedInSet_17 : decode cX7_expectedInSet 17 = .ok (.iadd, 1) := by decide +kernel
theorem dX7_expectedInSet_18 : decode cX7_expectedInSet 18 = .ok (.goto 5, 3) := by decide +kernel
theorem dX7_expectedInSet_21 : decode cX7_expectedInSet 21 = .ok (.bipush 8, 2) := by decide +kernel
theorem dX7_expectedInSet_23 : decode cX7_expectedInSet 23 = .ok (.ireturn, 1) := by decide +kernel
theorem dX8_init_0 : decode cX8_init 0 = .ok (.aload_n 0, 1) := by decide +kernel
theorem dX8_init_1 : decode cX8_init 1 = .ok (.invokespecial 1, 3) := by decide +kernel
theorem dX8_init_4 : decode cX8_init 4 = .ok (.aload_n 0, 1) := by decide +kernel
theorem dX8_init_5 : decode cX8_init 5 = .ok (.new 7, 3) := by decide +kernel
theorem dX8_init_8 : decode cX8_init 8 = .ok (.dup, 1) := by decide +kernel
theorem dX8_init_9 : decode cX8_init 9 = .ok (.invokespecial 9, 3) := by decide +kernel
theorem dX8_init_12 : decode cX8_init 12 = .ok (.putfield 10, 3) := by decide +kernel
theorem dX8_init_15 : decode cX8_init 15 = .ok (.aload_n 0, 1) := by decide +kernel
theorem dX8_init_16 : decode cX8_init 16 = .ok (.new 16, 3) := by decide +kernel
theorem dX8_init_19 : decode cX8_init 19 = .ok (.dup, 1) := by decide +kernel
theorem dX8_init_20 : decode cX8_init 20 = .ok (.invokespecial 18, 3) := by decide +kernel
theorem dX8_init_23 : decode cX8_init 23 = .ok (.putfield 19, 3) := by decide +kernel
theorem dX8_init_26 : decode cX8_init 26 = .ok (.aload_n 0, 1) := by decide +kernel
theorem dX8_init_27 : decode cX8_init 27 = .ok (.new 23, 3) := by decide +kernel
theorem dX8_init_30 : decode cX8_init 30 = .ok (.dup, 1) := by decide +kernel
theorem dX8_init_31 : decode cX8_init 31 = .ok (.invokespecial 25, 3) := by decide +kernel
theorem dX8_init_34 : decode cX8_init 34 = .ok (.putfield 26, 3) := by decide +kernel
theorem dX8_init_37 : decode cX8_init 37 = .ok (.aload_n 0, 1) := by decide +kernel
theorem dX8_init_38 : decode cX8_init 38 = .ok (.new 30, 3) := by decide +kernel
theorem dX8_init_41 : decode cX8_init 41 = .ok (.dup, 1) := by decide +kernel
theorem dX8_init_42 : decode cX8_init 42 = .ok (.invokespecial 32, 3) := by decide +kernel
theorem dX8_init_45 : decode cX8_init 45 = .ok (.putfield 33, 3) := by decide +kernel
theorem dX8_init_48 : decode cX8_init 48 = .ok (.return_, 1) := by decide +kernel
theorem dX8_make_0 : decode cX8_make 0 = .ok (.iload_n 1, 1) := by decide +kernel
theorem dX8_make_1 : decode cX8_make 1 = .ok (.iconst 4, 1) := by decide +kernel
theorem dX8_make_2 : decode cX8_make 2 = .ok (.invokestatic 37, 3) := by decide +kernel
theorem dX8_make_5 : decode cX8_make 5 = .ok (.iload_n 2, 1) := by decide +kernel
theorem dX8_make_6 : decode cX8_make 6 = .ok (.iconst 0, 1) := by decide +kernel
theorem dX8_make_7 : decode cX8_make 7 = .ok (.sipush 9999, 3) := by decide +kernel
theorem dX8_make_10 : decode cX8_make 10 = .ok (.invokestatic 41, 3) := by decide +kernel
theorem dX8_make_13 : decode cX8_make 13 = .ok (.iload_n 3, 1) := by decide +kernel
theorem dX8_make_14 : decode cX8_make 14 = .ok (.iconst 0, 1) := by decide +kernel
theorem dX8_make_15 : decode cX8_make 15 = .ok (.sipush 9999, 3) := by decide +kernel
theorem dX8_make_18 : decode cX8_make 18 = .ok (.invokestatic 41, 3) := by decide +kernel
theorem dX8_make_21 : decode cX8_make 21 = .ok (.aload_n 0, 1) := by decide +kernel
theorem dX8_make_22 : decode cX8_make 22 = .ok (.getfield 19, 3) := by decide +kernel
theorem dX8_make_25 : decode cX8_make 25 = .ok (.aload_n 0, 1) := by decide +kernel
theorem dX8_make_26 : decode cX8_make 26 = .ok (.getfield 10, 3) := by decide +kernel
theorem dX8_make_29 : decode cX8_make 29 = .ok (.invokevirtual 45, 3) := by decide +kernel
theorem dX8_make_32 : decode cX8_make 32 = .ok (.aload_n 0, 1) := by decide +kernel
theorem dX8_make_33 : decode cX8_make 33 = .ok (.getfield 10, 3) := by decide +kernel
theorem dX8_make_36 : decode cX8_make 36 = .ok (.getfield 49, 3) := by decide +kernel
theorem dX8_make_39 : decode cX8_make 39 = .ok (.iload_n 1, 1) := by decide +kernel
theorem dX8_make_40 : decode cX8_make 40 = .ok (.aaload, 1) := by decide +kernel
theorem dX8_make_41 : decode cX8_make 41 = .ok (.astore 4, 2) := by decide +kernel
theorem dX8_make_43 : decode cX8_make 43 = .ok (.aload 4, 2) := by decide +kernel
theorem dX8_make_45 : decode cX8_make 45 = .ok (.getfield 53, 3) := by decide +kernel
theorem dX8_make_48 : decode cX8_make 48 = .ok (.istore 5, 2) := by decide +kernel
theorem dX8_make_50 : decode cX8_make 50 = .ok (.aload 4, 2) := by decide +kernel
theorem dX8_make_52 : decode cX8_make 52 = .ok (.iload_n 2, 1) := by decide +kernel
theorem dX8_make_53 : decode cX8_make 53 = .ok (.putfield 59, 3) := by decide +kernel
theorem dX8_make_56 : decode cX8_make 56 = .ok (.aload 4, 2) := by decide +kernel
theorem dX8_make_58 : decode cX8_make 58 = .ok (.iload_n 3, 1) := by decide +kernel
theorem dX8_make_59 : decode cX8_make 59 = .ok (.putfield 53, 3) := by decide +kernel
theorem dX8_make_62 : decode cX8_make 62 = .ok (.iload 5, 2) := by decide +kernel
theorem dX8_make_64 : decode cX8_make 64 = .ok (.ireturn, 1) := by decide +kernel
theorem dX8_battery_0 : decode cX8_battery 0 = .ok (.iload_n 1, 1) := by decide +kernel
theorem dX8_battery_1 : decode cX8_battery 1 = .ok (.iconst 4, 1) := by decide +kernel
theorem dX8_battery_2 : decode cX8_battery 2 = .ok (.invokestatic 37, 3) := by decide +kernel
theorem dX8_battery_5 : decode cX8_battery 5 = .ok (.iload_n 2, 1) := by decide +kernel
theorem dX8_battery_6 : decode cX8_battery 6 = .ok (.iconst 0, 1) := by decide +kernel
theorem dX8_battery_7 : decode cX8_battery 7 = .ok (.sipush 999, 3) := by decide +kernel
theorem dX8_battery_10 : decode cX8_battery 10 = .ok (.invokestatic 41, 3) := by decide +kernel
theorem dX8_battery_13 : decode cX8_battery 13 = .ok (.aload_n 0, 1) := by decide +kernel
theorem dX8_battery_14 : decode cX8_battery 14 = .ok (.getfield 19, 3) := by decide +kernel
theorem dX8_battery_17 : decode cX8_battery 17 = .ok (.aload_n 0, 1) := by decide +kernel
theorem dX8_battery_18 : decode cX8_battery 18 = .ok (.getfield 10, 3) := by decide +kernel
theorem dX8_battery_21 : decode cX8_battery 21 = .ok (.invokevirtual 45, 3) := by decide +kernel
theorem dX8_battery_24 : decode cX8_battery 24 = .ok (.aload_n 0, 1) := by decide +kernel
theorem dX8_battery_25 : decode cX8_battery 25 = .ok (.getfield 10, 3) := by decide +kernel
theorem dX8_battery_28 : decode cX8_battery 28 = .ok (.getfield 49, 3) := by decide +kernel
theorem dX8_battery_31 : decode cX8_battery 31 = .ok (.iload_n 1, 1) := by decide +kernel
theorem dX8_battery_32 : decode cX8_battery 32 = .ok (.aaload, 1) := by decide +kernel
theorem dX8_battery_33 : decode cX8_battery 33 = .ok (.astore_n 3, 1) := by decide +kernel
theorem dX8_battery_34 : decode cX8_battery 34 = .ok (.aload_n 3, 1) := by decide +kernel
theorem dX8_battery_35 : decode cX8_battery 35 = .ok (.getfield 62, 3) := by decide +kernel
theorem dX8_battery_38 : decode cX8_battery 38 = .ok (.istore 4, 2) := by decide +kernel
theorem dX8_battery_40 : decode cX8_battery 40 = .ok (.aload_n 3, 1) := by decide +kernel
theorem dX8_battery_41 : decode cX8_battery 41 = .ok (.iload_n 2, 1) := by decide +kernel
theorem dX8_battery_42 : decode cX8_battery 42 = .ok (.putfield 62, 3) := by decide +kernel
theorem dX8_battery_45 : decode cX8_battery 45 = .ok (.iload 4, 2) := by decide +kernel
theorem dX8_battery_47 : decode cX8_battery 47 = .ok (.ireturn, 1) := by decide +kernel
theorem dX8_press_0 : decode cX8_press 0 = .ok (.iload_n 1, 1) := by decide +kernel
theorem dX8_press_1 : decode cX8_press 1 = .ok (.iconst 4, 1) := by decide +kernel
theorem dX8_press_2 : decode cX8_press 2 = .ok (.invokestatic 37, 3) := by decide +kernel
theorem dX8_press_5 : decode cX8_press 5 = .ok (.iload_n 2, 1) := by decide +kernel
theorem dX8_press_6 : decode cX8_press 6 = .ok (.iconst 0, 1) := by decide +kernel
theorem dX8_press_7 : decode cX8_press 7 = .ok (.bipush 7, 2) := by decide +kernel
theorem dX8_press_9 : decode cX8_press 9 = .ok (.invokestatic 41, 3) := by decide +kernel
theorem dX8_press_12 : decode cX8_press 12 = .ok (.aload_n 0, 1) := by decide +kernel
theorem dX8_press_13 : decode cX8_press 13 = .ok (.getfield 10, 3) := by decide +kernel
theorem dX8_press_16 : decode cX8_press 16 = .ok (.iload_n 1, 1) := by decide +kernel
theorem dX8_press_17 : decode cX8_press 17 = .ok (.invokevirtual 65, 3) := by decide +kernel
theorem dX8_press_20 : decode cX8_press 20 = .ok (.invokestatic 69, 3) := by decide +kernel
theorem dX8_press_23 : decode cX8_press 23 = .ok (.aload_n 0, 1) := by decide +kernel
theorem dX8_press_24 : decode cX8_press 24 = .ok (.getfield 19, 3) := by decide +kernel
theorem dX8_press_27 : decode cX8_press 27 = .ok (.aload_n 0, 1) := by decide +kernel
theorem dX8_press_28 : decode cX8_press 28 = .ok (.getfield 10, 3) := by decide +kernel
theorem dX8_press_31 : decode cX8_press 31 = .ok (.invokevirtual 45, 3) := by decide +kernel
theorem dX8_press_34 : decode cX8_press 34 = .ok (.aload_n 0, 1) := by decide +kernel
theorem dX8_press_35 : decode cX8_press 35 = .ok (.getfield 10, 3) := by decide +kernel
theorem dX8_press_38 : decode cX8_press 38 = .ok (.iload_n 1, 1) := by decide +kernel
theorem dX8_press_39 : decode cX8_press 39 = .ok (.iload_n 2, 1) := by decide +kernel
theorem dX8_press_40 : decode cX8_press 40 = .ok (.invokevirtual 73, 3) := by decide +kernel
theorem dX8_press_43 : decode cX8_press 43 = .ok (.ireturn, 1) := by decide +kernel
theorem dX8_again_0 : decode cX8_again 0 = .ok (.iload_n 1, 1) := by decide +kernel
theorem dX8_again_1 : decode cX8_again 1 = .ok (.aload_n 0, 1) := by decide +kernel
theorem dX8_again_2 : decode cX8_again 2 = .ok (.getfield 10, 3) := by decide +kernel
theorem dX8_again_5 : decode cX8_again 5 = .ok (.getfield 77, 3) := by decide +kernel
theorem dX8_again_8 : decode cX8_again 8 = .ok (.getfield 81, 3) := by decide +kernel
theorem dX8_again_11 : decode cX8_again 11 = .ok (.invokestatic 37, 3) := by decide +kernel
theorem dX8_again_14 : decode cX8_again 14 = .ok (.iload_n 2, 1) := by decide +kernel
theorem dX8_again_15 : decode cX8_again 15 = .ok (.iconst 0, 1) := by decide +kernel
theorem dX8_again_16 : decode cX8_again 16 = .ok (.bipush 7, 2) := by decide +kernel
theorem dX8_again_18 : decode cX8_again 18 = .ok (.invokestatic 41, 3) := by decide +kernel
theorem dX8_again_21 : decode cX8_again 21 = .ok (.aload_n 0, 1) := by decide +kernel
theorem dX8_again_22 : decode cX8_again 22 = .ok (.getfield 19, 3) := by decide +kernel
theorem dX8_again_25 : decode cX8_again 25 = .ok (.aload_n 0, 1) := by decide +kernel
theorem dX8_again_26 : decode cX8_again 26 = .ok (.getfield 10, 3) := by decide +kernel
theorem dX8_again_29 : decode cX8_again 29 = .ok (.invokevirtual 45, 3) := by decide +kernel
theorem dX8_again_32 : decode cX8_again 32 = .ok (.aload_n 0, 1) := by decide +kernel
theorem dX8_again_33 : decode cX8_again 33 = .ok (.getfield 10, 3) := by decide +kernel
theorem dX8_again_36 : decode cX8_again 36 = .ok (.iload_n 1, 1) := by decide +kernel
theorem dX8_again_37 : decode cX8_again 37 = .ok (.iload_n 2, 1) := by decide +kernel
theorem dX8_again_38 : decode cX8_again 38 = .ok (.invokevirtual 86, 3) := by decide +kernel
theorem dX8_again_41 : decode cX8_again 41 = .ok (.ireturn, 1) := by decide +kernel
theorem dX8_learn_0 : decode cX8_learn 0 = .ok (.iload_n 1, 1) := by decide +kernel
theorem dX8_learn_1 : decode cX8_learn 1 = .ok (.iconst 3, 1) := by decide +kernel
theorem dX8_learn_2 : decode cX8_learn 2 = .ok (.invokestatic 37, 3) := by decide +kernel
theorem dX8_learn_5 : decode cX8_learn 5 = .ok (.iload_n 2, 1) := by decide +kernel
theorem dX8_learn_6 : decode cX8_learn 6 = .ok (.iconst 4, 1) := by decide +kernel
theorem dX8_learn_7 : decode cX8_learn 7 = .ok (.invokestatic 37, 3) := by decide +kernel
theorem dX8_learn_10 : decode cX8_learn 10 = .ok (.iload_n 3, 1) := by decide +kernel
theorem dX8_learn_11 : decode cX8_learn 11 = .ok (.iconst 4, 1) := by decide +kernel
theorem dX8_learn_12 : decode cX8_learn 12 = .ok (.invokestatic 37, 3) := by decide +kernel
theorem dX8_learn_15 : decode cX8_learn 15 = .ok (.aload_n 0, 1) := by decide +kernel
theorem dX8_learn_16 : decode cX8_learn 16 = .ok (.getfield 19, 3) := by decide +kernel
theorem dX8_learn_19 : decode cX8_learn 19 = .ok (.aload_n 0, 1) := by decide +kernel
theorem dX8_learn_20 : decode cX8_learn 20 = .ok (.getfield 10, 3) := by decide +kernel
theorem dX8_learn_23 : decode cX8_learn 23 = .ok (.invokevirtual 45, 3) := by decide +kernel
theorem dX8_learn_26 : decode cX8_learn 26 = .ok (.aload_n 0, 1) := by decide +kernel
theorem dX8_learn_27 : decode cX8_learn 27 = .ok (.getfield 10, 3) := by decide +kernel
theorem dX8_learn_30 : decode cX8_learn 30 = .ok (.getfield 89, 3) := by decide +kernel
theorem dX8_learn_33 : decode cX8_learn 33 = .ok (.iload_n 1, 1) := by decide +kernel
theorem dX8_learn_34 : decode cX8_learn 34 = .ok (.aaload, 1) := by decide +kernel
theorem dX8_learn_35 : decode cX8_learn 35 = .ok (.astore 4, 2) := by decide +kernel
theorem dX8_learn_37 : decode cX8_learn 37 = .ok (.aload 4, 2) := by decide +kernel
theorem dX8_learn_39 : decode cX8_learn 39 = .ok (.getfield 93, 3) := by decide +kernel
theorem dX8_learn_42 : decode cX8_learn 42 = .ok (.iload_n 2, 1) := by decide +kernel
theorem dX8_learn_43 : decode cX8_learn 43 = .ok (.aaload, 1) := by decide +kernel
theorem dX8_learn_44 : decode cX8_learn 44 = .ok (.aload_n 0, 1) := by decide +kernel
theorem dX8_learn_45 : decode cX8_learn 45 = .ok (.getfield 10, 3) := by decide +kernel
theorem dX8_learn_48 : decode cX8_learn 48 = .ok (.getfield 49, 3) := by decide +kernel
theorem dX8_learn_51 : decode cX8_learn 51 = .ok (.iload_n 3, 1) := by decide +kernel
theorem dX8_learn_52 : decode cX8_learn 52 = .ok (.aaload, 1) := by decide +kernel
theorem dX8_learn_53 : decode cX8_learn 53 = .ok (.invokevirtual 97, 3) := by decide +kernel
theorem dX8_learn_56 : decode cX8_learn 56 = .ok (.aload 4, 2) := by decide +kernel
theorem dX8_learn_58 : decode cX8_learn 58 = .ok (.invokevirtual 103, 3) := by decide +kernel
theorem dX8_learn_61 : decode cX8_learn 61 = .ok (.ireturn, 1) := by decide +kernel
theorem dX8_forget_0 : decode cX8_forget 0 = .ok (.iload_n 1, 1) := by decide +kernel
theorem dX8_forget_1 : decode cX8_forget 1 = .ok (.iconst 3, 1) := by decide +kernel
theorem dX8_forget_2 : decode cX8_forget 2 = .ok (.invokestatic 37, 3) := by decide +kernel
theorem dX8_forget_5 : decode cX8_forget 5 = .ok (.iload_n 2, 1) := by decide +kernel
theorem dX8_forget_6 : decode cX8_forget 6 = .ok (.iconst 4, 1) := by decide +kernel
theorem dX8_forget_7 : decode cX8_forget 7 = .ok (.invokestatic 37, 3) := by decide +kernel
theorem dX8_forget_10 : decode cX8_forget 10 = .ok (.aload_n 0, 1) := by decide +kernel
theorem dX8_forget_11 : decode cX8_forget 11 = .ok (.getfield 19, 3) := by decide +kernel
theorem dX8_forget_14 : decode cX8_forget 14 = .ok (.aload_n 0, 1) := by decide +kernel
theorem dX8_forget_15 : decode cX8_forget 15 = .ok (.getfield 10, 3) := by decide +kernel
theorem dX8_forget_18 : decode cX8_forget 18 = .ok (.invokevirtual 45, 3) := by decide +kernel
theorem dX8_forget_21 : decode cX8_forget 21 = .ok (.aload_n 0, 1) := by decide +kernel
theorem dX8_forget_22 : decode cX8_forget 22 = .ok (.getfield 10, 3) := by decide +kernel
theorem dX8_forget_25 : decode cX8_forget 25 = .ok (.getfield 89, 3) := by decide +kernel
theorem dX8_forget_28 : decode cX8_forget 28 = .ok (.iload_n 1, 1) := by decide +kernel
theorem dX8_forget_29 : decode cX8_forget 29 = .ok (.aaload, 1) := by decide +kernel
theorem dX8_forget_30 : decode cX8_forget 30 = .ok (.getfield 93, 3) := by decide +kernel
theorem dX8_forget_33 : decode cX8_forget 33 = .ok (.iload_n 2, 1) := by decide +kernel
theorem dX8_forget_34 : decode cX8_forget 34 = .ok (.aaload, 1) := by decide +kernel
theorem dX8_forget_35 : decode cX8_forget 35 = .ok (.astore_n 3, 1) := by decide +kernel
theorem dX8_forget_36 : decode cX8_forget 36 = .ok (.aload_n 3, 1) := by decide +kernel
theorem dX8_forget_37 : decode cX8_forget 37 = .ok (.getfield 107, 3) := by decide +kernel
theorem dX8_forget_40 : decode cX8_forget 40 = .ok (.ifCond .eq 7, 3) := by decide +kernel
theorem dX8_forget_43 : decode cX8_forget 43 = .ok (.iconst 1, 1) := by decide +kernel
theorem dX8_forget_44 : decode cX8_forget 44 = .ok (.goto 4, 3) := by decide +kernel
theorem dX8_forget_47 : decode cX8_forget 47 = .ok (.iconst 0, 1) := by decide +kernel
theorem dX8_forget_48 : decode cX8_forget 48 = .ok (.istore 4, 2) := by decide +kernel
theorem dX8_forget_50 : decode cX8_forget 50 = .ok (.aload_n 3, 1) := by decide +kernel
theorem dX8_forget_51 : decode cX8_forget 51 = .ok (.invokevirtual 111, 3) := by decide +kernel
theorem dX8_forget_54 : decode cX8_forget 54 = .ok (.iload 4, 2) := by decide +kernel
theorem dX8_forget_56 : decode cX8_forget 56 = .ok (.ireturn, 1) := by decide +kernel
theorem dX8_shut_0 : decode cX8_shut 0 = .ok (.iload_n 1, 1) := by decide +kernel
theorem dX8_shut_1 : decode cX8_shut 1 = .ok (.iconst 3, 1) := by decide +kernel
theorem dX8_shut_2 : decode cX8_shut 2 = .ok (.invokestatic 37, 3) := by decide +kernel
theorem dX8_shut_5 : decode cX8_shut 5 = .ok (.aload_n 0, 1) := by decide +kernel
theorem dX8_shut_6 : decode cX8_shut 6 = .ok (.getfield 19, 3) := by decide +kernel
theorem dX8_shut_9 : decode cX8_shut 9 = .ok (.aload_n 0, 1) := by decide +kernel
theorem dX8_shut_10 : decode cX8_shut 10 = .ok (.getfield 10, 3) := by decide +kernel
theorem dX8_shut_13 : decode cX8_shut 13 = .ok (.invokevirtual 45, 3) := by decide +kernel
theorem dX8_shut_16 : decode cX8_shut 16 = .ok (.aload_n 0, 1) := by decide +kernel
theorem dX8_shut_17 : decode cX8_shut 17 = .ok (.getfield 10, 3) := by decide +kernel
theorem dX8_shut_20 : decode cX8_shut 20 = .ok (.getfield 89, 3) := by decide +kernel
theorem dX8_shut_23 : decode cX8_shut 23 = .ok (.iload_n 1, 1) := by decide +kernel
theorem dX8_shut_24 : decode cX8_shut 24 = .ok (.aaload, 1) := by decide +kernel
theorem dX8_shut_25 : decode cX8_shut 25 = .ok (.astore_n 2, 1) := by decide +kernel
theorem dX8_shut_26 : decode cX8_shut 26 = .ok (.aload_n 2, 1) := by decide +kernel
theorem dX8_shut_27 : decode cX8_shut 27 = .ok (.getfield 114, 3) := by decide +kernel
theorem dX8_shut_30 : decode cX8_shut 30 = .ok (.ifCond .eq 7, 3) := by decide +kernel
theorem dX8_shut_33 : decode cX8_shut 33 = .ok (.iconst 1, 1) := by decide +kernel
theorem dX8_shut_34 : decode cX8_shut 34 = .ok (.goto 4, 3) := by decide +kernel
theorem dX8_shut_37 : decode cX8_shut 37 = .ok (.iconst 0, 1) := by decide +kernel
theorem dX8_shut_38 : decode cX8_shut 38 = .ok (.istore_n 3, 1) := by decide +kernel
theorem dX8_shut_39 : decode cX8_shut 39 = .ok (.aload_n 2, 1) := by decide +kernel
theorem dX8_shut_40 : decode cX8_shut 40 = .ok (.iconst 0, 1) := by decide +kernel
theorem dX8_shut_41 : decode cX8_shut 41 = .ok (.putfield 114, 3) := by decide +kernel
theorem dX8_shut_44 : decode cX8_shut 44 = .ok (.iload_n 3, 1) := by decide +kernel
theorem dX8_shut_45 : decode cX8_shut 45 = .ok (.ireturn, 1) := by decide +kernel
theorem dX8_unlock_0 : decode cX8_unlock 0 = .ok (.iload_n 1, 1) := by decide +kernel
theorem dX8_unlock_1 : decode cX8_unlock 1 = .ok (.iconst 3, 1) := by decide +kernel
theorem dX8_unlock_2 : decode cX8_unlock 2 = .ok (.invokestatic 37, 3) := by decide +kernel
theorem dX8_unlock_5 : decode cX8_unlock 5 = .ok (.aload_n 0, 1) := by decide +kernel
theorem dX8_unlock_6 : decode cX8_unlock 6 = .ok (.getfield 19, 3) := by decide +kernel
theorem dX8_unlock_9 : decode cX8_unlock 9 = .ok (.aload_n 0, 1) := by decide +kernel
theorem dX8_unlock_10 : decode cX8_unlock 10 = .ok (.getfield 10, 3) := by decide +kernel
theorem dX8_unlock_13 : decode cX8_unlock 13 = .ok (.invokevirtual 45, 3) := by decide +kernel
theorem dX8_unlock_16 : decode cX8_unlock 16 = .ok (.aload_n 0, 1) := by decide +kernel
theorem dX8_unlock_17 : decode cX8_unlock 17 = .ok (.getfield 10, 3) := by decide +kernel
theorem dX8_unlock_20 : decode cX8_unlock 20 = .ok (.getfield 89, 3) := by decide +kernel
theorem dX8_unlock_23 : decode cX8_unlock 23 = .ok (.iload_n 1, 1) := by decide +kernel
theorem dX8_unlock_24 : decode cX8_unlock 24 = .ok (.aaload, 1) := by decide +kernel
theorem dX8_unlock_25 : decode cX8_unlock 25 = .ok (.astore_n 2, 1) := by decide +kernel
theorem dX8_unlock_26 : decode cX8_unlock 26 = .ok (.aload_n 2, 1) := by decide +kernel
theorem dX8_unlock_27 : decode cX8_unlock 27 = .ok (.getfield 117, 3) := by decide +kernel
theorem dX8_unlock_30 : decode cX8_unlock 30 = .ok (.istore_n 3, 1) := by decide +kernel
theorem dX8_unlock_31 : decode cX8_unlock 31 = .ok (.aload_n 2, 1) := by decide +kernel
theorem dX8_unlock_32 : decode cX8_unlock 32 = .ok (.iconst 0, 1) := by decide +kernel
theorem dX8_unlock_33 : decode cX8_unlock 33 = .ok (.putfield 117, 3) := by decide +kernel
theorem dX8_unlock_36 : decode cX8_unlock 36 = .ok (.iload_n 3, 1) := by decide +kernel
theorem dX8_unlock_37 : decode cX8_unlock 37 = .ok (.ireturn, 1) := by decide +kernel
theorem dX8_set_0 : decode cX8_set 0 = .ok (.iload_n 1, 1) := by decide +kernel
theorem dX8_set_1 : decode cX8_set 1 = .ok (.iconst 3, 1) := by decide +kernel
theorem dX8_set_2 : decode cX8_set 2 = .ok (.invokestatic 37, 3) := by decide +kernel
theorem dX8_set_5 : decode cX8_set 5 = .ok (.iload_n 2, 1) := by decide +kernel
theorem dX8_set_6 : decode cX8_set 6 = .ok (.iload_n 1, 1) := by decide +kernel
theorem dX8_set_7 : decode cX8_set 7 = .ok (.invokestatic 120, 3) := by decide +kernel
theorem dX8_set_10 : decode cX8_set 10 = .ok (.iload_n 1, 1) := by decide +kernel
theorem dX8_set_11 : decode cX8_set 11 = .ok (.invokestatic 126, 3) := by decide +kernel
theorem dX8_set_14 : decode cX8_set 14 = .ok (.invokestatic 41, 3) := by decide +kernel
theorem dX8_set_17 : decode cX8_set 17 = .ok (.aload_n 0, 1) := by decide +kernel
theorem dX8_set_18 : decode cX8_set 18 = .ok (.getfield 19, 3) := by decide +kernel
theorem dX8_set_21 : decode cX8_set 21 = .ok (.aload_n 0, 1) := by decide +kernel
theorem dX8_set_22 : decode cX8_set 22 = .ok (.getfield 10, 3) := by decide +kernel
theorem dX8_set_25 : decode cX8_set 25 = .ok (.invokevirtual 45, 3) := by decide +kernel
theorem dX8_set_28 : decode cX8_set 28 = .ok (.aload_n 0, 1) := by decide +kernel
theorem dX8_set_29 : decode cX8_set 29 = .ok (.getfield 10, 3) := by decide +kernel
theorem dX8_set_32 : decode cX8_set 32 = .ok (.getfield 129, 3) := by decide +kernel
theorem dX8_set_35 : decode cX8_set 35 = .ok (.iload_n 1, 1) := by decide +kernel
theorem dX8_set_36 : decode cX8_set 36 = .ok (.invokevirtual 133, 3) := by decide +kernel
theorem dX8_set_39 : decode cX8_set 39 = .ok (.istore_n 3, 1) := by decide +kernel
theorem dX8_set_40 : decode cX8_set 40 = .ok (.aload_n 0, 1) := by decide +kernel
theorem dX8_set_41 : decode cX8_set 41 = .ok (.getfield 10, 3) := by decide +kernel
theorem dX8_set_44 : decode cX8_set 44 = .ok (.getfield 129, 3) := by decide +kernel
theorem dX8_set_47 : decode cX8_set 47 = .ok (.iload_n 1, 1) := by decide +kernel
theorem dX8_set_48 : decode cX8_set 48 = .ok (.iload_n 2, 1) := by decide +kernel
theorem dX8_set_49 : decode cX8_set 49 = .ok (.invokevirtual 136, 3) := by decide +kernel
theorem dX8_set_52 : decode cX8_set 52 = .ok (.iload_n 3, 1) := by decide +kernel
theorem dX8_set_53 : decode cX8_set 53 = .ok (.ireturn, 1) := by decide +kernel
theorem dX8_append_0 : decode cX8_append 0 = .ok (.iload_n 1, 1) := by decide +kernel
theorem dX8_append_1 : decode cX8_append 1 = .ok (.bipush 33, 2) := by decide +kernel
theorem dX8_append_3 : decode cX8_append 3 = .ok (.bipush 126, 2) := by decide +kernel
theorem dX8_append_5 : decode cX8_append 5 = .ok (.invokestatic 41, 3) := by decide +kernel
theorem dX8_append_8 : decode cX8_append 8 = .ok (.aload_n 0, 1) := by decide +kernel
theorem dX8_append_9 : decode cX8_append 9 = .ok (.getfield 26, 3) := by decide +kernel
theorem dX8_append_12 : decode cX8_append 12 = .ok (.getfield 139, 3) := by decide +kernel
theorem dX8_append_15 : decode cX8_append 15 = .ok (.bipush 60, 2) := by decide +kernel
theorem dX8_append_17 : decode cX8_append 17 = .ok (.if_icmp .ge 7, 3) := by decide +kernel
theorem dX8_append_20 : decode cX8_append 20 = .ok (.iconst 1, 1) := by decide +kernel
theorem dX8_append_21 : decode cX8_append 21 = .ok (.goto 4, 3) := by decide +kernel
theorem dX8_append_24 : decode cX8_append 24 = .ok (.iconst 0, 1) := by decide +kernel
theorem dX8_append_25 : decode cX8_append 25 = .ok (.invokestatic 69, 3) := by decide +kernel
theorem dX8_append_28 : decode cX8_append 28 = .ok (.aload_n 0, 1) := by decide +kernel
theorem dX8_append_29 : decode cX8_append 29 = .ok (.getfield 26, 3) := by decide +kernel
theorem dX8_append_32 : decode cX8_append 32 = .ok (.iload_n 1, 1) := by decide +kernel
theorem dX8_append_33 : decode cX8_append 33 = .ok (.invokevirtual 140, 3) := by decide +kernel
theorem dX8_append_36 : decode cX8_append 36 = .ok (.aload_n 0, 1) := by decide +kernel
theorem dX8_append_37 : decode cX8_append 37 = .ok (.getfield 26, 3) := by decide +kernel
theorem dX8_append_40 : decode cX8_append 40 = .ok (.getfield 139, 3) := by decide +kernel
theorem dX8_append_43 : decode cX8_append 43 = .ok (.ireturn, 1) := by decide +kernel
theorem dX8_clearBuffer_0 : decode cX8_clearBuffer 0 = .ok (.aload_n 0, 1) := by decide +kernel
theorem dX8_clearBuffer_1 : decode cX8_clearBuffer 1 = .ok (.getfield 26, 3) := by decide +kernel
theorem dX8_clearBuffer_4 : decode cX8_clearBuffer 4 = .ok (.getfield 139, 3) := by decide +kernel
theorem dX8_clearBuffer_7 : decode cX8_clearBuffer 7 = .ok (.istore_n 1, 1) := by decide +kernel
theorem dX8_clearBuffer_8 : decode cX8_clearBuffer 8 = .ok (.aload_n 0, 1) := by decide +kernel
theorem dX8_clearBuffer_9 : decode cX8_clearBuffer 9 = .ok (.getfield 26, 3) := by decide +kernel
theorem dX8_clearBuffer_12 : decode cX8_clearBuffer 12 = .ok (.iconst 0, 1) := by decide +kernel
theorem dX8_clearBuffer_13 : decode cX8_clearBuffer 13 = .ok (.putfield 139, 3) := by decide +kernel
theorem dX8_clearBuffer_16 : decode cX8_clearBuffer 16 = .ok (.iload_n 1, 1) := by decide +kernel
theorem dX8_clearBuffer_17 : decode cX8_clearBuffer 17 = .ok (.ireturn, 1) := by decide +kernel
theorem dX8_firstError_0 : decode cX8_firstError 0 = .ok (.aload_n 0, 1) := by decide +kernel
theorem dX8_firstError_1 : decode cX8_firstError 1 = .ok (.getfield 26, 3) := by decide +kernel
theorem dX8_firstError_4 : decode cX8_firstError 4 = .ok (.invokevirtual 144, 3) := by decide +kernel
theorem dX8_firstError_7 : decode cX8_firstError 7 = .ok (.ireturn, 1) := by decide +kernel
theorem dX8_play_0 : decode cX8_play 0 = .ok (.aload_n 0, 1) := by decide +kernel
theorem dX8_play_1 : decode cX8_play 1 = .ok (.getfield 26, 3) := by decide +kernel
theorem dX8_play_4 : decode cX8_play 4 = .ok (.invokevirtual 147, 3) := by decide +kernel
theorem dX8_play_7 : decode cX8_play 7 = .ok (.invokestatic 151, 3) := by decide +kernel
theorem dX8_play_10 : decode cX8_play 10 = .ok (.aload_n 0, 1) := by decide +kernel
theorem dX8_play_11 : decode cX8_play 11 = .ok (.getfield 19, 3) := by decide +kernel
theorem dX8_play_14 : decode cX8_play 14 = .ok (.aload_n 0, 1) := by decide +kernel
theorem dX8_play_15 : decode cX8_play 15 = .ok (.getfield 10, 3) := by decide +kernel
theorem dX8_play_18 : decode cX8_play 18 = .ok (.invokevirtual 45, 3) := by decide +kernel
theorem dX8_play_21 : decode cX8_play 21 = .ok (.iconst 0, 1) := by decide +kernel
theorem dX8_play_22 : decode cX8_play 22 = .ok (.istore_n 1, 1) := by decide +kernel
theorem dX8_play_23 : decode cX8_play 23 = .ok (.iconst 0, 1) := by decide +kernel
theorem dX8_play_24 : decode cX8_play 24 = .ok (.istore_n 2, 1) := by decide +kernel
theorem dX8_play_25 : decode cX8_play 25 = .ok (.iconst 0, 1) := by decide +kernel
theorem dX8_play_26 : decode cX8_play 26 = .ok (.istore_n 3, 1) := by decide +kernel
theorem dX8_play_27 : decode cX8_play 27 = .ok (.iload_n 3, 1) := by decide +kernel
theorem dX8_play_28 : decode cX8_play 28 = .ok (.aload_n 0, 1) := by decide +kernel
theorem dX8_play_29 : decode cX8_play 29 = .ok (.getfield 26, 3) := by decide +kernel
theorem dX8_play_32 : decode cX8_play 32 = .ok (.getfield 139, 3) := by decide +kernel
theorem dX8_play_35 : decode cX8_play 35 = .ok (.if_icmp .gt 39, 3) := by decide +kernel
theorem dX8_play_38 : decode cX8_play 38 = .ok (.aload_n 0, 1) := by decide +kernel
theorem dX8_play_39 : decode cX8_play 39 = .ok (.getfield 26, 3) := by decide +kernel
theorem dX8_play_42 : decode cX8_play 42 = .ok (.iload_n 3, 1) := by decide +kernel
theorem dX8_play_43 : decode cX8_play 43 = .ok (.invokevirtual 154, 3) := by decide +kernel
theorem dX8_play_46 : decode cX8_play 46 = .ok (.ifCond .eq 22, 3) := by decide +kernel
theorem dX8_play_49 : decode cX8_play 49 = .ok (.aload_n 0, 1) := by decide +kernel
theorem dX8_play_50 : decode cX8_play 50 = .ok (.iload_n 2, 1) := by decide +kernel
theorem dX8_play_51 : decode cX8_play 51 = .ok (.iload_n 3, 1) := by decide +kernel
theorem dX8_play_52 : decode cX8_play 52 = .ok (.invokevirtual 157, 3) := by decide +kernel
theorem dX8_play_55 : decode cX8_play 55 = .ok (.ifCond .ne 6, 3) := by decide +kernel
theorem dX8_play_58 : decode cX8_play 58 = .ok (.goto 16, 3) := by decide +kernel
theorem dX8_play_61 : decode cX8_play 61 = .ok (.iinc 1 1, 3) := by decide +kernel
theorem dX8_play_64 : decode cX8_play 64 = .ok (.iload_n 3, 1) := by decide +kernel
theorem dX8_play_65 : decode cX8_play 65 = .ok (.iconst 1, 1) := by decide +kernel
theorem dX8_play_66 : decode cX8_play 66 = .ok (.iadd, 1) := by decide +kernel
theorem dX8_play_67 : decode cX8_play 67 = .ok (.istore_n 2, 1) := by decide +kernel
theorem dX8_play_68 : decode cX8_play 68 = .ok (.iinc 3 1, 3) := by decide +kernel
theorem dX8_play_71 : decode cX8_play 71 = .ok (.goto (-44), 3) := by decide +kernel
theorem dX8_play_74 : decode cX8_play 74 = .ok (.aload_n 0, 1) := by decide +kernel
theorem dX8_play_75 : decode cX8_play 75 = .ok (.getfield 26, 3) := by decide +kernel
theorem dX8_play_78 : decode cX8_play 78 = .ok (.iconst 0, 1) := by decide +kernel
theorem dX8_play_79 : decode cX8_play 79 = .ok (.putfield 139, 3) := by decide +kernel
theorem dX8_play_82 : decode cX8_play 82 = .ok (.iload_n 1, 1) := by decide +kernel
theorem dX8_play_83 : decode cX8_play 83 = .ok (.ireturn, 1) := by decide +kernel
theorem dX8_undo_0 : decode cX8_undo 0 = .ok (.aload_n 0, 1) := by decide +kernel
theorem dX8_undo_1 : decode cX8_undo 1 = .ok (.getfield 19, 3) := by decide +kernel
theorem dX8_undo_4 : decode cX8_undo 4 = .ok (.getfield 161, 3) := by decide +kernel
theorem dX8_undo_7 : decode cX8_undo 7 = .ok (.ifCond .le 7, 3) := by decide +kernel
theorem dX8_undo_10 : decode cX8_undo 10 = .ok (.iconst 1, 1) := by decide +kernel
theorem dX8_undo_11 : decode cX8_undo 11 = .ok (.goto 4, 3) := by decide +kernel
theorem dX8_undo_14 : decode cX8_undo 14 = .ok (.iconst 0, 1) := by decide +kernel
theorem dX8_undo_15 : decode cX8_undo 15 = .ok (.invokestatic 69, 3) := by decide +kernel
theorem dX8_undo_18 : decode cX8_undo 18 = .ok (.aload_n 0, 1) := by decide +kernel
theorem dX8_undo_19 : decode cX8_undo 19 = .ok (.getfield 19, 3) := by decide +kernel
theorem dX8_undo_22 : decode cX8_undo 22 = .ok (.aload_n 0, 1) := by decide +kernel
theorem dX8_undo_23 : decode cX8_undo 23 = .ok (.getfield 10, 3) := by decide +kernel
theorem dX8_undo_26 : decode cX8_undo 26 = .ok (.invokevirtual 162, 3) := by decide +kernel
theorem dX8_undo_29 : decode cX8_undo 29 = .ok (.aload_n 0, 1) := by decide +kernel
theorem dX8_undo_30 : decode cX8_undo 30 = .ok (.getfield 19, 3) := by decide +kernel
theorem dX8_undo_33 : decode cX8_undo 33 = .ok (.getfield 161, 3) := by decide +kernel
theorem dX8_undo_36 : decode cX8_undo 36 = .ok (.ireturn, 1) := by decide +kernel
theorem dX8_fob_0 : decode cX8_fob 0 = .ok (.iload_n 1, 1) := by decide +kernel
theorem dX8_fob_1 : decode cX8_fob 1 = .ok (.iconst 4, 1) := by decide +kernel
theorem dX8_fob_2 : decode cX8_fob 2 = .ok (.invokestatic 37, 3) := by decide +kernel
theorem dX8_fob_5 : decode cX8_fob 5 = .ok (.iload_n 2, 1) := by decide +kernel
theorem dX8_fob_6 : decode cX8_fob 6 = .ok (.iconst 0, 1) := by decide +kernel
theorem dX8_fob_7 : decode cX8_fob 7 = .ok (.iconst 4, 1) := by decide +kernel
theorem dX8_fob_8 : decode cX8_fob 8 = .ok (.invokestatic 41, 3) := by decide +kernel
theorem dX8_fob_11 : decode cX8_fob 11 = .ok (.aload_n 0, 1) := by decide +kernel
theorem dX8_fob_12 : decode cX8_fob 12 = .ok (.getfield 10, 3) := by decide +kernel
theorem dX8_fob_15 : decode cX8_fob 15 = .ok (.getfield 49, 3) := by decide +kernel
theorem dX8_fob_18 : decode cX8_fob 18 = .ok (.iload_n 1, 1) := by decide +kernel
theorem dX8_fob_19 : decode cX8_fob 19 = .ok (.aaload, 1) := by decide +kernel
theorem dX8_fob_20 : decode cX8_fob 20 = .ok (.iload_n 2, 1) := by decide +kernel
theorem dX8_fob_21 : decode cX8_fob 21 = .ok (.invokevirtual 165, 3) := by decide +kernel
theorem dX8_fob_24 : decode cX8_fob 24 = .ok (.ireturn, 1) := by decide +kernel
theorem dX8_slot_0 : decode cX8_slot 0 = .ok (.iload_n 1, 1) := by decide +kernel
theorem dX8_slot_1 : decode cX8_slot 1 = .ok (.iconst 3, 1) := by decide +kernel
theorem dX8_slot_2 : decode cX8_slot 2 = .ok (.invokestatic 37, 3) := by decide +kernel
theorem dX8_slot_5 : decode cX8_slot 5 = .ok (.iload_n 2, 1) := by decide +kernel
theorem dX8_slot_6 : decode cX8_slot 6 = .ok (.iconst 4, 1) := by decide +kernel
theorem dX8_slot_7 : decode cX8_slot 7 = .ok (.invokestatic 37, 3) := by decide +kernel
theorem dX8_slot_10 : decode cX8_slot 10 = .ok (.iload_n 3, 1) := by decide +kernel
theorem dX8_slot_11 : decode cX8_slot 11 = .ok (.iconst 0, 1) := by decide +kernel
theorem dX8_slot_12 : decode cX8_slot 12 = .ok (.iconst 3, 1) := by decide +kernel
theorem dX8_slot_13 : decode cX8_slot 13 = .ok (.invokestatic 41, 3) := by decide +kernel
theorem dX8_slot_16 : decode cX8_slot 16 = .ok (.aload_n 0, 1) := by decide +kernel
theorem dX8_slot_17 : decode cX8_slot 17 = .ok (.getfield 10, 3) := by decide +kernel
theorem dX8_slot_20 : decode cX8_slot 20 = .ok (.getfield 89, 3) := by decide +kernel
theorem dX8_slot_23 : decode cX8_slot 23 = .ok (.iload_n 1, 1) := by decide +kernel
theorem dX8_slot_24 : decode cX8_slot 24 = .ok (.aaload, 1) := by decide +kernel
theorem dX8_slot_25 : decode cX8_slot 25 = .ok (.getfield 93, 3) := by decide +kernel
theorem dX8_slot_28 : decode cX8_slot 28 = .ok (.iload_n 2, 1) := by decide +kernel
theorem dX8_slot_29 : decode cX8_slot 29 = .ok (.aaload, 1) := by decide +kernel
theorem dX8_slot_30 : decode cX8_slot 30 = .ok (.iload_n 3, 1) := by decide +kernel
theorem dX8_slot_31 : decode cX8_slot 31 = .ok (.invokevirtual 168, 3) := by decide +kernel
theorem dX8_slot_34 : decode cX8_slot 34 = .ok (.ireturn, 1) := by decide +kernel
theorem dX8_door_0 : decode cX8_door 0 = .ok (.iload_n 1, 1) := by decide +kernel
theorem dX8_door_1 : decode cX8_door 1 = .ok (.iconst 3, 1) := by decide +kernel
theorem dX8_door_2 : decode cX8_door 2 = .ok (.invokestatic 37, 3) := by decide +kernel
theorem dX8_door_5 : decode cX8_door 5 = .ok (.iload_n 2, 1) := by decide +kernel
theorem dX8_door_6 : decode cX8_door 6 = .ok (.iconst 0, 1) := by decide +kernel
theorem dX8_door_7 : decode cX8_door 7 = .ok (.bipush 7, 2) := by decide +kernel
theorem dX8_door_9 : decode cX8_door 9 = .ok (.invokestatic 41, 3) := by decide +kernel
theorem dX8_door_12 : decode cX8_door 12 = .ok (.aload_n 0, 1) := by decide +kernel
theorem dX8_door_13 : decode cX8_door 13 = .ok (.getfield 10, 3) := by decide +kernel
theorem dX8_door_16 : decode cX8_door 16 = .ok (.getfield 89, 3) := by decide +kernel
theorem dX8_door_19 : decode cX8_door 19 = .ok (.iload_n 1, 1) := by decide +kernel
theorem dX8_door_20 : decode cX8_door 20 = .ok (.aaload, 1) := by decide +kernel
theorem dX8_door_21 : decode cX8_door 21 = .ok (.iload_n 2, 1) := by decide +kernel
theorem dX8_door_22 : decode cX8_door 22 = .ok (.aload_n 0, 1) := by decide +kernel
theorem dX8_door_23 : decode cX8_door 23 = .ok (.getfield 10, 3) := by decide +kernel
theorem dX8_door_26 : decode cX8_door 26 = .ok (.getfield 129, 3) := by decide +kernel
theorem dX8_door_29 : decode cX8_door 29 = .ok (.invokevirtual 169, 3) := by decide +kernel
theorem dX8_door_32 : decode cX8_door 32 = .ok (.ireturn, 1) := by decide +kernel
theorem dX8_air_0 : decode cX8_air 0 = .ok (.iload_n 1, 1) := by decide +kernel
theorem dX8_air_1 : decode cX8_air 1 = .ok (.ifCond .lt 7, 3) := by decide +kernel
theorem dX8_air_4 : decode cX8_air 4 = .ok (.iconst 1, 1) := by decide +kernel
theorem dX8_air_5 : decode cX8_air 5 = .ok (.goto 4, 3) := by decide +kernel
theorem dX8_air_8 : decode cX8_air 8 = .ok (.iconst 0, 1) := by decide +kernel
theorem dX8_air_9 : decode cX8_air 9 = .ok (.invokestatic 151, 3) := by decide +kernel
theorem dX8_air_12 : decode cX8_air 12 = .ok (.aload_n 0, 1) := by decide +kernel
theorem dX8_air_13 : decode cX8_air 13 = .ok (.getfield 10, 3) := by decide +kernel
theorem dX8_air_16 : decode cX8_air 16 = .ok (.getfield 77, 3) := by decide +kernel
theorem dX8_air_19 : decode cX8_air 19 = .ok (.iload_n 1, 1) := by decide +kernel
theorem dX8_air_20 : decode cX8_air 20 = .ok (.invokevirtual 172, 3) := by decide +kernel
theorem dX8_air_23 : decode cX8_air 23 = .ok (.ireturn, 1) := by decide +kernel
theorem dX8_count_0 : decode cX8_count 0 = .ok (.iload_n 1, 1) := by decide +kernel
theorem dX8_count_1 : decode cX8_count 1 = .ok (.iconst 0, 1) := by decide +kernel
theorem dX8_count_2 : decode cX8_count 2 = .ok (.bipush 7, 2) := by decide +kernel
theorem dX8_count_4 : decode cX8_count 4 = .ok (.invokestatic 41, 3) := by decide +kernel
theorem dX8_count_7 : decode cX8_count 7 = .ok (.aload_n 0, 1) := by decide +kernel
theorem dX8_count_8 : decode cX8_count 8 = .ok (.iload_n 1, 1) := by decide +kernel
theorem dX8_count_9 : decode cX8_count 9 = .ok (.invokevirtual 175, 3) := by decide +kernel
theorem dX8_count_12 : decode cX8_count 12 = .ok (.ireturn, 1) := by decide +kernel
theorem dX8_setting_0 : decode cX8_setting 0 = .ok (.iload_n 1, 1) := by decide +kernel
theorem dX8_setting_1 : decode cX8_setting 1 = .ok (.iconst 3, 1) := by decide +kernel
theorem dX8_setting_2 : decode cX8_setting 2 = .ok (.invokestatic 37, 3) := by decide +kernel
theorem dX8_setting_5 : decode cX8_setting 5 = .ok (.aload_n 0, 1) := by decide +kernel
theorem dX8_setting_6 : decode cX8_setting 6 = .ok (.getfield 10, 3) := by decide +kernel
theorem dX8_setting_9 : decode cX8_setting 9 = .ok (.getfield 129, 3) := by decide +kernel
theorem dX8_setting_12 : decode cX8_setting 12 = .ok (.iload_n 1, 1) := by decide +kernel
theorem dX8_setting_13 : decode cX8_setting 13 = .ok (.invokevirtual 133, 3) := by decide +kernel
theorem dX8_setting_16 : decode cX8_setting 16 = .ok (.ireturn, 1) := by decide +kernel
theorem dX8_ifHeard_0 : decode cX8_ifHeard 0 = .ok (.iload_n 1, 1) := by decide +kernel
theorem dX8_ifHeard_1 : decode cX8_ifHeard 1 = .ok (.iconst 3, 1) := by decide +kernel
theorem dX8_ifHeard_2 : decode cX8_ifHeard 2 = .ok (.invokestatic 37, 3) := by decide +kernel
theorem dX8_ifHeard_5 : decode cX8_ifHeard 5 = .ok (.iload_n 2, 1) := by decide +kernel
theorem dX8_ifHeard_6 : decode cX8_ifHeard 6 = .ok (.iconst 0, 1) := by decide +kernel
theorem dX8_ifHeard_7 : decode cX8_ifHeard 7 = .ok (.ldc 178, 2) := by decide +kernel
theorem dX8_ifHeard_9 : decode cX8_ifHeard 9 = .ok (.invokestatic 41, 3) := by decide +kernel
theorem dX8_ifHeard_12 : decode cX8_ifHeard 12 = .ok (.aload_n 0, 1) := by decide +kernel
theorem dX8_ifHeard_13 : decode cX8_ifHeard 13 = .ok (.aload_n 0, 1) := by decide +kernel
theorem dX8_ifHeard_14 : decode cX8_ifHeard 14 = .ok (.getfield 10, 3) := by decide +kernel
theorem dX8_ifHeard_17 : decode cX8_ifHeard 17 = .ok (.getfield 89, 3) := by decide +kernel
theorem dX8_ifHeard_20 : decode cX8_ifHeard 20 = .ok (.iload_n 1, 1) := by decide +kernel
theorem dX8_ifHeard_21 : decode cX8_ifHeard 21 = .ok (.aaload, 1) := by decide +kernel
theorem dX8_ifHeard_22 : decode cX8_ifHeard 22 = .ok (.iload_n 2, 1) := by decide +kernel
theorem dX8_ifHeard_23 : decode cX8_ifHeard 23 = .ok (.invokevirtual 179, 3) := by decide +kernel
theorem dX8_ifHeard_26 : decode cX8_ifHeard 26 = .ok (.ireturn, 1) := by decide +kernel
theorem dX8_opensIn_0 : decode cX8_opensIn 0 = .ok (.iload_n 1, 1) := by decide +kernel
theorem dX8_opensIn_1 : decode cX8_opensIn 1 = .ok (.iconst 4, 1) := by decide +kernel
theorem dX8_opensIn_2 : decode cX8_opensIn 2 = .ok (.invokestatic 37, 3) := by decide +kernel
theorem dX8_opensIn_5 : decode cX8_opensIn 5 = .ok (.iload_n 2, 1) := by decide +kernel
theorem dX8_opensIn_6 : decode cX8_opensIn 6 = .ok (.iconst 3, 1) := by decide +kernel
theorem dX8_opensIn_7 : decode cX8_opensIn 7 = .ok (.invokestatic 37, 3) := by decide +kernel
theorem dX8_opensIn_10 : decode cX8_opensIn 10 = .ok (.aload_n 0, 1) := by decide +kernel
theorem dX8_opensIn_11 : decode cX8_opensIn 11 = .ok (.aload_n 0, 1) := by decide +kernel
theorem dX8_opensIn_12 : decode cX8_opensIn 12 = .ok (.getfield 10, 3) := by decide +kernel
theorem dX8_opensIn_15 : decode cX8_opensIn 15 = .ok (.getfield 49, 3) := by decide +kernel
theorem dX8_opensIn_18 : decode cX8_opensIn 18 = .ok (.iload_n 1, 1) := by decide +kernel
theorem dX8_opensIn_19 : decode cX8_opensIn 19 = .ok (.aaload, 1) := by decide +kernel
theorem dX8_opensIn_20 : decode cX8_opensIn 20 = .ok (.aload_n 0, 1) := by decide +kernel
theorem dX8_opensIn_21 : decode cX8_opensIn 21 = .ok (.getfield 10, 3) := by decide +kernel
theorem dX8_opensIn_24 : decode cX8_opensIn 24 = .ok (.getfield 89, 3) := by decide +kernel
theorem dX8_opensIn_27 : decode cX8_opensIn 27 = .ok (.iload_n 2, 1) := by decide +kernel
theorem dX8_opensIn_28 : decode cX8_opensIn 28 = .ok (.aaload, 1) := by decide +kernel
theorem dX8_opensIn_29 : decode cX8_opensIn 29 = .ok (.invokevirtual 183, 3) := by decide +kernel
theorem dX8_opensIn_32 : decode cX8_opensIn 32 = .ok (.ireturn, 1) := by decide +kernel
theorem dX8_unheard_0 : decode cX8_unheard 0 = .ok (.iload_n 1, 1) := by decide +kernel
theorem dX8_unheard_1 : decode cX8_unheard 1 = .ok (.iconst 4, 1) := by decide +kernel
theorem dX8_unheard_2 : decode cX8_unheard 2 = .ok (.invokestatic 37, 3) := by decide +kernel
theorem dX8_unheard_5 : decode cX8_unheard 5 = .ok (.iload_n 2, 1) := by decide +kernel
theorem dX8_unheard_6 : decode cX8_unheard 6 = .ok (.iconst 3, 1) := by decide +kernel
theorem dX8_unheard_7 : decode cX8_unheard 7 = .ok (.invokestatic 37, 3) := by decide +kernel
theorem dX8_unheard_10 : decode cX8_unheard 10 = .ok (.aload_n 0, 1) := by decide +kernel
theorem dX8_unheard_11 : decode cX8_unheard 11 = .ok (.aload_n 0, 1) := by decide +kernel
theorem dX8_unheard_12 : decode cX8_unheard 12 = .ok (.getfield 10, 3) := by decide +kernel
theorem dX8_unheard_15 : decode cX8_unheard 15 = .ok (.getfield 49, 3) := by decide +kernel
theorem dX8_unheard_18 : decode cX8_unheard 18 = .ok (.iload_n 1, 1) := by decide +kernel
theorem dX8_unheard_19 : decode cX8_unheard 19 = .ok (.aaload, 1) := by decide +kernel
theorem dX8_unheard_20 : decode cX8_unheard 20 = .ok (.aload_n 0, 1) := by decide +kernel
theorem dX8_unheard_21 : decode cX8_unheard 21 = .ok (.getfield 10, 3) := by decide +kernel
theorem dX8_unheard_24 : decode cX8_unheard 24 = .ok (.getfield 89, 3) := by decide +kernel
theorem dX8_unheard_27 : decode cX8_unheard 27 = .ok (.iload_n 2, 1) := by decide +kernel
theorem dX8_unheard_28 : decode cX8_unheard 28 = .ok (.aaload, 1) := by decide +kernel
theorem dX8_unheard_29 : decode cX8_unheard 29 = .ok (.invokevirtual 187, 3) := by decide +kernel
theorem dX8_unheard_32 : decode cX8_unheard 32 = .ok (.ireturn, 1) := by decide +kernel
theorem dX8_useful_0 : decode cX8_useful 0 = .ok (.iload_n 1, 1) := by decide +kernel
theorem dX8_useful_1 : decode cX8_useful 1 = .ok (.iconst 3, 1) := by decide +kernel
theorem dX8_useful_2 : decode cX8_useful 2 = .ok (.invokestatic 37, 3) := by decide +kernel
theorem dX8_useful_5 : decode cX8_useful 5 = .ok (.aload_n 0, 1) := by decide +kernel
theorem dX8_useful_6 : decode cX8_useful 6 = .ok (.aload_n 0, 1) := by decide +kernel
theorem dX8_useful_7 : decode cX8_useful 7 = .ok (.getfield 10, 3) := by decide +kernel
theorem dX8_useful_10 : decode cX8_useful 10 = .ok (.getfield 89, 3) := by decide +kernel
theorem dX8_useful_13 : decode cX8_useful 13 = .ok (.iload_n 1, 1) := by decide +kernel
theorem dX8_useful_14 : decode cX8_useful 14 = .ok (.aaload, 1) := by decide +kernel
theorem dX8_useful_15 : decode cX8_useful 15 = .ok (.invokevirtual 190, 3) := by decide +kernel
theorem dX8_useful_18 : decode cX8_useful 18 = .ok (.ireturn, 1) := by decide +kernel
theorem dX8_openShare_0 : decode cX8_openShare 0 = .ok (.aload_n 0, 1) := by decide +kernel
theorem dX8_openShare_1 : decode cX8_openShare 1 = .ok (.getfield 10, 3) := by decide +kernel
theorem dX8_openShare_4 : decode cX8_openShare 4 = .ok (.invokevirtual 194, 3) := by decide +kernel
theorem dX8_openShare_7 : decode cX8_openShare 7 = .ok (.istore_n 1, 1) := by decide +kernel
theorem dX8_openShare_8 : decode cX8_openShare 8 = .ok (.iload_n 1, 1) := by decide +kernel
theorem dX8_openShare_9 : decode cX8_openShare 9 = .ok (.aload_n 0, 1) := by decide +kernel
theorem dX8_openShare_10 : decode cX8_openShare 10 = .ok (.getfield 10, 3) := by decide +kernel
theorem dX8_openShare_13 : decode cX8_openShare 13 = .ok (.invokevirtual 197, 3) := by decide +kernel
theorem dX8_openShare_16 : decode cX8_openShare 16 = .ok (.iadd, 1) := by decide +kernel
theorem dX8_openShare_17 : decode cX8_openShare 17 = .ok (.istore_n 2, 1) := by decide +kernel
theorem dX8_openShare_18 : decode cX8_openShare 18 = .ok (.iload_n 2, 1) := by decide +kernel
theorem dX8_openShare_19 : decode cX8_openShare 19 = .ok (.ifCond .gt 5, 3) := by decide +kernel
theorem dX8_openShare_22 : decode cX8_openShare 22 = .ok (.dconst 1, 1) := by decide +kernel
theorem dX8_openShare_23 : decode cX8_openShare 23 = .ok (.dreturn, 1) := by decide +kernel
theorem dX8_openShare_24 : decode cX8_openShare 24 = .ok (.iload_n 1, 1) := by decide +kernel
theorem dX8_openShare_25 : decode cX8_openShare 25 = .ok (.i2d, 1) := by decide +kernel
theorem dX8_openShare_26 : decode cX8_openShare 26 = .ok (.iload_n 2, 1) := by decide +kernel
theorem dX8_openShare_27 : decode cX8_openShare 27 = .ok (.i2d, 1) := by decide +kernel
theorem dX8_openShare_28 : decode cX8_openShare 28 = .ok (.ddiv, 1) := by decide +kernel
theorem dX8_openShare_29 : decode cX8_openShare 29 = .ok (.dreturn, 1) := by decide +kernel
theorem dX8_digest_0 : decode cX8_digest 0 = .ok (.ldc2_w 200, 3) := by decide +kernel
theorem dX8_digest_3 : decode cX8_digest 3 = .ok (.lstore_n 1, 1) := by decide +kernel
theorem dX8_digest_4 : decode cX8_digest 4 = .ok (.iconst 0, 1) := by decide +kernel
theorem dX8_digest_5 : decode cX8_digest 5 = .ok (.istore_n 3, 1) := by decide +kernel
theorem dX8_digest_6 : decode cX8_digest 6 = .ok (.iload_n 3, 1) := by decide +kernel
theorem dX8_digest_7 : decode cX8_digest 7 = .ok (.bipush 8, 2) := by decide +kernel
theorem dX8_digest_9 : decode cX8_digest 9 = .ok (.if_icmp .ge 20, 3) := by decide +kernel
theorem dX8_digest_12 : decode cX8_digest 12 = .ok (.lload_n 1, 1) := by decide +kernel
theorem dX8_digest_13 : decode cX8_digest 13 = .ok (.aload_n 0, 1) := by decide +kernel
theorem dX8_digest_14 : decode cX8_digest 14 = .ok (.iload_n 3, 1) := by decide +kernel
theorem dX8_digest_15 : decode cX8_digest 15 = .ok (.invokevirtual 175, 3) := by decide +kernel
theorem dX8_digest_18 : decode cX8_digest 18 = .ok (.i2l, 1) := by decide +kernel
theorem dX8_digest_19 : decode cX8_digest 19 = .ok (.invokestatic 202, 3) := by decide +kernel
theorem dX8_digest_22 : decode cX8_digest 22 = .ok (.lstore_n 1, 1) := by decide +kernel
theorem dX8_digest_23 : decode cX8_digest 23 = .ok (.iinc 3 1, 3) := by decide +kernel
theorem dX8_digest_26 : decode cX8_digest 26 = .ok (.goto (-20), 3) := by decide +kernel
theorem dX8_digest_29 : decode cX8_digest 29 = .ok (.iconst 0, 1) := by decide +kernel
theorem dX8_digest_30 : decode cX8_digest 30 = .ok (.istore_n 3, 1) := by decide +kernel
theorem dX8_digest_31 : decode cX8_digest 31 = .ok (.iload_n 3, 1) := by decide +kernel
theorem dX8_digest_32 : decode cX8_digest 32 = .ok (.iconst 3, 1) := by decide +kernel
theorem dX8_digest_33 : decode cX8_digest 33 = .ok (.if_icmp .ge 26, 3) := by decide +kernel
theorem dX8_digest_36 : decode cX8_digest 36 = .ok (.lload_n 1, 1) := by decide +kernel
theorem dX8_digest_37 : decode cX8_digest 37 = .ok (.aload_n 0, 1) := by decide +kernel
theorem dX8_digest_38 : decode cX8_digest 38 = .ok (.getfield 10, 3) := by decide +kernel
theorem dX8_digest_41 : decode cX8_digest 41 = .ok (.getfield 129, 3) := by decide +kernel
theorem dX8_digest_44 : decode cX8_digest 44 = .ok (.iload_n 3, 1) := by decide +kernel
theorem dX8_digest_45 : decode cX8_digest 45 = .ok (.invokevirtual 133, 3) := by decide +kernel
theorem dX8_digest_48 : decode cX8_digest 48 = .ok (.i2l, 1) := by decide +kernel
theorem dX8_digest_49 : decode cX8_digest 49 = .ok (.invokestatic 202, 3) := by decide +kernel
theorem dX8_digest_52 : decode cX8_digest 52 = .ok (.lstore_n 1, 1) := by decide +kernel
theorem dX8_digest_53 : decode cX8_digest 53 = .ok (.iinc 3 1, 3) := by decide +kernel
theorem dX8_digest_56 : decode cX8_digest 56 = .ok (.goto (-25), 3) := by decide +kernel
theorem dX8_digest_59 : decode cX8_digest 59 = .ok (.aload_n 0, 1) := by decide +kernel
theorem dX8_digest_60 : decode cX8_digest 60 = .ok (.getfield 10, 3) := by decide +kernel
theorem dX8_digest_63 : decode cX8_digest 63 = .ok (.getfield 49, 3) := by decide +kernel
theorem dX8_digest_66 : decode cX8_digest 66 = .ok (.astore_n 3, 1) := by decide +kernel
theorem dX8_digest_67 : decode cX8_digest 67 = .ok (.aload_n 3, 1) := by decide +kernel
theorem dX8_digest_68 : decode cX8_digest 68 = .ok (.arraylength, 1) := by decide +kernel
theorem dX8_digest_69 : decode cX8_digest 69 = .ok (.istore 4, 2) := by decide +kernel
theorem dX8_digest_71 : decode cX8_digest 71 = .ok (.iconst 0, 1) := by decide +kernel
theorem dX8_digest_72 : decode cX8_digest 72 = .ok (.istore 5, 2) := by decide +kernel
theorem dX8_digest_74 : decode cX8_digest 74 = .ok (.iload 5, 2) := by decide +kernel
theorem dX8_digest_76 : decode cX8_digest 76 = .ok (.iload 4, 2) := by decide +kernel
theorem dX8_digest_78 : decode cX8_digest 78 = .ok (.if_icmp .ge 43, 3) := by decide +kernel
theorem dX8_digest_81 : decode cX8_digest 81 = .ok (.aload_n 3, 1) := by decide +kernel
theorem dX8_digest_82 : decode cX8_digest 82 = .ok (.iload 5, 2) := by decide +kernel
theorem dX8_digest_84 : decode cX8_digest 84 = .ok (.aaload, 1) := by decide +kernel
theorem dX8_digest_85 : decode cX8_digest 85 = .ok (.astore 6, 2) := by decide +kernel
theorem dX8_digest_87 : decode cX8_digest 87 = .ok (.iconst 0, 1) := by decide +kernel
theorem dX8_digest_88 : decode cX8_digest 88 = .ok (.istore 7, 2) := by decide +kernel
theorem dX8_digest_90 : decode cX8_digest 90 = .ok (.iload 7, 2) := by decide +kernel
theorem dX8_digest_92 : decode cX8_digest 92 = .ok (.iconst 5, 1) := by decide +kernel
theorem dX8_digest_93 : decode cX8_digest 93 = .ok (.if_icmp .ge 22, 3) := by decide +kernel
theorem dX8_digest_96 : decode cX8_digest 96 = .ok (.lload_n 1, 1) := by decide +kernel
theorem dX8_digest_97 : decode cX8_digest 97 = .ok (.aload 6, 2) := by decide +kernel
theorem dX8_digest_99 : decode cX8_digest 99 = .ok (.iload 7, 2) := by decide +kernel
theorem dX8_digest_101 : decode cX8_digest 101 = .ok (.invokevirtual 165, 3) := by decide +kernel
theorem dX8_digest_104 : decode cX8_digest 104 = .ok (.i2l, 1) := by decide +kernel
theorem dX8_digest_105 : decode cX8_digest 105 = .ok (.invokestatic 202, 3) := by decide +kernel
theorem dX8_digest_108 : decode cX8_digest 108 = .ok (.lstore_n 1, 1) := by decide +kernel
theorem dX8_digest_109 : decode cX8_digest 109 = .ok (.iinc 7 1, 3) := by decide +kernel
theorem dX8_digest_112 : decode cX8_digest 112 = .ok (.goto (-22), 3) := by decide +kernel
theorem dX8_digest_115 : decode cX8_digest 115 = .ok (.iinc 5 1, 3) := by decide +kernel
theorem dX8_digest_118 : decode cX8_digest 118 = .ok (.goto (-44), 3) := by decide +kernel
theorem dX8_digest_121 : decode cX8_digest 121 = .ok (.aload_n 0, 1) := by decide +kernel
theorem dX8_digest_122 : decode cX8_digest 122 = .ok (.getfield 10, 3) := by decide +kernel
theorem dX8_digest_125 : decode cX8_digest 125 = .ok (.getfield 89, 3) := by decide +kernel
theorem dX8_digest_128 : decode cX8_digest 128 = .ok (.astore_n 3, 1) := by decide +kernel
theorem dX8_digest_129 : decode cX8_digest 129 = .ok (.aload_n 3, 1) := by decide +kernel
theorem dX8_digest_130 : decode cX8_digest 130 = .ok (.arraylength, 1) := by decide +kernel
theorem dX8_digest_131 : decode cX8_digest 131 = .ok (.istore 4, 2) := by decide +kernel
theorem dX8_digest_133 : decode cX8_digest 133 = .ok (.iconst 0, 1) := by decide +kernel
theorem dX8_digest_134 : decode cX8_digest 134 = .ok (.istore 5, 2) := by decide +kernel
theorem dX8_digest_136 : decode cX8_digest 136 = .ok (.iload 5, 2) := by decide +kernel
theorem dX8_digest_138 : decode cX8_digest 138 = .ok (.iload 4, 2) := by decide +kernel
theorem dX8_digest_140 : decode cX8_digest 140 = .ok (.if_icmp .ge 23, 3) := by decide +kernel
theorem dX8_digest_143 : decode cX8_digest 143 = .ok (.aload_n 3, 1) := by decide +kernel
theorem dX8_digest_144 : decode cX8_digest 144 = .ok (.iload 5, 2) := by decide +kernel
theorem dX8_digest_146 : decode cX8_digest 146 = .ok (.aaload, 1) := by decide +kernel
theorem dX8_digest_147 : decode cX8_digest 147 = .ok (.astore 6, 2) := by decide +kernel
theorem dX8_digest_149 : decode cX8_digest 149 = .ok (.aload_n 0, 1) := by decide +kernel
theorem dX8_digest_150 : decode cX8_digest 150 = .ok (.lload_n 1, 1) := by decide +kernel
theorem dX8_digest_151 : decode cX8_digest 151 = .ok (.aload 6, 2) := by decide +kernel
theorem dX8_digest_153 : decode cX8_digest 153 = .ok (.invokevirtual 206, 3) := by decide +kernel
theorem dX8_digest_156 : decode cX8_digest 156 = .ok (.lstore_n 1, 1) := by decide +kernel
theorem dX8_digest_157 : decode cX8_digest 157 = .ok (.iinc 5 1, 3) := by decide +kernel
theorem dX8_digest_160 : decode cX8_digest 160 = .ok (.goto (-24), 3) := by decide +kernel
theorem dX8_digest_163 : decode cX8_digest 163 = .ok (.iconst 0, 1) := by decide +kernel
theorem dX8_digest_164 : decode cX8_digest 164 = .ok (.istore_n 3, 1) := by decide +kernel
theorem dX8_digest_165 : decode cX8_digest 165 = .ok (.iload_n 3, 1) := by decide +kernel
theorem dX8_digest_166 : decode cX8_digest 166 = .ok (.aload_n 0, 1) := by decide +kernel
theorem dX8_digest_167 : decode cX8_digest 167 = .ok (.getfield 10, 3) := by decide +kernel
theorem dX8_digest_170 : decode cX8_digest 170 = .ok (.getfield 77, 3) := by decide +kernel
theorem dX8_digest_173 : decode cX8_digest 173 = .ok (.getfield 81, 3) := by decide +kernel
theorem dX8_digest_176 : decode cX8_digest 176 = .ok (.if_icmp .ge 26, 3) := by decide +kernel
theorem dX8_digest_179 : decode cX8_digest 179 = .ok (.lload_n 1, 1) := by decide +kernel
theorem dX8_digest_180 : decode cX8_digest 180 = .ok (.aload_n 0, 1) := by decide +kernel
theorem dX8_digest_181 : decode cX8_digest 181 = .ok (.getfield 10, 3) := by decide +kernel
theorem dX8_digest_184 : decode cX8_digest 184 = .ok (.getfield 77, 3) := by decide +kernel
theorem dX8_digest_187 : decode cX8_digest 187 = .ok (.iload_n 3, 1) := by decide +kernel
theorem dX8_digest_188 : decode cX8_digest 188 = .ok (.invokevirtual 172, 3) := by decide +kernel
theorem dX8_digest_191 : decode cX8_digest 191 = .ok (.i2l, 1) := by decide +kernel
theorem dX8_digest_192 : decode cX8_digest 192 = .ok (.invokestatic 202, 3) := by decide +kernel
theorem dX8_digest_195 : decode cX8_digest 195 = .ok (.lstore_n 1, 1) := by decide +kernel
theorem dX8_digest_196 : decode cX8_digest 196 = .ok (.iinc 3 1, 3) := by decide +kernel
theorem dX8_digest_199 : decode cX8_digest 199 = .ok (.goto (-34), 3) := by decide +kernel
theorem dX8_digest_202 : decode cX8_digest 202 = .ok (.lload_n 1, 1) := by decide +kernel
theorem dX8_digest_203 : decode cX8_digest 203 = .ok (.aload_n 0, 1) := by decide +kernel
theorem dX8_digest_204 : decode cX8_digest 204 = .ok (.aload_n 0, 1) := by decide +kernel
theorem dX8_digest_205 : decode cX8_digest 205 = .ok (.getfield 10, 3) := by decide +kernel
theorem dX8_digest_208 : decode cX8_digest 208 = .ok (.getfield 89, 3) := by decide +kernel
theorem dX8_digest_211 : decode cX8_digest 211 = .ok (.iconst 0, 1) := by decide +kernel
theorem dX8_digest_212 : decode cX8_digest 212 = .ok (.aaload, 1) := by decide +kernel
theorem dX8_digest_213 : decode cX8_digest 213 = .ok (.sipush 7919, 3) := by decide +kernel
theorem dX8_digest_216 : decode cX8_digest 216 = .ok (.invokevirtual 179, 3) := by decide +kernel
theorem dX8_digest_219 : decode cX8_digest 219 = .ok (.i2l, 1) := by decide +kernel
theorem dX8_digest_220 : decode cX8_digest 220 = .ok (.invokestatic 202, 3) := by decide +kernel
theorem dX8_digest_223 : decode cX8_digest 223 = .ok (.lstore_n 1, 1) := by decide +kernel
theorem dX8_digest_224 : decode cX8_digest 224 = .ok (.lload_n 1, 1) := by decide +kernel
theorem dX8_digest_225 : decode cX8_digest 225 = .ok (.aload_n 0, 1) := by decide +kernel
theorem dX8_digest_226 : decode cX8_digest 226 = .ok (.invokevirtual 210, 3) := by decide +kernel
theorem dX8_digest_229 : decode cX8_digest 229 = .ok (.invokestatic 214, 3) := by decide +kernel
theorem dX8_digest_232 : decode cX8_digest 232 = .ok (.invokestatic 202, 3) := by decide +kernel
theorem dX8_digest_235 : decode cX8_digest 235 = .ok (.lstore_n 1, 1) := by decide +kernel
theorem dX8_digest_236 : decode cX8_digest 236 = .ok (.lload_n 1, 1) := by decide +kernel
theorem dX8_digest_237 : decode cX8_digest 237 = .ok (.aload_n 0, 1) := by decide +kernel
theorem dX8_digest_238 : decode cX8_digest 238 = .ok (.getfield 26, 3) := by decide +kernel
theorem dX8_digest_241 : decode cX8_digest 241 = .ok (.getfield 139, 3) := by decide +kernel
theorem dX8_digest_244 : decode cX8_digest 244 = .ok (.i2l, 1) := by decide +kernel
theorem dX8_digest_245 : decode cX8_digest 245 = .ok (.invokestatic 202, 3) := by decide +kernel
theorem dX8_digest_248 : decode cX8_digest 248 = .ok (.lstore_n 1, 1) := by decide +kernel
theorem dX8_digest_249 : decode cX8_digest 249 = .ok (.iconst 0, 1) := by decide +kernel
theorem dX8_digest_250 : decode cX8_digest 250 = .ok (.istore_n 3, 1) := by decide +kernel
theorem dX8_digest_251 : decode cX8_digest 251 = .ok (.iload_n 3, 1) := by decide +kernel
theorem dX8_digest_252 : decode cX8_digest 252 = .ok (.aload_n 0, 1) := by decide +kernel
theorem dX8_digest_253 : decode cX8_digest 253 = .ok (.getfield 26, 3) := by decide +kernel
theorem dX8_digest_256 : decode cX8_digest 256 = .ok (.getfield 139, 3) := by decide +kernel
theorem dX8_digest_259 : decode cX8_digest 259 = .ok (.if_icmp .ge 23, 3) := by decide +kernel
theorem dX8_digest_262 : decode cX8_digest 262 = .ok (.lload_n 1, 1) := by decide +kernel
theorem dX8_digest_263 : decode cX8_digest 263 = .ok (.aload_n 0, 1) := by decide +kernel
theorem dX8_digest_264 : decode cX8_digest 264 = .ok (.getfield 26, 3) := by decide +kernel
theorem dX8_digest_267 : decode cX8_digest 267 = .ok (.iload_n 3, 1) := by decide +kernel
theorem dX8_digest_268 : decode cX8_digest 268 = .ok (.invokevirtual 218, 3) := by decide +kernel
theorem dX8_digest_271 : decode cX8_digest 271 = .ok (.i2l, 1) := by decide +kernel
theorem dX8_digest_272 : decode cX8_digest 272 = .ok (.invokestatic 202, 3) := by decide +kernel
theorem dX8_digest_275 : decode cX8_digest 275 = .ok (.lstore_n 1, 1) := by decide +kernel
theorem dX8_digest_276 : decode cX8_digest 276 = .ok (.iinc 3 1, 3) := by decide +kernel
theorem dX8_digest_279 : decode cX8_digest 279 = .ok (.goto (-28), 3) := by decide +kernel
theorem dX8_digest_282 : decode cX8_digest 282 = .ok (.lload_n 1, 1) := by decide +kernel
theorem dX8_digest_283 : decode cX8_digest 283 = .ok (.lreturn, 1) := by decide +kernel
theorem dX8_needIndex_0 : decode cX8_needIndex 0 = .ok (.iload_n 0, 1) := by decide +kernel
theorem dX8_needIndex_1 : decode cX8_needIndex 1 = .ok (.ifCond .lt 8, 3) := by decide +kernel
theorem dX8_needIndex_4 : decode cX8_needIndex 4 = .ok (.iload_n 0, 1) := by decide +kernel
theorem dX8_needIndex_5 : decode cX8_needIndex 5 = .ok (.iload_n 1, 1) := by decide +kernel
theorem dX8_needIndex_6 : decode cX8_needIndex 6 = .ok (.if_icmp .lt 11, 3) := by decide +kernel
theorem dX8_needIndex_9 : decode cX8_needIndex 9 = .ok (.new 221, 3) := by decide +kernel
theorem dX8_needIndex_12 : decode cX8_needIndex 12 = .ok (.dup, 1) := by decide +kernel
theorem dX8_needIndex_13 : decode cX8_needIndex 13 = .ok (.invokespecial 223, 3) := by decide +kernel
theorem dX8_needIndex_16 : decode cX8_needIndex 16 = .ok (.athrow, 1) := by decide +kernel
theorem dX8_needIndex_17 : decode cX8_needIndex 17 = .ok (.return_, 1) := by decide +kernel
theorem dX8_needRange_0 : decode cX8_needRange 0 = .ok (.iload_n 0, 1) := by decide +kernel
theorem dX8_needRange_1 : decode cX8_needRange 1 = .ok (.iload_n 1, 1) := by decide +kernel
theorem dX8_needRange_2 : decode cX8_needRange 2 = .ok (.if_icmp .lt 12, 3) := by decide +kernel
theorem dX8_needRange_5 : decode cX8_needRange 5 = .ok (.iload_n 0, 1) := by decide +kernel
theorem dX8_needRange_6 : decode cX8_needRange 6 = .ok (.iload_n 2, 1) := by decide +kernel
theorem dX8_needRange_7 : decode cX8_needRange 7 = .ok (.if_icmp .gt 7, 3) := by decide +kernel
theorem dX8_needRange_10 : decode cX8_needRange 10 = .ok (.iconst 1, 1) := by decide +kernel
theorem dX8_needRange_11 : decode cX8_needRange 11 = .ok (.goto 4, 3) := by decide +kernel
theorem dX8_needRange_14 : decode cX8_needRange 14 = .ok (.iconst 0, 1) := by decide +kernel
theorem dX8_needRange_15 : decode cX8_needRange 15 = .ok (.invokestatic 151, 3) := by decide +kernel
theorem dX8_needRange_18 : decode cX8_needRange 18 = .ok (.return_, 1) := by decide +kernel
theorem dX8_needArgument_0 : decode cX8_needArgument 0 = .ok (.iload_n 0, 1) := by decide +kernel
theorem dX8_needArgument_1 : decode cX8_needArgument 1 = .ok (.ifCond .ne 11, 3) := by decide +kernel
theorem dX8_needArgument_4 : decode cX8_needArgument 4 = .ok (.new 224, 3) := by decide +kernel
theorem dX8_needArgument_7 : decode cX8_needArgument 7 = .ok (.dup, 1) := by decide +kernel
theorem dX8_needArgument_8 : decode cX8_needArgument 8 = .ok (.invokespecial 226, 3) := by decide +kernel
theorem dX8_needArgument_11 : decode cX8_needArgument 11 = .ok (.athrow, 1) := by decide +kernel
theorem dX8_needArgument_12 : decode cX8_needArgument 12 = .ok (.return_, 1) := by decide +kernel
theorem dX8_needState_0 : decode cX8_needState 0 = .ok (.iload_n 0, 1) := by decide +kernel
theorem dX8_needState_1 : decode cX8_needState 1 = .ok (.ifCond .ne 11, 3) := by decide +kernel
theorem dX8_needState_4 : decode cX8_needState 4 = .ok (.new 227, 3) := by decide +kernel
theorem dX8_needState_7 : decode cX8_needState 7 = .ok (.dup, 1) := by decide +kernel
theorem dX8_needState_8 : decode cX8_needState 8 = .ok (.invokespecial 229, 3) := by decide +kernel
theorem dX8_needState_11 : decode cX8_needState 11 = .ok (.athrow, 1) := by decide +kernel
theorem dX8_needState_12 : decode cX8_needState 12 = .ok (.return_, 1) := by decide +kernel
theorem dX8_numberOf_0 : decode cX8_numberOf 0 = .ok (.iload_n 1, 1) := by decide +kernel
theorem dX8_numberOf_1 : decode cX8_numberOf 1 = .ok (.ldc 230, 2) := by decide +kernel
theorem dX8_numberOf_3 : decode cX8_numberOf 3 = .ok (.imul, 1) := by decide +kernel
theorem dX8_numberOf_4 : decode cX8_numberOf 4 = .ok (.iload_n 0, 1) := by decide +kernel
theorem dX8_numberOf_5 : decode cX8_numberOf 5 = .ok (.sipush 7919, 3) := by decide +kernel
theorem dX8_numberOf_8 : decode cX8_numberOf 8 = .ok (.imul, 1) := by decide +kernel
theorem dX8_numberOf_9 : decode cX8_numberOf 9 = .ok (.iadd, 1) := by decide +kernel
theorem dX8_numberOf_10 : decode cX8_numberOf 10 = .ok (.iload_n 0, 1) := by decide +kernel
theorem dX8_numberOf_11 : decode cX8_numberOf 11 = .ok (.bipush 31, 2) := by decide +kernel
theorem dX8_numberOf_13 : decode cX8_numberOf 13 = .ok (.imul, 1) := by decide +kernel
theorem dX8_numberOf_14 : decode cX8_numberOf 14 = .ok (.iload_n 1, 1) := by decide +kernel
theorem dX8_numberOf_15 : decode cX8_numberOf 15 = .ok (.iadd, 1) := by decide +kernel
theorem dX8_numberOf_16 : decode cX8_numberOf 16 = .ok (.ixor, 1) := by decide +kernel
theorem dX8_numberOf_17 : decode cX8_numberOf 17 = .ok (.ldc 178, 2) := by decide +kernel
theorem dX8_numberOf_19 : decode cX8_numberOf 19 = .ok (.iand, 1) := by decide +kernel
theorem dX8_numberOf_20 : decode cX8_numberOf 20 = .ok (.ireturn, 1) := by decide +kernel
theorem dX8_counterBehind_0 : decode cX8_counterBehind 0 = .ok (.iload_n 0, 1) := by decide +kernel
theorem dX8_counterBehind_1 : decode cX8_counterBehind 1 = .ok (.sipush 9999, 3) := by decide +kernel
theorem dX8_counterBehind_4 : decode cX8_counterBehind 4 = .ok (.if_icmp .ge 9, 3) := by decide +kernel
theorem dX8_counterBehind_7 : decode cX8_counterBehind 7 = .ok (.iload_n 0, 1) := by decide +kernel
theorem dX8_counterBehind_8 : decode cX8_counterBehind 8 = .ok (.iconst 1, 1) := by decide +kernel
theorem dX8_counterBehind_9 : decode cX8_counterBehind 9 = .ok (.iadd, 1) := by decide +kernel
theorem dX8_counterBehind_10 : decode cX8_counterBehind 10 = .ok (.goto 4, 3) := by decide +kernel
theorem dX8_counterBehind_13 : decode cX8_counterBehind 13 = .ok (.iconst 0, 1) := by decide +kernel
theorem dX8_counterBehind_14 : decode cX8_counterBehind 14 = .ok (.ireturn, 1) := by decide +kernel
theorem dX8_playPart_0 : decode cX8_playPart 0 = .ok (.aload_n 0, 1) := by decide +kernel
theorem dX8_playPart_1 : decode cX8_playPart 1 = .ok (.getfield 26, 3) := by decide +kernel
theorem dX8_playPart_4 : decode cX8_playPart 4 = .ok (.iload_n 1, 1) := by decide +kernel
theorem dX8_playPart_5 : decode cX8_playPart 5 = .ok (.iconst 1, 1) := by decide +kernel
theorem dX8_playPart_6 : decode cX8_playPart 6 = .ok (.iadd, 1) := by decide +kernel
theorem dX8_playPart_7 : decode cX8_playPart 7 = .ok (.invokevirtual 231, 3) := by decide +kernel
theorem dX8_playPart_10 : decode cX8_playPart 10 = .ok (.istore_n 3, 1) := by decide +kernel
theorem dX8_playPart_11 : decode cX8_playPart 11 = .ok (.aload_n 0, 1) := by decide +kernel
theorem dX8_playPart_12 : decode cX8_playPart 12 = .ok (.getfield 26, 3) := by decide +kernel
theorem dX8_playPart_15 : decode cX8_playPart 15 = .ok (.iload_n 1, 1) := by decide +kernel
theorem dX8_playPart_16 : decode cX8_playPart 16 = .ok (.invokevirtual 218, 3) := by decide +kernel
theorem dX8_playPart_19 : decode cX8_playPart 19 = .ok (.lookupswitch 112 #[(99, 103), (102, 33), (114, 68)], 33) := by decide +kernel
theorem dX8_playPart_52 : decode cX8_playPart 52 = .ok (.aload_n 0, 1) := by decide +kernel
theorem dX8_playPart_53 : decode cX8_playPart 53 = .ok (.getfield 10, 3) := by decide +kernel
theorem dX8_playPart_56 : decode cX8_playPart 56 = .ok (.iload_n 3, 1) := by decide +kernel
theorem dX8_playPart_57 : decode cX8_playPart 57 = .ok (.invokevirtual 65, 3) := by decide +kernel
theorem dX8_playPart_60 : decode cX8_playPart 60 = .ok (.ifCond .ne 5, 3) := by decide +kernel
theorem dX8_playPart_63 : decode cX8_playPart 63 = .ok (.iconst 0, 1) := by decide +kernel
theorem dX8_playPart_64 : decode cX8_playPart 64 = .ok (.ireturn, 1) := by decide +kernel
theorem dX8_playPart_65 : decode cX8_playPart 65 = .ok (.aload_n 0, 1) := by decide +kernel
theorem dX8_playPart_66 : decode cX8_playPart 66 = .ok (.getfield 10, 3) := by decide +kernel
theorem dX8_playPart_69 : decode cX8_playPart 69 = .ok (.iload_n 3, 1) := by decide +kernel
theorem dX8_playPart_70 : decode cX8_playPart 70 = .ok (.aload_n 0, 1) := by decide +kernel
theorem dX8_playPart_71 : decode cX8_playPart 71 = .ok (.getfield 26, 3) := by decide +kernel
theorem dX8_playPart_74 : decode cX8_playPart 74 = .ok (.iload_n 1, 1) := by decide +kernel
theorem dX8_playPart_75 : decode cX8_playPart 75 = .ok (.iconst 2, 1) := by decide +kernel
theorem dX8_playPart_76 : decode cX8_playPart 76 = .ok (.iadd, 1) := by decide +kernel
theorem dX8_playPart_77 : decode cX8_playPart 77 = .ok (.iload_n 2, 1) := by decide +kernel
theorem dX8_playPart_78 : decode cX8_playPart 78 = .ok (.invokevirtual 234, 3) := by decide +kernel
theorem dX8_playPart_81 : decode cX8_playPart 81 = .ok (.invokevirtual 73, 3) := by decide +kernel
theorem dX8_playPart_84 : decode cX8_playPart 84 = .ok (.pop, 1) := by decide +kernel
theorem dX8_playPart_85 : decode cX8_playPart 85 = .ok (.iconst 1, 1) := by decide +kernel
theorem dX8_playPart_86 : decode cX8_playPart 86 = .ok (.ireturn, 1) := by decide +kernel
theorem dX8_playPart_87 : decode cX8_playPart 87 = .ok (.aload_n 0, 1) := by decide +kernel
theorem dX8_playPart_88 : decode cX8_playPart 88 = .ok (.getfield 10, 3) := by decide +kernel
theorem dX8_playPart_91 : decode cX8_playPart 91 = .ok (.iload_n 3, 1) := by decide +kernel
theorem dX8_playPart_92 : decode cX8_playPart 92 = .ok (.invokevirtual 237, 3) := by decide +kernel
theorem dX8_playPart_95 : decode cX8_playPart 95 = .ok (.ifCond .ne 5, 3) := by decide +kernel
theorem dX8_playPart_98 : decode cX8_playPart 98 = .ok (.iconst 0, 1) := by decide +kernel
theorem dX8_playPart_99 : decode cX8_playPart 99 = .ok (.ireturn, 1) := by decide +kernel
theorem dX8_playPart_100 : decode cX8_playPart 100 = .ok (.aload_n 0, 1) := by decide +kernel
theorem dX8_playPart_101 : decode cX8_playPart 101 = .ok (.getfield 10, 3) := by decide +kernel
theorem dX8_playPart_104 : decode cX8_playPart 104 = .ok (.iload_n 3, 1) := by decide +kernel
theorem dX8_playPart_105 : decode cX8_playPart 105 = .ok (.aload_n 0, 1) := by decide +kernel
theorem dX8_playPart_106 : decode cX8_playPart 106 = .ok (.getfield 26, 3) := by decide +kernel
theorem dX8_playPart_109 : decode cX8_playPart 109 = .ok (.iload_n 1, 1) := by decide +kernel
theorem dX8_playPart_110 : decode cX8_playPart 110 = .ok (.iconst 2, 1) := by decide +kernel
theorem dX8_playPart_111 : decode cX8_playPart 111 = .ok (.iadd, 1) := by decide +kernel
theorem dX8_playPart_112 : decode cX8_playPart 112 = .ok (.iload_n 2, 1) := by decide +kernel
theorem dX8_playPart_113 : decode cX8_playPart 113 = .ok (.invokevirtual 234, 3) := by decide +kernel
theorem dX8_playPart_116 : decode cX8_playPart 116 = .ok (.invokevirtual 86, 3) := by decide +kernel
theorem dX8_playPart_119 : decode cX8_playPart 119 = .ok (.pop, 1) := by decide +kernel
theorem dX8_playPart_120 : decode cX8_playPart 120 = .ok (.iconst 1, 1) := by decide +kernel
theorem dX8_playPart_121 : decode cX8_playPart 121 = .ok (.ireturn, 1) := by decide +kernel
theorem dX8_playPart_122 : decode cX8_playPart 122 = .ok (.aload_n 0, 1) := by decide +kernel
theorem dX8_playPart_123 : decode cX8_playPart 123 = .ok (.getfield 10, 3) := by decide +kernel
theorem dX8_playPart_126 : decode cX8_playPart 126 = .ok (.iload_n 3, 1) := by decide +kernel
theorem dX8_playPart_127 : decode cX8_playPart 127 = .ok (.invokevirtual 240, 3) := by decide +kernel
theorem dX8_playPart_130 : decode cX8_playPart 130 = .ok (.ireturn, 1) := by decide +kernel
theorem dX8_playPart_131 : decode cX8_playPart 131 = .ok (.iconst 0, 1) := by decide +kernel
theorem dX8_playPart_132 : decode cX8_playPart 132 = .ok (.ireturn, 1) := by decide +kernel
theorem dX8_counted_0 : decode cX8_counted 0 = .ok (.iload_n 1, 1) := by decide +kernel
theorem dX8_counted_1 : decode cX8_counted 1 = .ok (.tableswitch 114 0 7 #[47, 55, 63, 71, 79, 87, 95, 106], 47) := by decide +kernel
theorem dX8_counted_48 : decode cX8_counted 48 = .ok (.aload_n 0, 1) := by decide +kernel
theorem dX8_counted_49 : decode cX8_counted 49 = .ok (.getfield 10, 3) := by decide +kernel
theorem dX8_counted_52 : decode cX8_counted 52 = .ok (.invokevirtual 243, 3) := by decide +kernel
theorem dX8_counted_55 : decode cX8_counted 55 = .ok (.ireturn, 1) := by decide +kernel
theorem dX8_counted_56 : decode cX8_counted 56 = .ok (.aload_n 0, 1) := by decide +kernel
theorem dX8_counted_57 : decode cX8_counted 57 = .ok (.getfield 10, 3) := by decide +kernel
theorem dX8_counted_60 : decode cX8_counted 60 = .ok (.getfield 246, 3) := by decide +kernel
theorem dX8_counted_63 : decode cX8_counted 63 = .ok (.ireturn, 1) := by decide +kernel
theorem dX8_counted_64 : decode cX8_counted 64 = .ok (.aload_n 0, 1) := by decide +kernel
theorem dX8_counted_65 : decode cX8_counted 65 = .ok (.getfield 10, 3) := by decide +kernel
theorem dX8_counted_68 : decode cX8_counted 68 = .ok (.invokevirtual 194, 3) := by decide +kernel
theorem dX8_counted_71 : decode cX8_counted 71 = .ok (.ireturn, 1) := by decide +kernel
theorem dX8_counted_72 : decode cX8_counted 72 = .ok (.aload_n 0, 1) := by decide +kernel
theorem dX8_counted_73 : decode cX8_counted 73 = .ok (.getfield 10, 3) := by decide +kernel
theorem dX8_counted_76 : decode cX8_counted 76 = .ok (.getfield 249, 3) := by decide +kernel
theorem dX8_counted_79 : decode cX8_counted 79 = .ok (.ireturn, 1) := by decide +kernel
theorem dX8_counted_80 : decode cX8_counted 80 = .ok (.aload_n 0, 1) := by decide +kernel
theorem dX8_counted_81 : decode cX8_counted 81 = .ok (.getfield 10, 3) := by decide +kernel
theorem dX8_counted_84 : decode cX8_counted 84 = .ok (.invokevirtual 252, 3) := by decide +kernel
theorem dX8_counted_87 : decode cX8_counted 87 = .ok (.ireturn, 1) := by decide +kernel
theorem dX8_counted_88 : decode cX8_counted 88 = .ok (.aload_n 0, 1) := by decide +kernel
theorem dX8_counted_89 : decode cX8_counted 89 = .ok (.getfield 10, 3) := by decide +kernel
theorem dX8_counted_92 : decode cX8_counted 92 = .ok (.invokevirtual 255, 3) := by decide +kernel
theorem dX8_counted_95 : decode cX8_counted 95 = .ok (.ireturn, 1) := by decide +kernel
theorem dX8_counted_96 : decode cX8_counted 96 = .ok (.aload_n 0, 1) := by decide +kernel
theorem dX8_counted_97 : decode cX8_counted 97 = .ok (.getfield 10, 3) := by decide +kernel
theorem dX8_counted_100 : decode cX8_counted 100 = .ok (.getfield 77, 3) := by decide +kernel
theorem dX8_counted_103 : decode cX8_counted 103 = .ok (.getfield 81, 3) := by decide +kernel
theorem dX8_counted_106 : decode cX8_counted 106 = .ok (.ireturn, 1) := by decide +kernel
theorem dX8_counted_107 : decode cX8_counted 107 = .ok (.aload_n 0, 1) := by decide +kernel
theorem dX8_counted_108 : decode cX8_counted 108 = .ok (.getfield 19, 3) := by decide +kernel
theorem dX8_counted_111 : decode cX8_counted 111 = .ok (.getfield 161, 3) := by decide +kernel
theorem dX8_counted_114 : decode cX8_counted 114 = .ok (.ireturn, 1) := by decide +kernel
theorem dX8_counted_115 : decode cX8_counted 115 = .ok (.iconst (-1), 1) := by decide +kernel
theorem dX8_counted_116 : decode cX8_counted 116 = .ok (.ireturn, 1) := by decide +kernel
theorem dX8_tryNumber_0 : decode cX8_tryNumber 0 = .ok (.aload_n 0, 1) := by decide +kernel
theorem dX8_tryNumber_1 : decode cX8_tryNumber 1 = .ok (.getfield 33, 3) := by decide +kernel
theorem dX8_tryNumber_4 : decode cX8_tryNumber 4 = .ok (.aload_n 1, 1) := by decide +kernel
theorem dX8_tryNumber_5 : decode cX8_tryNumber 5 = .ok (.invokevirtual 258, 3) := by decide +kernel
theorem dX8_tryNumber_8 : decode cX8_tryNumber 8 = .ok (.aload_n 0, 1) := by decide +kernel
theorem dX8_tryNumber_9 : decode cX8_tryNumber 9 = .ok (.getfield 33, 3) := by decide +kernel
theorem dX8_tryNumber_12 : decode cX8_tryNumber 12 = .ok (.iload_n 2, 1) := by decide +kernel
theorem dX8_tryNumber_13 : decode cX8_tryNumber 13 = .ok (.aload_n 0, 1) := by decide +kernel
theorem dX8_tryNumber_14 : decode cX8_tryNumber 14 = .ok (.getfield 10, 3) := by decide +kernel
theorem dX8_tryNumber_17 : decode cX8_tryNumber 17 = .ok (.getfield 129, 3) := by decide +kernel
theorem dX8_tryNumber_20 : decode cX8_tryNumber 20 = .ok (.invokevirtual 262, 3) := by decide +kernel
theorem dX8_tryNumber_23 : decode cX8_tryNumber 23 = .ok (.ireturn, 1) := by decide +kernel
theorem dX8_pressesToOpen_0 : decode cX8_pressesToOpen 0 = .ok (.aload_n 0, 1) := by decide +kernel
theorem dX8_pressesToOpen_1 : decode cX8_pressesToOpen 1 = .ok (.getfield 33, 3) := by decide +kernel
theorem dX8_pressesToOpen_4 : decode cX8_pressesToOpen 4 = .ok (.aload_n 2, 1) := by decide +kernel
theorem dX8_pressesToOpen_5 : decode cX8_pressesToOpen 5 = .ok (.invokevirtual 258, 3) := by decide +kernel
theorem dX8_pressesToOpen_8 : decode cX8_pressesToOpen 8 = .ok (.bipush 50, 2) := by decide +kernel
theorem dX8_pressesToOpen_10 : decode cX8_pressesToOpen 10 = .ok (.aload_n 1, 1) := by decide +kernel
theorem dX8_pressesToOpen_11 : decode cX8_pressesToOpen 11 = .ok (.getfield 62, 3) := by decide +kernel
theorem dX8_pressesToOpen_14 : decode cX8_pressesToOpen 14 = .ok (.invokestatic 265, 3) := by decide +kernel
theorem dX8_pressesToOpen_17 : decode cX8_pressesToOpen 17 = .ok (.istore_n 3, 1) := by decide +kernel
theorem dX8_pressesToOpen_18 : decode cX8_pressesToOpen 18 = .ok (.aload_n 1, 1) := by decide +kernel
theorem dX8_pressesToOpen_19 : decode cX8_pressesToOpen 19 = .ok (.getfield 53, 3) := by decide +kernel
theorem dX8_pressesToOpen_22 : decode cX8_pressesToOpen 22 = .ok (.istore 4, 2) := by decide +kernel
theorem dX8_pressesToOpen_24 : decode cX8_pressesToOpen 24 = .ok (.iconst 1, 1) := by decide +kernel
theorem dX8_pressesToOpen_25 : decode cX8_pressesToOpen 25 = .ok (.istore 5, 2) := by decide +kernel
theorem dX8_pressesToOpen_27 : decode cX8_pressesToOpen 27 = .ok (.iload 5, 2) := by decide +kernel
theorem dX8_pressesToOpen_29 : decode cX8_pressesToOpen 29 = .ok (.iload_n 3, 1) := by decide +kernel
theorem dX8_pressesToOpen_30 : decode cX8_pressesToOpen 30 = .ok (.if_icmp .gt 57, 3) := by decide +kernel
theorem dX8_pressesToOpen_33 : decode cX8_pressesToOpen 33 = .ok (.iload 4, 2) := by decide +kernel
theorem dX8_pressesToOpen_35 : decode cX8_pressesToOpen 35 = .ok (.invokestatic 270, 3) := by decide +kernel
theorem dX8_pressesToOpen_38 : decode cX8_pressesToOpen 38 = .ok (.istore 4, 2) := by decide +kernel
theorem dX8_pressesToOpen_40 : decode cX8_pressesToOpen 40 = .ok (.aload_n 0, 1) := by decide +kernel
theorem dX8_pressesToOpen_41 : decode cX8_pressesToOpen 41 = .ok (.getfield 33, 3) := by decide +kernel
theorem dX8_pressesToOpen_44 : decode cX8_pressesToOpen 44 = .ok (.aload_n 1, 1) := by decide +kernel
theorem dX8_pressesToOpen_45 : decode cX8_pressesToOpen 45 = .ok (.getfield 59, 3) := by decide +kernel
theorem dX8_pressesToOpen_48 : decode cX8_pressesToOpen 48 = .ok (.iload 4, 2) := by decide +kernel
theorem dX8_pressesToOpen_50 : decode cX8_pressesToOpen 50 = .ok (.invokestatic 273, 3) := by decide +kernel
theorem dX8_pressesToOpen_53 : decode cX8_pressesToOpen 53 = .ok (.aload_n 0, 1) := by decide +kernel
theorem dX8_pressesToOpen_54 : decode cX8_pressesToOpen 54 = .ok (.getfield 10, 3) := by decide +kernel
theorem dX8_pressesToOpen_57 : decode cX8_pressesToOpen 57 = .ok (.getfield 129, 3) := by decide +kernel
theorem dX8_pressesToOpen_60 : decode cX8_pressesToOpen 60 = .ok (.invokevirtual 262, 3) := by decide +kernel
theorem dX8_pressesToOpen_63 : decode cX8_pressesToOpen 63 = .ok (.istore 6, 2) := by decide +kernel
theorem dX8_pressesToOpen_65 : decode cX8_pressesToOpen 65 = .ok (.iload 6, 2) := by decide +kernel
theorem dX8_pressesToOpen_67 : decode cX8_pressesToOpen 67 = .ok (.ifCond .ne 6, 3) := by decide +kernel
theorem dX8_pressesToOpen_70 : decode cX8_pressesToOpen 70 = .ok (.iload 5, 2) := by decide +kernel
theorem dX8_pressesToOpen_72 : decode cX8_pressesToOpen 72 = .ok (.ireturn, 1) := by decide +kernel
theorem dX8_pressesToOpen_73 : decode cX8_pressesToOpen 73 = .ok (.iload 6, 2) := by decide +kernel
theorem dX8_pressesToOpen_75 : decode cX8_pressesToOpen 75 = .ok (.iconst 3, 1) := by decide +kernel
theorem dX8_pressesToOpen_76 : decode cX8_pressesToOpen 76 = .ok (.if_icmp .ne 5, 3) := by decide +kernel
theorem dX8_pressesToOpen_79 : decode cX8_pressesToOpen 79 = .ok (.iconst (-1), 1) := by decide +kernel
theorem dX8_pressesToOpen_80 : decode cX8_pressesToOpen 80 = .ok (.ireturn, 1) := by decide +kernel
theorem dX8_pressesToOpen_81 : decode cX8_pressesToOpen 81 = .ok (.iinc 5 1, 3) := by decide +kernel
theorem dX8_pressesToOpen_84 : decode cX8_pressesToOpen 84 = .ok (.goto (-57), 3) := by decide +kernel
theorem dX8_pressesToOpen_87 : decode cX8_pressesToOpen 87 = .ok (.iconst (-1), 1) := by decide +kernel
theorem dX8_pressesToOpen_88 : decode cX8_pressesToOpen 88 = .ok (.ireturn, 1) := by decide +kernel
theorem dX8_mostUnheard_0 : decode cX8_mostUnheard 0 = .ok (.iconst (-1), 1) := by decide +kernel
theorem dX8_mostUnheard_1 : decode cX8_mostUnheard 1 = .ok (.istore_n 3, 1) := by decide +kernel
theorem dX8_mostUnheard_2 : decode cX8_mostUnheard 2 = .ok (.aload_n 1, 1) := by decide +kernel
theorem dX8_mostUnheard_3 : decode cX8_mostUnheard 3 = .ok (.getfield 53, 3) := by decide +kernel
theorem dX8_mostUnheard_6 : decode cX8_mostUnheard 6 = .ok (.istore 4, 2) := by decide +kernel
theorem dX8_mostUnheard_8 : decode cX8_mostUnheard 8 = .ok (.iconst 0, 1) := by decide +kernel
theorem dX8_mostUnheard_9 : decode cX8_mostUnheard 9 = .ok (.istore 5, 2) := by decide +kernel
theorem dX8_mostUnheard_11 : decode cX8_mostUnheard 11 = .ok (.iload 5, 2) := by decide +kernel
theorem dX8_mostUnheard_13 : decode cX8_mostUnheard 13 = .ok (.bipush 99, 2) := by decide +kernel
theorem dX8_mostUnheard_15 : decode cX8_mostUnheard 15 = .ok (.if_icmp .gt 38, 3) := by decide +kernel
theorem dX8_mostUnheard_18 : decode cX8_mostUnheard 18 = .ok (.iload 4, 2) := by decide +kernel
theorem dX8_mostUnheard_20 : decode cX8_mostUnheard 20 = .ok (.invokestatic 270, 3) := by decide +kernel
theorem dX8_mostUnheard_23 : decode cX8_mostUnheard 23 = .ok (.istore 4, 2) := by decide +kernel
theorem dX8_mostUnheard_25 : decode cX8_mostUnheard 25 = .ok (.aload_n 0, 1) := by decide +kernel
theorem dX8_mostUnheard_26 : decode cX8_mostUnheard 26 = .ok (.aload_n 2, 1) := by decide +kernel
theorem dX8_mostUnheard_27 : decode cX8_mostUnheard 27 = .ok (.aload_n 1, 1) := by decide +kernel
theorem dX8_mostUnheard_28 : decode cX8_mostUnheard 28 = .ok (.getfield 59, 3) := by decide +kernel
theorem dX8_mostUnheard_31 : decode cX8_mostUnheard 31 = .ok (.iload 4, 2) := by decide +kernel
theorem dX8_mostUnheard_33 : decode cX8_mostUnheard 33 = .ok (.invokestatic 273, 3) := by decide +kernel
theorem dX8_mostUnheard_36 : decode cX8_mostUnheard 36 = .ok (.invokevirtual 179, 3) := by decide +kernel
theorem dX8_mostUnheard_39 : decode cX8_mostUnheard 39 = .ok (.ifCond .eq 5, 3) := by decide +kernel
theorem dX8_mostUnheard_42 : decode cX8_mostUnheard 42 = .ok (.iload_n 3, 1) := by decide +kernel
theorem dX8_mostUnheard_43 : decode cX8_mostUnheard 43 = .ok (.ireturn, 1) := by decide +kernel
theorem dX8_mostUnheard_44 : decode cX8_mostUnheard 44 = .ok (.iload 5, 2) := by decide +kernel
theorem dX8_mostUnheard_46 : decode cX8_mostUnheard 46 = .ok (.istore_n 3, 1) := by decide +kernel
theorem dX8_mostUnheard_47 : decode cX8_mostUnheard 47 = .ok (.iinc 5 1, 3) := by decide +kernel
theorem dX8_mostUnheard_50 : decode cX8_mostUnheard 50 = .ok (.goto (-39), 3) := by decide +kernel
theorem dX8_mostUnheard_53 : decode cX8_mostUnheard 53 = .ok (.iload_n 3, 1) := by decide +kernel
theorem dX8_mostUnheard_54 : decode cX8_mostUnheard 54 = .ok (.ireturn, 1) := by decide +kernel
theorem dX8_firstUseful_0 : decode cX8_firstUseful 0 = .ok (.iconst 0, 1) := by decide +kernel
theorem dX8_firstUseful_1 : decode cX8_firstUseful 1 = .ok (.istore_n 2, 1) := by decide +kernel
theorem dX8_firstUseful_2 : decode cX8_firstUseful 2 = .ok (.iload_n 2, 1) := by decide +kernel
theorem dX8_firstUseful_3 : decode cX8_firstUseful 3 = .ok (.aload_n 0, 1) := by decide +kernel
theorem dX8_firstUseful_4 : decode cX8_firstUseful 4 = .ok (.getfield 10, 3) := by decide +kernel
theorem dX8_firstUseful_7 : decode cX8_firstUseful 7 = .ok (.getfield 77, 3) := by decide +kernel
theorem dX8_firstUseful_10 : decode cX8_firstUseful 10 = .ok (.getfield 81, 3) := by decide +kernel
theorem dX8_firstUseful_13 : decode cX8_firstUseful 13 = .ok (.if_icmp .ge 30, 3) := by decide +kernel
theorem dX8_firstUseful_16 : decode cX8_firstUseful 16 = .ok (.aload_n 0, 1) := by decide +kernel
theorem dX8_firstUseful_17 : decode cX8_firstUseful 17 = .ok (.aload_n 1, 1) := by decide +kernel
theorem dX8_firstUseful_18 : decode cX8_firstUseful 18 = .ok (.aload_n 0, 1) := by decide +kernel
theorem dX8_firstUseful_19 : decode cX8_firstUseful 19 = .ok (.getfield 10, 3) := by decide +kernel
theorem dX8_firstUseful_22 : decode cX8_firstUseful 22 = .ok (.getfield 77, 3) := by decide +kernel
theorem dX8_firstUseful_25 : decode cX8_firstUseful 25 = .ok (.iload_n 2, 1) := by decide +kernel
theorem dX8_firstUseful_26 : decode cX8_firstUseful 26 = .ok (.invokevirtual 172, 3) := by decide +kernel
theorem dX8_firstUseful_29 : decode cX8_firstUseful 29 = .ok (.invokevirtual 179, 3) := by decide +kernel
theorem dX8_firstUseful_32 : decode cX8_firstUseful 32 = .ok (.ifCond .ne 5, 3) := by decide +kernel
theorem dX8_firstUseful_35 : decode cX8_firstUseful 35 = .ok (.iload_n 2, 1) := by decide +kernel
theorem dX8_firstUseful_36 : decode cX8_firstUseful 36 = .ok (.ireturn, 1) := by decide +kernel
theorem dX8_firstUseful_37 : decode cX8_firstUseful 37 = .ok (.iinc 2 1, 3) := by decide +kernel
theorem dX8_firstUseful_40 : decode cX8_firstUseful 40 = .ok (.goto (-38), 3) := by decide +kernel
theorem dX8_firstUseful_43 : decode cX8_firstUseful 43 = .ok (.iconst (-1), 1) := by decide +kernel
theorem dX8_firstUseful_44 : decode cX8_firstUseful 44 = .ok (.ireturn, 1) := by decide +kernel
theorem dX8_mixed_0 : decode cX8_mixed 0 = .ok (.ldc2_w 276, 3) := by decide +kernel
theorem dX8_mixed_3 : decode cX8_mixed 3 = .ok (.lload_n 0, 1) := by decide +kernel
theorem dX8_mixed_4 : decode cX8_mixed 4 = .ok (.lmul, 1) := by decide +kernel
theorem dX8_mixed_5 : decode cX8_mixed 5 = .ok (.lload_n 2, 1) := by decide +kernel
theorem dX8_mixed_6 : decode cX8_mixed 6 = .ok (.ladd, 1) := by decide +kernel
theorem dX8_mixed_7 : decode cX8_mixed 7 = .ok (.lreturn, 1) := by decide +kernel
theorem dX8_mixedDoor_0 : decode cX8_mixedDoor 0 = .ok (.lload_n 1, 1) := by decide +kernel
theorem dX8_mixedDoor_1 : decode cX8_mixedDoor 1 = .ok (.lstore 4, 2) := by decide +kernel
theorem dX8_mixedDoor_3 : decode cX8_mixedDoor 3 = .ok (.iconst 0, 1) := by decide +kernel
theorem dX8_mixedDoor_4 : decode cX8_mixedDoor 4 = .ok (.istore 6, 2) := by decide +kernel
theorem dX8_mixedDoor_6 : decode cX8_mixedDoor 6 = .ok (.iload 6, 2) := by decide +kernel
theorem dX8_mixedDoor_8 : decode cX8_mixedDoor 8 = .ok (.bipush 8, 2) := by decide +kernel
theorem dX8_mixedDoor_10 : decode cX8_mixedDoor 10 = .ok (.if_icmp .ge 30, 3) := by decide +kernel
theorem dX8_mixedDoor_13 : decode cX8_mixedDoor 13 = .ok (.lload 4, 2) := by decide +kernel
theorem dX8_mixedDoor_15 : decode cX8_mixedDoor 15 = .ok (.aload_n 3, 1) := by decide +kernel
theorem dX8_mixedDoor_16 : decode cX8_mixedDoor 16 = .ok (.iload 6, 2) := by decide +kernel
theorem dX8_mixedDoor_18 : decode cX8_mixedDoor 18 = .ok (.aload_n 0, 1) := by decide +kernel
theorem dX8_mixedDoor_19 : decode cX8_mixedDoor 19 = .ok (.getfield 10, 3) := by decide +kernel
theorem dX8_mixedDoor_22 : decode cX8_mixedDoor 22 = .ok (.getfield 129, 3) := by decide +kernel
theorem dX8_mixedDoor_25 : decode cX8_mixedDoor 25 = .ok (.invokevirtual 169, 3) := by decide +kernel
theorem dX8_mixedDoor_28 : decode cX8_mixedDoor 28 = .ok (.i2l, 1) := by decide +kernel
theorem dX8_mixedDoor_29 : decode cX8_mixedDoor 29 = .ok (.invokestatic 202, 3) := by decide +kernel
theorem dX8_mixedDoor_32 : decode cX8_mixedDoor 32 = .ok (.lstore 4, 2) := by decide +kernel
theorem dX8_mixedDoor_34 : decode cX8_mixedDoor 34 = .ok (.iinc 6 1, 3) := by decide +kernel
theorem dX8_mixedDoor_37 : decode cX8_mixedDoor 37 = .ok (.goto (-31), 3) := by decide +kernel
theorem dX8_mixedDoor_40 : decode cX8_mixedDoor 40 = .ok (.aload_n 3, 1) := by decide +kernel
theorem dX8_mixedDoor_41 : decode cX8_mixedDoor 41 = .ok (.getfield 93, 3) := by decide +kernel
theorem dX8_mixedDoor_44 : decode cX8_mixedDoor 44 = .ok (.astore 6, 2) := by decide +kernel
theorem dX8_mixedDoor_46 : decode cX8_mixedDoor 46 = .ok (.aload 6, 2) := by decide +kernel
theorem dX8_mixedDoor_48 : decode cX8_mixedDoor 48 = .ok (.arraylength, 1) := by decide +kernel
theorem dX8_mixedDoor_49 : decode cX8_mixedDoor 49 = .ok (.istore 7, 2) := by decide +kernel
theorem dX8_mixedDoor_51 : decode cX8_mixedDoor 51 = .ok (.iconst 0, 1) := by decide +kernel
theorem dX8_mixedDoor_52 : decode cX8_mixedDoor 52 = .ok (.istore 8, 2) := by decide +kernel
theorem dX8_mixedDoor_54 : decode cX8_mixedDoor 54 = .ok (.iload 8, 2) := by decide +kernel
theorem dX8_mixedDoor_56 : decode cX8_mixedDoor 56 = .ok (.iload 7, 2) := by decide +kernel
theorem dX8_mixedDoor_58 : decode cX8_mixedDoor 58 = .ok (.if_icmp .ge 46, 3) := by decide +kernel
theorem dX8_mixedDoor_61 : decode cX8_mixedDoor 61 = .ok (.aload 6, 2) := by decide +kernel
theorem dX8_mixedDoor_63 : decode cX8_mixedDoor 63 = .ok (.iload 8, 2) := by decide +kernel
theorem dX8_mixedDoor_65 : decode cX8_mixedDoor 65 = .ok (.aaload, 1) := by decide +kernel
theorem dX8_mixedDoor_66 : decode cX8_mixedDoor 66 = .ok (.astore 9, 2) := by decide +kernel
theorem dX8_mixedDoor_68 : decode cX8_mixedDoor 68 = .ok (.iconst 0, 1) := by decide +kernel
theorem dX8_mixedDoor_69 : decode cX8_mixedDoor 69 = .ok (.istore 10, 2) := by decide +kernel
theorem dX8_mixedDoor_71 : decode cX8_mixedDoor 71 = .ok (.iload 10, 2) := by decide +kernel
theorem dX8_mixedDoor_73 : decode cX8_mixedDoor 73 = .ok (.iconst 4, 1) := by decide +kernel
theorem dX8_mixedDoor_74 : decode cX8_mixedDoor 74 = .ok (.if_icmp .ge 24, 3) := by decide +kernel
theorem dX8_mixedDoor_77 : decode cX8_mixedDoor 77 = .ok (.lload 4, 2) := by decide +kernel
theorem dX8_mixedDoor_79 : decode cX8_mixedDoor 79 = .ok (.aload 9, 2) := by decide +kernel
theorem dX8_mixedDoor_81 : decode cX8_mixedDoor 81 = .ok (.iload 10, 2) := by decide +kernel
theorem dX8_mixedDoor_83 : decode cX8_mixedDoor 83 = .ok (.invokevirtual 168, 3) := by decide +kernel
theorem dX8_mixedDoor_86 : decode cX8_mixedDoor 86 = .ok (.i2l, 1) := by decide +kernel
theorem dX8_mixedDoor_87 : decode cX8_mixedDoor 87 = .ok (.invokestatic 202, 3) := by decide +kernel
theorem dX8_mixedDoor_90 : decode cX8_mixedDoor 90 = .ok (.lstore 4, 2) := by decide +kernel
theorem dX8_mixedDoor_92 : decode cX8_mixedDoor 92 = .ok (.iinc 10 1, 3) := by decide +kernel
theorem dX8_mixedDoor_95 : decode cX8_mixedDoor 95 = .ok (.goto (-24), 3) := by decide +kernel
theorem dX8_mixedDoor_98 : decode cX8_mixedDoor 98 = .ok (.iinc 8 1, 3) := by decide +kernel
theorem dX8_mixedDoor_101 : decode cX8_mixedDoor 101 = .ok (.goto (-47), 3) := by decide +kernel
theorem dX8_mixedDoor_104 : decode cX8_mixedDoor 104 = .ok (.lload 4, 2) := by decide +kernel
theorem dX8_mixedDoor_106 : decode cX8_mixedDoor 106 = .ok (.aload_n 0, 1) := by decide +kernel
theorem dX8_mixedDoor_107 : decode cX8_mixedDoor 107 = .ok (.aload_n 3, 1) := by decide +kernel
theorem dX8_mixedDoor_108 : decode cX8_mixedDoor 108 = .ok (.invokevirtual 190, 3) := by decide +kernel
theorem dX8_mixedDoor_111 : decode cX8_mixedDoor 111 = .ok (.i2l, 1) := by decide +kernel
theorem dX8_mixedDoor_112 : decode cX8_mixedDoor 112 = .ok (.invokestatic 202, 3) := by decide +kernel
theorem dX8_mixedDoor_115 : decode cX8_mixedDoor 115 = .ok (.lstore 4, 2) := by decide +kernel
theorem dX8_mixedDoor_117 : decode cX8_mixedDoor 117 = .ok (.aload_n 0, 1) := by decide +kernel
theorem dX8_mixedDoor_118 : decode cX8_mixedDoor 118 = .ok (.getfield 10, 3) := by decide +kernel
theorem dX8_mixedDoor_121 : decode cX8_mixedDoor 121 = .ok (.getfield 49, 3) := by decide +kernel
theorem dX8_mixedDoor_124 : decode cX8_mixedDoor 124 = .ok (.astore 6, 2) := by decide +kernel
theorem dX8_mixedDoor_126 : decode cX8_mixedDoor 126 = .ok (.aload 6, 2) := by decide +kernel
theorem dX8_mixedDoor_128 : decode cX8_mixedDoor 128 = .ok (.arraylength, 1) := by decide +kernel
theorem dX8_mixedDoor_129 : decode cX8_mixedDoor 129 = .ok (.istore 7, 2) := by decide +kernel
theorem dX8_mixedDoor_131 : decode cX8_mixedDoor 131 = .ok (.iconst 0, 1) := by decide +kernel
theorem dX8_mixedDoor_132 : decode cX8_mixedDoor 132 = .ok (.istore 8, 2) := by decide +kernel
theorem dX8_mixedDoor_134 : decode cX8_mixedDoor 134 = .ok (.iload 8, 2) := by decide +kernel
theorem dX8_mixedDoor_136 : decode cX8_mixedDoor 136 = .ok (.iload 7, 2) := by decide +kernel
theorem dX8_mixedDoor_138 : decode cX8_mixedDoor 138 = .ok (.if_icmp .ge 46, 3) := by decide +kernel
theorem dX8_mixedDoor_141 : decode cX8_mixedDoor 141 = .ok (.aload 6, 2) := by decide +kernel
theorem dX8_mixedDoor_143 : decode cX8_mixedDoor 143 = .ok (.iload 8, 2) := by decide +kernel
theorem dX8_mixedDoor_145 : decode cX8_mixedDoor 145 = .ok (.aaload, 1) := by decide +kernel
theorem dX8_mixedDoor_146 : decode cX8_mixedDoor 146 = .ok (.astore 9, 2) := by decide +kernel
theorem dX8_mixedDoor_148 : decode cX8_mixedDoor 148 = .ok (.lload 4, 2) := by decide +kernel
theorem dX8_mixedDoor_150 : decode cX8_mixedDoor 150 = .ok (.aload_n 0, 1) := by decide +kernel
theorem dX8_mixedDoor_151 : decode cX8_mixedDoor 151 = .ok (.aload 9, 2) := by decide +kernel
theorem dX8_mixedDoor_153 : decode cX8_mixedDoor 153 = .ok (.aload_n 3, 1) := by decide +kernel
theorem dX8_mixedDoor_154 : decode cX8_mixedDoor 154 = .ok (.invokevirtual 183, 3) := by decide +kernel
theorem dX8_mixedDoor_157 : decode cX8_mixedDoor 157 = .ok (.i2l, 1) := by decide +kernel
theorem dX8_mixedDoor_158 : decode cX8_mixedDoor 158 = .ok (.invokestatic 202, 3) := by decide +kernel
theorem dX8_mixedDoor_161 : decode cX8_mixedDoor 161 = .ok (.lstore 4, 2) := by decide +kernel
theorem dX8_mixedDoor_163 : decode cX8_mixedDoor 163 = .ok (.lload 4, 2) := by decide +kernel
theorem dX8_mixedDoor_165 : decode cX8_mixedDoor 165 = .ok (.aload_n 0, 1) := by decide +kernel
theorem dX8_mixedDoor_166 : decode cX8_mixedDoor 166 = .ok (.aload 9, 2) := by decide +kernel
theorem dX8_mixedDoor_168 : decode cX8_mixedDoor 168 = .ok (.aload_n 3, 1) := by decide +kernel
theorem dX8_mixedDoor_169 : decode cX8_mixedDoor 169 = .ok (.invokevirtual 187, 3) := by decide +kernel
theorem dX8_mixedDoor_172 : decode cX8_mixedDoor 172 = .ok (.i2l, 1) := by decide +kernel
theorem dX8_mixedDoor_173 : decode cX8_mixedDoor 173 = .ok (.invokestatic 202, 3) := by decide +kernel
theorem dX8_mixedDoor_176 : decode cX8_mixedDoor 176 = .ok (.lstore 4, 2) := by decide +kernel
theorem dX8_mixedDoor_178 : decode cX8_mixedDoor 178 = .ok (.iinc 8 1, 3) := by decide +kernel
theorem dX8_mixedDoor_181 : decode cX8_mixedDoor 181 = .ok (.goto (-47), 3) := by decide +kernel
theorem dX8_mixedDoor_184 : decode cX8_mixedDoor 184 = .ok (.lload 4, 2) := by decide +kernel
theorem dX8_mixedDoor_186 : decode cX8_mixedDoor 186 = .ok (.lreturn, 1) := by decide +kernel
theorem dX8_shareBits_0 : decode cX8_shareBits 0 = .ok (.dload_n 0, 1) := by decide +kernel
theorem dX8_shareBits_1 : decode cX8_shareBits 1 = .ok (.dconst 0, 1) := by decide +kernel
theorem dX8_shareBits_2 : decode cX8_shareBits 2 = .ok (.dcmp .g, 1) := by decide +kernel
theorem dX8_shareBits_3 : decode cX8_shareBits 3 = .ok (.ifCond .gt 5, 3) := by decide +kernel
theorem dX8_shareBits_6 : decode cX8_shareBits 6 = .ok (.lconst 0, 1) := by decide +kernel
theorem dX8_shareBits_7 : decode cX8_shareBits 7 = .ok (.lreturn, 1) := by decide +kernel
theorem dX8_shareBits_8 : decode cX8_shareBits 8 = .ok (.dload_n 0, 1) := by decide +kernel
theorem dX8_shareBits_9 : decode cX8_shareBits 9 = .ok (.dstore_n 2, 1) := by decide +kernel
theorem dX8_shareBits_10 : decode cX8_shareBits 10 = .ok (.ldc2_w 278, 3) := by decide +kernel
theorem dX8_shareBits_13 : decode cX8_shareBits 13 = .ok (.lstore 4, 2) := by decide +kernel
theorem dX8_shareBits_15 : decode cX8_shareBits 15 = .ok (.dload_n 2, 1) := by decide +kernel
theorem dX8_shareBits_16 : decode cX8_shareBits 16 = .ok (.dconst 1, 1) := by decide +kernel
theorem dX8_shareBits_17 : decode cX8_shareBits 17 = .ok (.dcmp .g, 1) := by decide +kernel
theorem dX8_shareBits_18 : decode cX8_shareBits 18 = .ok (.ifCond .ge 25, 3) := by decide +kernel
theorem dX8_shareBits_21 : decode cX8_shareBits 21 = .ok (.lload 4, 2) := by decide +kernel
theorem dX8_shareBits_23 : decode cX8_shareBits 23 = .ok (.lconst 1, 1) := by decide +kernel
theorem dX8_shareBits_24 : decode cX8_shareBits 24 = .ok (.lcmp, 1) := by decide +kernel
theorem dX8_shareBits_25 : decode cX8_shareBits 25 = .ok (.ifCond .le 18, 3) := by decide +kernel
theorem dX8_shareBits_28 : decode cX8_shareBits 28 = .ok (.dload_n 2, 1) := by decide +kernel
theorem dX8_shareBits_29 : decode cX8_shareBits 29 = .ok (.ldc2_w 280, 3) := by decide +kernel
theorem dX8_shareBits_32 : decode cX8_shareBits 32 = .ok (.dmul, 1) := by decide +kernel
theorem dX8_shareBits_33 : decode cX8_shareBits 33 = .ok (.dstore_n 2, 1) := by decide +kernel
theorem dX8_shareBits_34 : decode cX8_shareBits 34 = .ok (.lload 4, 2) := by decide +kernel
theorem dX8_shareBits_36 : decode cX8_shareBits 36 = .ok (.lconst 1, 1) := by decide +kernel
theorem dX8_shareBits_37 : decode cX8_shareBits 37 = .ok (.lsub, 1) := by decide +kernel
theorem dX8_shareBits_38 : decode cX8_shareBits 38 = .ok (.lstore 4, 2) := by decide +kernel
theorem dX8_shareBits_40 : decode cX8_shareBits 40 = .ok (.goto (-25), 3) := by decide +kernel
theorem dX8_shareBits_43 : decode cX8_shareBits 43 = .ok (.lload 4, 2) := by decide +kernel
theorem dX8_shareBits_45 : decode cX8_shareBits 45 = .ok (.bipush 52, 2) := by decide +kernel
theorem dX8_shareBits_47 : decode cX8_shareBits 47 = .ok (.lshl, 1) := by decide +kernel
theorem dX8_shareBits_48 : decode cX8_shareBits 48 = .ok (.dload_n 2, 1) := by decide +kernel
theorem dX8_shareBits_49 : decode cX8_shareBits 49 = .ok (.dconst 1, 1) := by decide +kernel
theorem dX8_shareBits_50 : decode cX8_shareBits 50 = .ok (.dsub, 1) := by decide +kernel
theorem dX8_shareBits_51 : decode cX8_shareBits 51 = .ok (.ldc2_w 282, 3) := by decide +kernel
theorem dX8_shareBits_54 : decode cX8_shareBits 54 = .ok (.dmul, 1) := by decide +kernel
theorem dX8_shareBits_55 : decode cX8_shareBits 55 = .ok (.d2l, 1) := by decide +kernel
theorem dX8_shareBits_56 : decode cX8_shareBits 56 = .ok (.ladd, 1) := by decide +kernel
theorem dX8_shareBits_57 : decode cX8_shareBits 57 = .ok (.lreturn, 1) := by decide +kernel
end
section
theorem dX9_init_0 : decode cX9_init 0 = .ok (.aload_n 0, 1) := by decide +kernel
theorem dX9_init_1 : decode cX9_init 1 = .ok (.invokespecial 1, 3) := by decide +kernel
theorem dX9_init_4 : decode cX9_init 4 = .ok (.aload_n 0, 1) := by decide +kernel
theorem dX9_init_5 : decode cX9_init 5 = .ok (.bipush 96, 2) := by decide +kernel
theorem dX9_init_7 : decode cX9_init 7 = .ok (.newarray .int, 2) := by decide +kernel
theorem dX9_init_9 : decode cX9_init 9 = .ok (.putfield 7, 3) := by decide +kernel
theorem dX9_init_12 : decode cX9_init 12 = .ok (.aload_n 0, 1) := by decide +kernel
theorem dX9_init_13 : decode cX9_init 13 = .ok (.bipush 96, 2) := by decide +kernel
theorem dX9_init_15 : decode cX9_init 15 = .ok (.newarray .int, 2) := by decide +kernel
theorem dX9_init_17 : decode cX9_init 17 = .ok (.putfield 13, 3) := by decide +kernel
theorem dX9_init_20 : decode cX9_init 20 = .ok (.aload_n 0, 1) := by decide +kernel
theorem dX9_init_21 : decode cX9_init 21 = .ok (.sipush 576, 3) := by decide +kernel
theorem dX9_init_24 : decode cX9_init 24 = .ok (.newarray .int, 2) := by decide +kernel
theorem dX9_init_26 : decode cX9_init 26 = .ok (.putfield 16, 3) := by decide +kernel
theorem dX9_init_29 : decode cX9_init 29 = .ok (.aload_n 0, 1) := by decide +kernel
theorem dX9_init_30 : decode cX9_init 30 = .ok (.bipush 60, 2) := by decide +kernel
theorem dX9_init_32 : decode cX9_init 32 = .ok (.newarray .int, 2) := by decide +kernel
theorem dX9_init_34 : decode cX9_init 34 = .ok (.putfield 19, 3) := by decide +kernel
theorem dX9_init_37 : decode cX9_init 37 = .ok (.aload_n 0, 1) := by decide +kernel
theorem dX9_init_38 : decode cX9_init 38 = .ok (.bipush 93, 2) := by decide +kernel
theorem dX9_init_40 : decode cX9_init 40 = .ok (.newarray .int, 2) := by decide +kernel
theorem dX9_init_42 : decode cX9_init 42 = .ok (.putfield 22, 3) := by decide +kernel
theorem dX9_init_45 : decode cX9_init 45 = .ok (.aload_n 0, 1) := by decide +kernel
theorem dX9_init_46 : decode cX9_init 46 = .ok (.getfield 7, 3) := by decide +kernel
theorem dX9_init_49 : decode cX9_init 49 = .ok (.iconst 0, 1) := by decide +kernel
theorem dX9_init_50 : decode cX9_init 50 = .ok (.bipush 16, 2) := by decide +kernel
theorem dX9_init_52 : decode cX9_init 52 = .ok (.iastore, 1) := by decide +kernel
theorem dX9_init_53 : decode cX9_init 53 = .ok (.aload_n 0, 1) := by decide +kernel
theorem dX9_init_54 : decode cX9_init 54 = .ok (.getfield 7, 3) := by decide +kernel
theorem dX9_init_57 : decode cX9_init 57 = .ok (.iconst 1, 1) := by decide +kernel
theorem dX9_init_58 : decode cX9_init 58 = .ok (.bipush 100, 2) := by decide +kernel
theorem dX9_init_60 : decode cX9_init 60 = .ok (.iastore, 1) := by decide +kernel
theorem dX9_init_61 : decode cX9_init 61 = .ok (.aload_n 0, 1) := by decide +kernel
theorem dX9_init_62 : decode cX9_init 62 = .ok (.getfield 7, 3) := by decide +kernel
theorem dX9_init_65 : decode cX9_init 65 = .ok (.iconst 2, 1) := by decide +kernel
theorem dX9_init_66 : decode cX9_init 66 = .ok (.bipush 8, 2) := by decide +kernel
theorem dX9_init_68 : decode cX9_init 68 = .ok (.iastore, 1) := by decide +kernel
theorem dX9_init_69 : decode cX9_init 69 = .ok (.iconst 0, 1) := by decide +kernel
theorem dX9_init_70 : decode cX9_init 70 = .ok (.istore_n 1, 1) := by decide +kernel
theorem dX9_init_71 : decode cX9_init 71 = .ok (.iload_n 1, 1) := by decide +kernel
theorem dX9_init_72 : decode cX9_init 72 = .ok (.iconst 4, 1) := by decide +kernel
theorem dX9_init_73 : decode cX9_init 73 = .ok (.if_icmp .ge 36, 3) := by decide +kernel
theorem dX9_init_76 : decode cX9_init 76 = .ok (.aload_n 0, 1) := by decide +kernel
theorem dX9_init_77 : decode cX9_init 77 = .ok (.getfield 7, 3) := by decide +kernel
theorem dX9_init_80 : decode cX9_init 80 = .ok (.bipush 14, 2) := by decide +kernel
theorem dX9_init_82 : decode cX9_init 82 = .ok (.iconst 4, 1) := by decide +kernel
theorem dX9_init_83 : decode cX9_init 83 = .ok (.iload_n 1, 1) := by decide +kernel
theorem dX9_init_84 : decode cX9_init 84 = .ok (.imul, 1) := by decide +kernel
theorem dX9_init_85 : decode cX9_init 85 = .ok (.iadd, 1) := by decide +kernel
theorem dX9_init_86 : decode cX9_init 86 = .ok (.iload_n 1, 1) := by decide +kernel
theorem dX9_init_87 : decode cX9_init 87 = .ok (.iastore, 1) := by decide +kernel
theorem dX9_init_88 : decode cX9_init 88 = .ok (.aload_n 0, 1) := by decide +kernel
theorem dX9_init_89 : decode cX9_init 89 = .ok (.getfield 7, 3) := by decide +kernel
theorem dX9_init_92 : decode cX9_init 92 = .ok (.bipush 14, 2) := by decide +kernel
theorem dX9_init_94 : decode cX9_init 94 = .ok (.iconst 4, 1) := by decide +kernel
theorem dX9_init_95 : decode cX9_init 95 = .ok (.iload_n 1, 1) := by decide +kernel
theorem dX9_init_96 : decode cX9_init 96 = .ok (.imul, 1) := by decide +kernel
theorem dX9_init_97 : decode cX9_init 97 = .ok (.iadd, 1) := by decide +kernel
theorem dX9_init_98 : decode cX9_init 98 = .ok (.iconst 2, 1) := by decide +kernel
theorem dX9_init_99 : decode cX9_init 99 = .ok (.iadd, 1) := by decide +kernel
theorem dX9_init_100 : decode cX9_init 100 = .ok (.bipush 100, 2) := by decide +kernel
theorem dX9_init_102 : decode cX9_init 102 = .ok (.iastore, 1) := by decide +kernel
theorem dX9_init_103 : decode cX9_init 103 = .ok (.iinc 1 1, 3) := by decide +kernel
theorem dX9_init_106 : decode cX9_init 106 = .ok (.goto (-35), 3) := by decide +kernel
theorem dX9_init_109 : decode cX9_init 109 = .ok (.return_, 1) := by decide +kernel
theorem dX9_thrown_0 : decode cX9_thrown 0 = .ok (.aload_n 0, 1) := by decide +kernel
theorem dX9_thrown_1 : decode cX9_thrown 1 = .ok (.getfield 25, 3) := by decide +kernel
theorem dX9_thrown_4 : decode cX9_thrown 4 = .ok (.ireturn, 1) := by decide +kernel
theorem dX9_fails_0 : decode cX9_fails 0 = .ok (.aload_n 0, 1) := by decide +kernel
theorem dX9_fails_1 : decode cX9_fails 1 = .ok (.iload_n 1, 1) := by decide +kernel
theorem dX9_fails_2 : decode cX9_fails 2 = .ok (.putfield 25, 3) := by decide +kernel
theorem dX9_fails_5 : decode cX9_fails 5 = .ok (.iconst 0, 1) := by decide +kernel
theorem dX9_fails_6 : decode cX9_fails 6 = .ok (.ireturn, 1) := by decide +kernel
theorem dX9_in_0 : decode cX9_in 0 = .ok (.iload_n 0, 1) := by decide +kernel
theorem dX9_in_1 : decode cX9_in 1 = .ok (.iload_n 1, 1) := by decide +kernel
theorem dX9_in_2 : decode cX9_in 2 = .ok (.if_icmp .lt 12, 3) := by decide +kernel
theorem dX9_in_5 : decode cX9_in 5 = .ok (.iload_n 0, 1) := by decide +kernel
theorem dX9_in_6 : decode cX9_in 6 = .ok (.iload_n 2, 1) := by decide +kernel
theorem dX9_in_7 : decode cX9_in 7 = .ok (.if_icmp .gt 7, 3) := by decide +kernel
theorem dX9_in_10 : decode cX9_in 10 = .ok (.iconst 1, 1) := by decide +kernel
theorem dX9_in_11 : decode cX9_in 11 = .ok (.goto 4, 3) := by decide +kernel
theorem dX9_in_14 : decode cX9_in 14 = .ok (.iconst 0, 1) := by decide +kernel
theorem dX9_in_15 : decode cX9_in 15 = .ok (.ireturn, 1) := by decide +kernel
theorem dX9_isFob_0 : decode cX9_isFob 0 = .ok (.iload_n 0, 1) := by decide +kernel
theorem dX9_isFob_1 : decode cX9_isFob 1 = .ok (.iconst 0, 1) := by decide +kernel
theorem dX9_isFob_2 : decode cX9_isFob 2 = .ok (.iconst 3, 1) := by decide +kernel
theorem dX9_isFob_3 : decode cX9_isFob 3 = .ok (.invokestatic 29, 3) := by decide +kernel
theorem dX9_isFob_6 : decode cX9_isFob 6 = .ok (.ireturn, 1) := by decide +kernel
theorem dX9_isDoor_0 : decode cX9_isDoor 0 = .ok (.iload_n 0, 1) := by decide +kernel
theorem dX9_isDoor_1 : decode cX9_isDoor 1 = .ok (.iconst 0, 1) := by decide +kernel
theorem dX9_isDoor_2 : decode cX9_isDoor 2 = .ok (.iconst 2, 1) := by decide +kernel
theorem dX9_isDoor_3 : decode cX9_isDoor 3 = .ok (.invokestatic 29, 3) := by decide +kernel
theorem dX9_isDoor_6 : decode cX9_isDoor 6 = .ok (.ireturn, 1) := by decide +kernel
theorem dX9_isSlot_0 : decode cX9_isSlot 0 = .ok (.iload_n 0, 1) := by decide +kernel
theorem dX9_isSlot_1 : decode cX9_isSlot 1 = .ok (.invokestatic 33, 3) := by decide +kernel
theorem dX9_isSlot_4 : decode cX9_isSlot 4 = .ok (.ifCond .eq 16, 3) := by decide +kernel
theorem dX9_isSlot_7 : decode cX9_isSlot 7 = .ok (.iload_n 1, 1) := by decide +kernel
theorem dX9_isSlot_8 : decode cX9_isSlot 8 = .ok (.iconst 0, 1) := by decide +kernel
theorem dX9_isSlot_9 : decode cX9_isSlot 9 = .ok (.iconst 3, 1) := by decide +kernel
theorem dX9_isSlot_10 : decode cX9_isSlot 10 = .ok (.invokestatic 29, 3) := by decide +kernel
theorem dX9_isSlot_13 : decode cX9_isSlot 13 = .ok (.ifCond .eq 7, 3) := by decide +kernel
theorem dX9_isSlot_16 : decode cX9_isSlot 16 = .ok (.iconst 1, 1) := by decide +kernel
theorem dX9_isSlot_17 : decode cX9_isSlot 17 = .ok (.goto 4, 3) := by decide +kernel
theorem dX9_isSlot_20 : decode cX9_isSlot 20 = .ok (.iconst 0, 1) := by decide +kernel
theorem dX9_isSlot_21 : decode cX9_isSlot 21 = .ok (.ireturn, 1) := by decide +kernel
theorem dX9_slotAt_0 : decode cX9_slotAt 0 = .ok (.bipush 30, 2) := by decide +kernel
theorem dX9_slotAt_2 : decode cX9_slotAt 2 = .ok (.bipush 22, 2) := by decide +kernel
theorem dX9_slotAt_4 : decode cX9_slotAt 4 = .ok (.iload_n 0, 1) := by decide +kernel
theorem dX9_slotAt_5 : decode cX9_slotAt 5 = .ok (.imul, 1) := by decide +kernel
theorem dX9_slotAt_6 : decode cX9_slotAt 6 = .ok (.iadd, 1) := by decide +kernel
theorem dX9_slotAt_7 : decode cX9_slotAt 7 = .ok (.bipush 6, 2) := by decide +kernel
theorem dX9_slotAt_9 : decode cX9_slotAt 9 = .ok (.iadd, 1) := by decide +kernel
theorem dX9_slotAt_10 : decode cX9_slotAt 10 = .ok (.iconst 4, 1) := by decide +kernel
theorem dX9_slotAt_11 : decode cX9_slotAt 11 = .ok (.iload_n 1, 1) := by decide +kernel
theorem dX9_slotAt_12 : decode cX9_slotAt 12 = .ok (.imul, 1) := by decide +kernel
theorem dX9_slotAt_13 : decode cX9_slotAt 13 = .ok (.iadd, 1) := by decide +kernel
theorem dX9_slotAt_14 : decode cX9_slotAt 14 = .ok (.ireturn, 1) := by decide +kernel
theorem dX9_copies_0 : decode cX9_copies 0 = .ok (.iconst 0, 1) := by decide +kernel
theorem dX9_copies_1 : decode cX9_copies 1 = .ok (.istore 4, 2) := by decide +kernel
theorem dX9_copies_3 : decode cX9_copies 3 = .ok (.iload 4, 2) := by decide +kernel
theorem dX9_copies_5 : decode cX9_copies 5 = .ok (.bipush 96, 2) := by decide +kernel
theorem dX9_copies_7 : decode cX9_copies 7 = .ok (.if_icmp .ge 21, 3) := by decide +kernel
theorem dX9_copies_10 : decode cX9_copies 10 = .ok (.aload_n 2, 1) := by decide +kernel
theorem dX9_copies_11 : decode cX9_copies 11 = .ok (.iload_n 3, 1) := by decide +kernel
theorem dX9_copies_12 : decode cX9_copies 12 = .ok (.iload 4, 2) := by decide +kernel
theorem dX9_copies_14 : decode cX9_copies 14 = .ok (.iadd, 1) := by decide +kernel
theorem dX9_copies_15 : decode cX9_copies 15 = .ok (.aload_n 0, 1) := by decide +kernel
theorem dX9_copies_16 : decode cX9_copies 16 = .ok (.iload_n 1, 1) := by decide +kernel
theorem dX9_copies_17 : decode cX9_copies 17 = .ok (.iload 4, 2) := by decide +kernel
theorem dX9_copies_19 : decode cX9_copies 19 = .ok (.iadd, 1) := by decide +kernel
theorem dX9_copies_20 : decode cX9_copies 20 = .ok (.iaload, 1) := by decide +kernel
theorem dX9_copies_21 : decode cX9_copies 21 = .ok (.iastore, 1) := by decide +kernel
theorem dX9_copies_22 : decode cX9_copies 22 = .ok (.iinc 4 1, 3) := by decide +kernel
theorem dX9_copies_25 : decode cX9_copies 25 = .ok (.goto (-22), 3) := by decide +kernel
theorem dX9_copies_28 : decode cX9_copies 28 = .ok (.return_, 1) := by decide +kernel
theorem dX9_saves_0 : decode cX9_saves 0 = .ok (.aload_n 0, 1) := by decide +kernel
theorem dX9_saves_1 : decode cX9_saves 1 = .ok (.getfield 37, 3) := by decide +kernel
theorem dX9_saves_4 : decode cX9_saves 4 = .ok (.bipush 6, 2) := by decide +kernel
theorem dX9_saves_6 : decode cX9_saves 6 = .ok (.if_icmp .ne 43, 3) := by decide +kernel
theorem dX9_saves_9 : decode cX9_saves 9 = .ok (.iconst 0, 1) := by decide +kernel
theorem dX9_saves_10 : decode cX9_saves 10 = .ok (.istore_n 1, 1) := by decide +kernel
theorem dX9_saves_11 : decode cX9_saves 11 = .ok (.iload_n 1, 1) := by decide +kernel
theorem dX9_saves_12 : decode cX9_saves 12 = .ok (.sipush 480, 3) := by decide +kernel
theorem dX9_saves_15 : decode cX9_saves 15 = .ok (.if_icmp .ge 24, 3) := by decide +kernel
theorem dX9_saves_18 : decode cX9_saves 18 = .ok (.aload_n 0, 1) := by decide +kernel
theorem dX9_saves_19 : decode cX9_saves 19 = .ok (.getfield 16, 3) := by decide +kernel
theorem dX9_saves_22 : decode cX9_saves 22 = .ok (.iload_n 1, 1) := by decide +kernel
theorem dX9_saves_23 : decode cX9_saves 23 = .ok (.aload_n 0, 1) := by decide +kernel
theorem dX9_saves_24 : decode cX9_saves 24 = .ok (.getfield 16, 3) := by decide +kernel
theorem dX9_saves_27 : decode cX9_saves 27 = .ok (.iload_n 1, 1) := by decide +kernel
theorem dX9_saves_28 : decode cX9_saves 28 = .ok (.bipush 96, 2) := by decide +kernel
theorem dX9_saves_30 : decode cX9_saves 30 = .ok (.iadd, 1) := by decide +kernel
theorem dX9_saves_31 : decode cX9_saves 31 = .ok (.iaload, 1) := by decide +kernel
theorem dX9_saves_32 : decode cX9_saves 32 = .ok (.iastore, 1) := by decide +kernel
theorem dX9_saves_33 : decode cX9_saves 33 = .ok (.iinc 1 1, 3) := by decide +kernel
theorem dX9_saves_36 : decode cX9_saves 36 = .ok (.goto (-25), 3) := by decide +kernel
theorem dX9_saves_39 : decode cX9_saves 39 = .ok (.aload_n 0, 1) := by decide +kernel
theorem dX9_saves_40 : decode cX9_saves 40 = .ok (.dup, 1) := by decide +kernel
theorem dX9_saves_41 : decode cX9_saves 41 = .ok (.getfield 37, 3) := by decide +kernel
theorem dX9_saves_44 : decode cX9_saves 44 = .ok (.iconst 1, 1) := by decide +kernel
theorem dX9_saves_45 : decode cX9_saves 45 = .ok (.isub, 1) := by decide +kernel
theorem dX9_saves_46 : decode cX9_saves 46 = .ok (.putfield 37, 3) := by decide +kernel
theorem dX9_saves_49 : decode cX9_saves 49 = .ok (.aload_n 0, 1) := by decide +kernel
theorem dX9_saves_50 : decode cX9_saves 50 = .ok (.getfield 7, 3) := by decide +kernel
theorem dX9_saves_53 : decode cX9_saves 53 = .ok (.iconst 0, 1) := by decide +kernel
theorem dX9_saves_54 : decode cX9_saves 54 = .ok (.aload_n 0, 1) := by decide +kernel
theorem dX9_saves_55 : decode cX9_saves 55 = .ok (.getfield 16, 3) := by decide +kernel
theorem dX9_saves_58 : decode cX9_saves 58 = .ok (.bipush 96, 2) := by decide +kernel
theorem dX9_saves_60 : decode cX9_saves 60 = .ok (.aload_n 0, 1) := by decide +kernel
theorem dX9_saves_61 : decode cX9_saves 61 = .ok (.getfield 37, 3) := by decide +kernel
theorem dX9_saves_64 : decode cX9_saves 64 = .ok (.imul, 1) := by decide +kernel
theorem dX9_saves_65 : decode cX9_saves 65 = .ok (.invokestatic 40, 3) := by decide +kernel
theorem dX9_saves_68 : decode cX9_saves 68 = .ok (.aload_n 0, 1) := by decide +kernel
theorem dX9_saves_69 : decode cX9_saves 69 = .ok (.dup, 1) := by decide +kernel
theorem dX9_saves_70 : decode cX9_saves 70 = .ok (.getfield 37, 3) := by decide +kernel
theorem dX9_saves_73 : decode cX9_saves 73 = .ok (.iconst 1, 1) := by decide +kernel
theorem dX9_saves_74 : decode cX9_saves 74 = .ok (.iadd, 1) := by decide +kernel
theorem dX9_saves_75 : decode cX9_saves 75 = .ok (.putfield 37, 3) := by decide +kernel
theorem dX9_saves_78 : decode cX9_saves 78 = .ok (.return_, 1) := by decide +kernel
theorem dX9_undo_0 : decode cX9_undo 0 = .ok (.aload_n 0, 1) := by decide +kernel
theorem dX9_undo_1 : decode cX9_undo 1 = .ok (.iconst 0, 1) := by decide +kernel
theorem dX9_undo_2 : decode cX9_undo 2 = .ok (.putfield 25, 3) := by decide +kernel
theorem dX9_undo_5 : decode cX9_undo 5 = .ok (.aload_n 0, 1) := by decide +kernel
theorem dX9_undo_6 : decode cX9_undo 6 = .ok (.getfield 37, 3) := by decide +kernel
theorem dX9_undo_9 : decode cX9_undo 9 = .ok (.ifCond .ne 9, 3) := by decide +kernel
theorem dX9_undo_12 : decode cX9_undo 12 = .ok (.aload_n 0, 1) := by decide +kernel
theorem dX9_undo_13 : decode cX9_undo 13 = .ok (.iconst 1, 1) := by decide +kernel
theorem dX9_undo_14 : decode cX9_undo 14 = .ok (.invokevirtual 44, 3) := by decide +kernel
theorem dX9_undo_17 : decode cX9_undo 17 = .ok (.ireturn, 1) := by decide +kernel
theorem dX9_undo_18 : decode cX9_undo 18 = .ok (.aload_n 0, 1) := by decide +kernel
theorem dX9_undo_19 : decode cX9_undo 19 = .ok (.dup, 1) := by decide +kernel
theorem dX9_undo_20 : decode cX9_undo 20 = .ok (.getfield 37, 3) := by decide +kernel
theorem dX9_undo_23 : decode cX9_undo 23 = .ok (.iconst 1, 1) := by decide +kernel
theorem dX9_undo_24 : decode cX9_undo 24 = .ok (.isub, 1) := by decide +kernel
theorem dX9_undo_25 : decode cX9_undo 25 = .ok (.putfield 37, 3) := by decide +kernel
theorem dX9_undo_28 : decode cX9_undo 28 = .ok (.aload_n 0, 1) := by decide +kernel
theorem dX9_undo_29 : decode cX9_undo 29 = .ok (.getfield 16, 3) := by decide +kernel
theorem dX9_undo_32 : decode cX9_undo 32 = .ok (.bipush 96, 2) := by decide +kernel
theorem dX9_undo_34 : decode cX9_undo 34 = .ok (.aload_n 0, 1) := by decide +kernel
theorem dX9_undo_35 : decode cX9_undo 35 = .ok (.getfield 37, 3) := by decide +kernel
theorem dX9_undo_38 : decode cX9_undo 38 = .ok (.imul, 1) := by decide +kernel
theorem dX9_undo_39 : decode cX9_undo 39 = .ok (.aload_n 0, 1) := by decide +kernel
theorem dX9_undo_40 : decode cX9_undo 40 = .ok (.getfield 7, 3) := by decide +kernel
theorem dX9_undo_43 : decode cX9_undo 43 = .ok (.iconst 0, 1) := by decide +kernel
theorem dX9_undo_44 : decode cX9_undo 44 = .ok (.invokestatic 40, 3) := by decide +kernel
theorem dX9_undo_47 : decode cX9_undo 47 = .ok (.aload_n 0, 1) := by decide +kernel
theorem dX9_undo_48 : decode cX9_undo 48 = .ok (.getfield 37, 3) := by decide +kernel
theorem dX9_undo_51 : decode cX9_undo 51 = .ok (.ireturn, 1) := by decide +kernel
theorem dX9_numberOf_0 : decode cX9_numberOf 0 = .ok (.iload_n 1, 1) := by decide +kernel
theorem dX9_numberOf_1 : decode cX9_numberOf 1 = .ok (.ldc 48, 2) := by decide +kernel
theorem dX9_numberOf_3 : decode cX9_numberOf 3 = .ok (.imul, 1) := by decide +kernel
theorem dX9_numberOf_4 : decode cX9_numberOf 4 = .ok (.iload_n 0, 1) := by decide +kernel
theorem dX9_numberOf_5 : decode cX9_numberOf 5 = .ok (.sipush 7919, 3) := by decide +kernel
theorem dX9_numberOf_8 : decode cX9_numberOf 8 = .ok (.imul, 1) := by decide +kernel
theorem dX9_numberOf_9 : decode cX9_numberOf 9 = .ok (.iadd, 1) := by decide +kernel
theorem dX9_numberOf_10 : decode cX9_numberOf 10 = .ok (.iload_n 0, 1) := by decide +kernel
theorem dX9_numberOf_11 : decode cX9_numberOf 11 = .ok (.bipush 31, 2) := by decide +kernel
theorem dX9_numberOf_13 : decode cX9_numberOf 13 = .ok (.imul, 1) := by decide +kernel
theorem dX9_numberOf_14 : decode cX9_numberOf 14 = .ok (.iload_n 1, 1) := by decide +kernel
theorem dX9_numberOf_15 : decode cX9_numberOf 15 = .ok (.iadd, 1) := by decide +kernel
theorem dX9_numberOf_16 : decode cX9_numberOf 16 = .ok (.ixor, 1) := by decide +kernel
theorem dX9_numberOf_17 : decode cX9_numberOf 17 = .ok (.ldc 49, 2) := by decide +kernel
theorem dX9_numberOf_19 : decode cX9_numberOf 19 = .ok (.irem, 1) := by decide +kernel
theorem dX9_numberOf_20 : decode cX9_numberOf 20 = .ok (.ireturn, 1) := by decide +kernel
theorem dX9_ahead_0 : decode cX9_ahead 0 = .ok (.iload_n 0, 1) := by decide +kernel
theorem dX9_ahead_1 : decode cX9_ahead 1 = .ok (.iload_n 1, 1) := by decide +kernel
theorem dX9_ahead_2 : decode cX9_ahead 2 = .ok (.iadd, 1) := by decide +kernel
theorem dX9_ahead_3 : decode cX9_ahead 3 = .ok (.sipush 10000, 3) := by decide +kernel
theorem dX9_ahead_6 : decode cX9_ahead 6 = .ok (.irem, 1) := by decide +kernel
theorem dX9_ahead_7 : decode cX9_ahead 7 = .ok (.ireturn, 1) := by decide +kernel
theorem dX9_isLocked_0 : decode cX9_isLocked 0 = .ok (.aload_n 0, 1) := by decide +kernel
theorem dX9_isLocked_1 : decode cX9_isLocked 1 = .ok (.iconst 2, 1) := by decide +kernel
theorem dX9_isLocked_2 : decode cX9_isLocked 2 = .ok (.iaload, 1) := by decide +kernel
theorem dX9_isLocked_3 : decode cX9_isLocked 3 = .ok (.ifCond .le 24, 3) := by decide +kernel
theorem dX9_isLocked_6 : decode cX9_isLocked 6 = .ok (.aload_n 0, 1) := by decide +kernel
theorem dX9_isLocked_7 : decode cX9_isLocked 7 = .ok (.bipush 30, 2) := by decide +kernel
theorem dX9_isLocked_9 : decode cX9_isLocked 9 = .ok (.bipush 22, 2) := by decide +kernel
theorem dX9_isLocked_11 : decode cX9_isLocked 11 = .ok (.iload_n 1, 1) := by decide +kernel
theorem dX9_isLocked_12 : decode cX9_isLocked 12 = .ok (.imul, 1) := by decide +kernel
theorem dX9_isLocked_13 : decode cX9_isLocked 13 = .ok (.iadd, 1) := by decide +kernel
theorem dX9_isLocked_14 : decode cX9_isLocked 14 = .ok (.iconst 1, 1) := by decide +kernel
theorem dX9_isLocked_15 : decode cX9_isLocked 15 = .ok (.iadd, 1) := by decide +kernel
theorem dX9_isLocked_16 : decode cX9_isLocked 16 = .ok (.iaload, 1) := by decide +kernel
theorem dX9_isLocked_17 : decode cX9_isLocked 17 = .ok (.aload_n 0, 1) := by decide +kernel
theorem dX9_isLocked_18 : decode cX9_isLocked 18 = .ok (.iconst 2, 1) := by decide +kernel
theorem dX9_isLocked_19 : decode cX9_isLocked 19 = .ok (.iaload, 1) := by decide +kernel
theorem dX9_isLocked_20 : decode cX9_isLocked 20 = .ok (.if_icmp .lt 7, 3) := by decide +kernel
theorem dX9_isLocked_23 : decode cX9_isLocked 23 = .ok (.iconst 1, 1) := by decide +kernel
theorem dX9_isLocked_24 : decode cX9_isLocked 24 = .ok (.goto 4, 3) := by decide +kernel
theorem dX9_isLocked_27 : decode cX9_isLocked 27 = .ok (.iconst 0, 1) := by decide +kernel
theorem dX9_isLocked_28 : decode cX9_isLocked 28 = .ok (.ireturn, 1) := by decide +kernel
theorem dX9_looks_0 : decode cX9_looks 0 = .ok (.aload_n 0, 1) := by decide +kernel
theorem dX9_looks_1 : decode cX9_looks 1 = .ok (.iconst (-1), 1) := by decide +kernel
theorem dX9_looks_2 : decode cX9_looks 2 = .ok (.putfield 50, 3) := by decide +kernel
theorem dX9_looks_5 : decode cX9_looks 5 = .ok (.aload_n 0, 1) := by decide +kernel
theorem dX9_looks_6 : decode cX9_looks 6 = .ok (.iconst 0, 1) := by decide +kernel
theorem dX9_looks_7 : decode cX9_looks 7 = .ok (.putfield 53, 3) := by decide +kernel
theorem dX9_looks_10 : decode cX9_looks 10 = .ok (.iconst 0, 1) := by decide +kernel
theorem dX9_looks_11 : decode cX9_looks 11 = .ok (.istore 4, 2) := by decide +kernel
theorem dX9_looks_13 : decode cX9_looks 13 = .ok (.iload 4, 2) := by decide +kernel
theorem dX9_looks_15 : decode cX9_looks 15 = .ok (.iconst 4, 1) := by decide +kernel
theorem dX9_looks_16 : decode cX9_looks 16 = .ok (.if_icmp .ge 94, 3) := by decide +kernel
theorem dX9_looks_19 : decode cX9_looks 19 = .ok (.aload_n 0, 1) := by decide +kernel
theorem dX9_looks_20 : decode cX9_looks 20 = .ok (.getfield 50, 3) := by decide +kernel
theorem dX9_looks_23 : decode cX9_looks 23 = .ok (.iconst (-1), 1) := by decide +kernel
theorem dX9_looks_24 : decode cX9_looks 24 = .ok (.if_icmp .ne 86, 3) := by decide +kernel
theorem dX9_looks_27 : decode cX9_looks 27 = .ok (.iload_n 2, 1) := by decide +kernel
theorem dX9_looks_28 : decode cX9_looks 28 = .ok (.iload 4, 2) := by decide +kernel
theorem dX9_looks_30 : decode cX9_looks 30 = .ok (.invokestatic 56, 3) := by decide +kernel
theorem dX9_looks_33 : decode cX9_looks 33 = .ok (.istore 5, 2) := by decide +kernel
theorem dX9_looks_35 : decode cX9_looks 35 = .ok (.iconst 1, 1) := by decide +kernel
theorem dX9_looks_36 : decode cX9_looks 36 = .ok (.istore 6, 2) := by decide +kernel
theorem dX9_looks_38 : decode cX9_looks 38 = .ok (.iload 6, 2) := by decide +kernel
theorem dX9_looks_40 : decode cX9_looks 40 = .ok (.aload_n 1, 1) := by decide +kernel
theorem dX9_looks_41 : decode cX9_looks 41 = .ok (.iconst 1, 1) := by decide +kernel
theorem dX9_looks_42 : decode cX9_looks 42 = .ok (.iaload, 1) := by decide +kernel
theorem dX9_looks_43 : decode cX9_looks 43 = .ok (.if_icmp .gt 61, 3) := by decide +kernel
theorem dX9_looks_46 : decode cX9_looks 46 = .ok (.aload_n 1, 1) := by decide +kernel
theorem dX9_looks_47 : decode cX9_looks 47 = .ok (.iload 5, 2) := by decide +kernel
theorem dX9_looks_49 : decode cX9_looks 49 = .ok (.iaload, 1) := by decide +kernel
theorem dX9_looks_50 : decode cX9_looks 50 = .ok (.iconst 1, 1) := by decide +kernel
theorem dX9_looks_51 : decode cX9_looks 51 = .ok (.if_icmp .ne 53, 3) := by decide +kernel
theorem dX9_looks_54 : decode cX9_looks 54 = .ok (.aload_n 0, 1) := by decide +kernel
theorem dX9_looks_55 : decode cX9_looks 55 = .ok (.getfield 50, 3) := by decide +kernel
theorem dX9_looks_58 : decode cX9_looks 58 = .ok (.iconst (-1), 1) := by decide +kernel
theorem dX9_looks_59 : decode cX9_looks 59 = .ok (.if_icmp .ne 45, 3) := by decide +kernel
theorem dX9_looks_62 : decode cX9_looks 62 = .ok (.aload_n 1, 1) := by decide +kernel
theorem dX9_looks_63 : decode cX9_looks 63 = .ok (.iload 5, 2) := by decide +kernel
theorem dX9_looks_65 : decode cX9_looks 65 = .ok (.iconst 1, 1) := by decide +kernel
theorem dX9_looks_66 : decode cX9_looks 66 = .ok (.iadd, 1) := by decide +kernel
theorem dX9_looks_67 : decode cX9_looks 67 = .ok (.iaload, 1) := by decide +kernel
theorem dX9_looks_68 : decode cX9_looks 68 = .ok (.aload_n 1, 1) := by decide +kernel
theorem dX9_looks_69 : decode cX9_looks 69 = .ok (.iload 5, 2) := by decide +kernel
theorem dX9_looks_71 : decode cX9_looks 71 = .ok (.iconst 2, 1) := by decide +kernel
theorem dX9_looks_72 : decode cX9_looks 72 = .ok (.iadd, 1) := by decide +kernel
theorem dX9_looks_73 : decode cX9_looks 73 = .ok (.iaload, 1) := by decide +kernel
theorem dX9_looks_74 : decode cX9_looks 74 = .ok (.iload 6, 2) := by decide +kernel
theorem dX9_looks_76 : decode cX9_looks 76 = .ok (.invokestatic 60, 3) := by decide +kernel
theorem dX9_looks_79 : decode cX9_looks 79 = .ok (.invokestatic 63, 3) := by decide +kernel
theorem dX9_looks_82 : decode cX9_looks 82 = .ok (.iload_n 3, 1) := by decide +kernel
theorem dX9_looks_83 : decode cX9_looks 83 = .ok (.if_icmp .ne 15, 3) := by decide +kernel
theorem dX9_looks_86 : decode cX9_looks 86 = .ok (.aload_n 0, 1) := by decide +kernel
theorem dX9_looks_87 : decode cX9_looks 87 = .ok (.iload 4, 2) := by decide +kernel
theorem dX9_looks_89 : decode cX9_looks 89 = .ok (.putfield 50, 3) := by decide +kernel
theorem dX9_looks_92 : decode cX9_looks 92 = .ok (.aload_n 0, 1) := by decide +kernel
theorem dX9_looks_93 : decode cX9_looks 93 = .ok (.iload 6, 2) := by decide +kernel
theorem dX9_looks_95 : decode cX9_looks 95 = .ok (.putfield 53, 3) := by decide +kernel
theorem dX9_looks_98 : decode cX9_looks 98 = .ok (.iinc 6 1, 3) := by decide +kernel
theorem dX9_looks_101 : decode cX9_looks 101 = .ok (.goto (-63), 3) := by decide +kernel
theorem dX9_looks_104 : decode cX9_looks 104 = .ok (.iinc 4 1, 3) := by decide +kernel
theorem dX9_looks_107 : decode cX9_looks 107 = .ok (.goto (-94), 3) := by decide +kernel
theorem dX9_looks_110 : decode cX9_looks 110 = .ok (.return_, 1) := by decide +kernel
theorem dX9_would_0 : decode cX9_would 0 = .ok (.aload_n 1, 1) := by decide +kernel
theorem dX9_would_1 : decode cX9_would 1 = .ok (.iload_n 2, 1) := by decide +kernel
theorem dX9_would_2 : decode cX9_would 2 = .ok (.invokestatic 66, 3) := by decide +kernel
theorem dX9_would_5 : decode cX9_would 5 = .ok (.ifCond .eq 5, 3) := by decide +kernel
theorem dX9_would_8 : decode cX9_would 8 = .ok (.iconst 3, 1) := by decide +kernel
theorem dX9_would_9 : decode cX9_would 9 = .ok (.ireturn, 1) := by decide +kernel
theorem dX9_would_10 : decode cX9_would 10 = .ok (.aload_n 0, 1) := by decide +kernel
theorem dX9_would_11 : decode cX9_would 11 = .ok (.aload_n 1, 1) := by decide +kernel
theorem dX9_would_12 : decode cX9_would 12 = .ok (.iload_n 2, 1) := by decide +kernel
theorem dX9_would_13 : decode cX9_would 13 = .ok (.iload_n 3, 1) := by decide +kernel
theorem dX9_would_14 : decode cX9_would 14 = .ok (.invokevirtual 70, 3) := by decide +kernel
theorem dX9_would_17 : decode cX9_would 17 = .ok (.aload_n 0, 1) := by decide +kernel
theorem dX9_would_18 : decode cX9_would 18 = .ok (.getfield 50, 3) := by decide +kernel
theorem dX9_would_21 : decode cX9_would 21 = .ok (.iconst (-1), 1) := by decide +kernel
theorem dX9_would_22 : decode cX9_would 22 = .ok (.if_icmp .ne 5, 3) := by decide +kernel
theorem dX9_would_25 : decode cX9_would 25 = .ok (.iconst 2, 1) := by decide +kernel
theorem dX9_would_26 : decode cX9_would 26 = .ok (.ireturn, 1) := by decide +kernel
theorem dX9_would_27 : decode cX9_would 27 = .ok (.iload_n 2, 1) := by decide +kernel
theorem dX9_would_28 : decode cX9_would 28 = .ok (.aload_n 0, 1) := by decide +kernel
theorem dX9_would_29 : decode cX9_would 29 = .ok (.getfield 50, 3) := by decide +kernel
theorem dX9_would_32 : decode cX9_would 32 = .ok (.invokestatic 56, 3) := by decide +kernel
theorem dX9_would_35 : decode cX9_would 35 = .ok (.istore 4, 2) := by decide +kernel
theorem dX9_would_37 : decode cX9_would 37 = .ok (.aload_n 1, 1) := by decide +kernel
theorem dX9_would_38 : decode cX9_would 38 = .ok (.iload 4, 2) := by decide +kernel
theorem dX9_would_40 : decode cX9_would 40 = .ok (.iconst 3, 1) := by decide +kernel
theorem dX9_would_41 : decode cX9_would 41 = .ok (.iadd, 1) := by decide +kernel
theorem dX9_would_42 : decode cX9_would 42 = .ok (.iaload, 1) := by decide +kernel
theorem dX9_would_43 : decode cX9_would 43 = .ok (.iconst (-1), 1) := by decide +kernel
theorem dX9_would_44 : decode cX9_would 44 = .ok (.if_icmp .eq 33, 3) := by decide +kernel
theorem dX9_would_47 : decode cX9_would 47 = .ok (.aload_n 1, 1) := by decide +kernel
theorem dX9_would_48 : decode cX9_would 48 = .ok (.iload 4, 2) := by decide +kernel
theorem dX9_would_50 : decode cX9_would 50 = .ok (.iconst 3, 1) := by decide +kernel
theorem dX9_would_51 : decode cX9_would 51 = .ok (.iadd, 1) := by decide +kernel
theorem dX9_would_52 : decode cX9_would 52 = .ok (.iaload, 1) := by decide +kernel
theorem dX9_would_53 : decode cX9_would 53 = .ok (.iconst 1, 1) := by decide +kernel
theorem dX9_would_54 : decode cX9_would 54 = .ok (.invokestatic 60, 3) := by decide +kernel
theorem dX9_would_57 : decode cX9_would 57 = .ok (.aload_n 1, 1) := by decide +kernel
theorem dX9_would_58 : decode cX9_would 58 = .ok (.iload 4, 2) := by decide +kernel
theorem dX9_would_60 : decode cX9_would 60 = .ok (.iconst 2, 1) := by decide +kernel
theorem dX9_would_61 : decode cX9_would 61 = .ok (.iadd, 1) := by decide +kernel
theorem dX9_would_62 : decode cX9_would 62 = .ok (.iaload, 1) := by decide +kernel
theorem dX9_would_63 : decode cX9_would 63 = .ok (.aload_n 0, 1) := by decide +kernel
theorem dX9_would_64 : decode cX9_would 64 = .ok (.getfield 53, 3) := by decide +kernel
theorem dX9_would_67 : decode cX9_would 67 = .ok (.invokestatic 60, 3) := by decide +kernel
theorem dX9_would_70 : decode cX9_would 70 = .ok (.if_icmp .ne 7, 3) := by decide +kernel
theorem dX9_would_73 : decode cX9_would 73 = .ok (.iconst 1, 1) := by decide +kernel
theorem dX9_would_74 : decode cX9_would 74 = .ok (.goto 4, 3) := by decide +kernel
theorem dX9_would_77 : decode cX9_would 77 = .ok (.iconst 0, 1) := by decide +kernel
theorem dX9_would_78 : decode cX9_would 78 = .ok (.istore 5, 2) := by decide +kernel
theorem dX9_would_80 : decode cX9_would 80 = .ok (.aload_n 0, 1) := by decide +kernel
theorem dX9_would_81 : decode cX9_would 81 = .ok (.getfield 53, 3) := by decide +kernel
theorem dX9_would_84 : decode cX9_would 84 = .ok (.aload_n 1, 1) := by decide +kernel
theorem dX9_would_85 : decode cX9_would 85 = .ok (.iconst 0, 1) := by decide +kernel
theorem dX9_would_86 : decode cX9_would 86 = .ok (.iaload, 1) := by decide +kernel
theorem dX9_would_87 : decode cX9_would 87 = .ok (.if_icmp .le 8, 3) := by decide +kernel
theorem dX9_would_90 : decode cX9_would 90 = .ok (.iload 5, 2) := by decide +kernel
theorem dX9_would_92 : decode cX9_would 92 = .ok (.ifCond .eq 7, 3) := by decide +kernel
theorem dX9_would_95 : decode cX9_would 95 = .ok (.iconst 0, 1) := by decide +kernel
theorem dX9_would_96 : decode cX9_would 96 = .ok (.goto 4, 3) := by decide +kernel
theorem dX9_would_99 : decode cX9_would 99 = .ok (.iconst 1, 1) := by decide +kernel
theorem dX9_would_100 : decode cX9_would 100 = .ok (.ireturn, 1) := by decide +kernel
theorem dX9_hears_0 : decode cX9_hears 0 = .ok (.aload_n 0, 1) := by decide +kernel
theorem dX9_hears_1 : decode cX9_hears 1 = .ok (.aload_n 1, 1) := by decide +kernel
theorem dX9_hears_2 : decode cX9_hears 2 = .ok (.iload_n 2, 1) := by decide +kernel
theorem dX9_hears_3 : decode cX9_hears 3 = .ok (.iload_n 3, 1) := by decide +kernel
theorem dX9_hears_4 : decode cX9_hears 4 = .ok (.invokevirtual 74, 3) := by decide +kernel
theorem dX9_hears_7 : decode cX9_hears 7 = .ok (.istore 4, 2) := by decide +kernel
theorem dX9_hears_9 : decode cX9_hears 9 = .ok (.bipush 30, 2) := by decide +kernel
theorem dX9_hears_11 : decode cX9_hears 11 = .ok (.bipush 22, 2) := by decide +kernel
theorem dX9_hears_13 : decode cX9_hears 13 = .ok (.iload_n 2, 1) := by decide +kernel
theorem dX9_hears_14 : decode cX9_hears 14 = .ok (.imul, 1) := by decide +kernel
theorem dX9_hears_15 : decode cX9_hears 15 = .ok (.iadd, 1) := by decide +kernel
theorem dX9_hears_16 : decode cX9_hears 16 = .ok (.istore 5, 2) := by decide +kernel
theorem dX9_hears_18 : decode cX9_hears 18 = .ok (.iload 4, 2) := by decide +kernel
theorem dX9_hears_20 : decode cX9_hears 20 = .ok (.iconst 3, 1) := by decide +kernel
theorem dX9_hears_21 : decode cX9_hears 21 = .ok (.if_icmp .ne 16, 3) := by decide +kernel
theorem dX9_hears_24 : decode cX9_hears 24 = .ok (.aload_n 1, 1) := by decide +kernel
theorem dX9_hears_25 : decode cX9_hears 25 = .ok (.iload 5, 2) := by decide +kernel
theorem dX9_hears_27 : decode cX9_hears 27 = .ok (.iconst 5, 1) := by decide +kernel
theorem dX9_hears_28 : decode cX9_hears 28 = .ok (.iadd, 1) := by decide +kernel
theorem dX9_hears_29 : decode cX9_hears 29 = .ok (.dup2, 1) := by decide +kernel
theorem dX9_hears_30 : decode cX9_hears 30 = .ok (.iaload, 1) := by decide +kernel
theorem dX9_hears_31 : decode cX9_hears 31 = .ok (.iconst 1, 1) := by decide +kernel
theorem dX9_hears_32 : decode cX9_hears 32 = .ok (.iadd, 1) := by decide +kernel
theorem dX9_hears_33 : decode cX9_hears 33 = .ok (.iastore, 1) := by decide +kernel
theorem dX9_hears_34 : decode cX9_hears 34 = .ok (.goto 155, 3) := by decide +kernel
theorem dX9_hears_37 : decode cX9_hears 37 = .ok (.iload 4, 2) := by decide +kernel
theorem dX9_hears_39 : decode cX9_hears 39 = .ok (.iconst 2, 1) := by decide +kernel
theorem dX9_hears_40 : decode cX9_hears 40 = .ok (.if_icmp .ne 26, 3) := by decide +kernel
theorem dX9_hears_43 : decode cX9_hears 43 = .ok (.aload_n 1, 1) := by decide +kernel
theorem dX9_hears_44 : decode cX9_hears 44 = .ok (.iload 5, 2) := by decide +kernel
theorem dX9_hears_46 : decode cX9_hears 46 = .ok (.iconst 1, 1) := by decide +kernel
theorem dX9_hears_47 : decode cX9_hears 47 = .ok (.iadd, 1) := by decide +kernel
theorem dX9_hears_48 : decode cX9_hears 48 = .ok (.dup2, 1) := by decide +kernel
theorem dX9_hears_49 : decode cX9_hears 49 = .ok (.iaload, 1) := by decide +kernel
theorem dX9_hears_50 : decode cX9_hears 50 = .ok (.iconst 1, 1) := by decide +kernel
theorem dX9_hears_51 : decode cX9_hears 51 = .ok (.iadd, 1) := by decide +kernel
theorem dX9_hears_52 : decode cX9_hears 52 = .ok (.iastore, 1) := by decide +kernel
theorem dX9_hears_53 : decode cX9_hears 53 = .ok (.aload_n 1, 1) := by decide +kernel
theorem dX9_hears_54 : decode cX9_hears 54 = .ok (.iload 5, 2) := by decide +kernel
theorem dX9_hears_56 : decode cX9_hears 56 = .ok (.iconst 4, 1) := by decide +kernel
theorem dX9_hears_57 : decode cX9_hears 57 = .ok (.iadd, 1) := by decide +kernel
theorem dX9_hears_58 : decode cX9_hears 58 = .ok (.dup2, 1) := by decide +kernel
theorem dX9_hears_59 : decode cX9_hears 59 = .ok (.iaload, 1) := by decide +kernel
theorem dX9_hears_60 : decode cX9_hears 60 = .ok (.iconst 1, 1) := by decide +kernel
theorem dX9_hears_61 : decode cX9_hears 61 = .ok (.iadd, 1) := by decide +kernel
theorem dX9_hears_62 : decode cX9_hears 62 = .ok (.iastore, 1) := by decide +kernel
theorem dX9_hears_63 : decode cX9_hears 63 = .ok (.goto 126, 3) := by decide +kernel
theorem dX9_hears_66 : decode cX9_hears 66 = .ok (.iload_n 2, 1) := by decide +kernel
theorem dX9_hears_67 : decode cX9_hears 67 = .ok (.aload_n 0, 1) := by decide +kernel
theorem dX9_hears_68 : decode cX9_hears 68 = .ok (.getfield 50, 3) := by decide +kernel
theorem dX9_hears_71 : decode cX9_hears 71 = .ok (.invokestatic 56, 3) := by decide +kernel
theorem dX9_hears_74 : decode cX9_hears 74 = .ok (.istore 6, 2) := by decide +kernel
theorem dX9_hears_76 : decode cX9_hears 76 = .ok (.aload_n 1, 1) := by decide +kernel
theorem dX9_hears_77 : decode cX9_hears 77 = .ok (.iload 6, 2) := by decide +kernel
theorem dX9_hears_79 : decode cX9_hears 79 = .ok (.iconst 2, 1) := by decide +kernel
theorem dX9_hears_80 : decode cX9_hears 80 = .ok (.iadd, 1) := by decide +kernel
theorem dX9_hears_81 : decode cX9_hears 81 = .ok (.iaload, 1) := by decide +kernel
theorem dX9_hears_82 : decode cX9_hears 82 = .ok (.aload_n 0, 1) := by decide +kernel
theorem dX9_hears_83 : decode cX9_hears 83 = .ok (.getfield 53, 3) := by decide +kernel
theorem dX9_hears_86 : decode cX9_hears 86 = .ok (.invokestatic 60, 3) := by decide +kernel
theorem dX9_hears_89 : decode cX9_hears 89 = .ok (.istore 7, 2) := by decide +kernel
theorem dX9_hears_91 : decode cX9_hears 91 = .ok (.aload_n 1, 1) := by decide +kernel
theorem dX9_hears_92 : decode cX9_hears 92 = .ok (.iload 6, 2) := by decide +kernel
theorem dX9_hears_94 : decode cX9_hears 94 = .ok (.iconst 3, 1) := by decide +kernel
theorem dX9_hears_95 : decode cX9_hears 95 = .ok (.iadd, 1) := by decide +kernel
theorem dX9_hears_96 : decode cX9_hears 96 = .ok (.iload 4, 2) := by decide +kernel
theorem dX9_hears_98 : decode cX9_hears 98 = .ok (.iconst 1, 1) := by decide +kernel
theorem dX9_hears_99 : decode cX9_hears 99 = .ok (.if_icmp .ne 8, 3) := by decide +kernel
theorem dX9_hears_102 : decode cX9_hears 102 = .ok (.iload 7, 2) := by decide +kernel
theorem dX9_hears_104 : decode cX9_hears 104 = .ok (.goto 4, 3) := by decide +kernel
theorem dX9_hears_107 : decode cX9_hears 107 = .ok (.iconst (-1), 1) := by decide +kernel
theorem dX9_hears_108 : decode cX9_hears 108 = .ok (.iastore, 1) := by decide +kernel
theorem dX9_hears_109 : decode cX9_hears 109 = .ok (.aload_n 1, 1) := by decide +kernel
theorem dX9_hears_110 : decode cX9_hears 110 = .ok (.iload 6, 2) := by decide +kernel
theorem dX9_hears_112 : decode cX9_hears 112 = .ok (.iconst 2, 1) := by decide +kernel
theorem dX9_hears_113 : decode cX9_hears 113 = .ok (.iadd, 1) := by decide +kernel
theorem dX9_hears_114 : decode cX9_hears 114 = .ok (.iload 4, 2) := by decide +kernel
theorem dX9_hears_116 : decode cX9_hears 116 = .ok (.iconst 1, 1) := by decide +kernel
theorem dX9_hears_117 : decode cX9_hears 117 = .ok (.if_icmp .ne 12, 3) := by decide +kernel
theorem dX9_hears_120 : decode cX9_hears 120 = .ok (.aload_n 1, 1) := by decide +kernel
theorem dX9_hears_121 : decode cX9_hears 121 = .ok (.iload 6, 2) := by decide +kernel
theorem dX9_hears_123 : decode cX9_hears 123 = .ok (.iconst 2, 1) := by decide +kernel
theorem dX9_hears_124 : decode cX9_hears 124 = .ok (.iadd, 1) := by decide +kernel
theorem dX9_hears_125 : decode cX9_hears 125 = .ok (.iaload, 1) := by decide +kernel
theorem dX9_hears_126 : decode cX9_hears 126 = .ok (.goto 5, 3) := by decide +kernel
theorem dX9_hears_129 : decode cX9_hears 129 = .ok (.iload 7, 2) := by decide +kernel
theorem dX9_hears_131 : decode cX9_hears 131 = .ok (.iastore, 1) := by decide +kernel
theorem dX9_hears_132 : decode cX9_hears 132 = .ok (.aload_n 1, 1) := by decide +kernel
theorem dX9_hears_133 : decode cX9_hears 133 = .ok (.iload 5, 2) := by decide +kernel
theorem dX9_hears_135 : decode cX9_hears 135 = .ok (.iload 4, 2) := by decide +kernel
theorem dX9_hears_137 : decode cX9_hears 137 = .ok (.ifCond .ne 7, 3) := by decide +kernel
theorem dX9_hears_140 : decode cX9_hears 140 = .ok (.iconst 1, 1) := by decide +kernel
theorem dX9_hears_141 : decode cX9_hears 141 = .ok (.goto 7, 3) := by decide +kernel
theorem dX9_hears_144 : decode cX9_hears 144 = .ok (.aload_n 1, 1) := by decide +kernel
theorem dX9_hears_145 : decode cX9_hears 145 = .ok (.iload 5, 2) := by decide +kernel
theorem dX9_hears_147 : decode cX9_hears 147 = .ok (.iaload, 1) := by decide +kernel
theorem dX9_hears_148 : decode cX9_hears 148 = .ok (.iastore, 1) := by decide +kernel
theorem dX9_hears_149 : decode cX9_hears 149 = .ok (.aload_n 1, 1) := by decide +kernel
theorem dX9_hears_150 : decode cX9_hears 150 = .ok (.iload 5, 2) := by decide +kernel
theorem dX9_hears_152 : decode cX9_hears 152 = .ok (.iconst 1, 1) := by decide +kernel
theorem dX9_hears_153 : decode cX9_hears 153 = .ok (.iadd, 1) := by decide +kernel
theorem dX9_hears_154 : decode cX9_hears 154 = .ok (.iload 4, 2) := by decide +kernel
theorem dX9_hears_156 : decode cX9_hears 156 = .ok (.ifCond .ne 7, 3) := by decide +kernel
theorem dX9_hears_159 : decode cX9_hears 159 = .ok (.iconst 0, 1) := by decide +kernel
theorem dX9_hears_160 : decode cX9_hears 160 = .ok (.goto 9, 3) := by decide +kernel
theorem dX9_hears_163 : decode cX9_hears 163 = .ok (.aload_n 1, 1) := by decide +kernel
theorem dX9_hears_164 : decode cX9_hears 164 = .ok (.iload 5, 2) := by decide +kernel
theorem dX9_hears_166 : decode cX9_hears 166 = .ok (.iconst 1, 1) := by decide +kernel
theorem dX9_hears_167 : decode cX9_hears 167 = .ok (.iadd, 1) := by decide +kernel
theorem dX9_hears_168 : decode cX9_hears 168 = .ok (.iaload, 1) := by decide +kernel
theorem dX9_hears_169 : decode cX9_hears 169 = .ok (.iastore, 1) := by decide +kernel
theorem dX9_hears_170 : decode cX9_hears 170 = .ok (.aload_n 1, 1) := by decide +kernel
theorem dX9_hears_171 : decode cX9_hears 171 = .ok (.iload 5, 2) := by decide +kernel
theorem dX9_hears_173 : decode cX9_hears 173 = .ok (.iload 4, 2) := by decide +kernel
theorem dX9_hears_175 : decode cX9_hears 175 = .ok (.ifCond .ne 7, 3) := by decide +kernel
theorem dX9_hears_178 : decode cX9_hears 178 = .ok (.iconst 2, 1) := by decide +kernel
theorem dX9_hears_179 : decode cX9_hears 179 = .ok (.goto 4, 3) := by decide +kernel
theorem dX9_hears_182 : decode cX9_hears 182 = .ok (.iconst 3, 1) := by decide +kernel
theorem dX9_hears_183 : decode cX9_hears 183 = .ok (.iadd, 1) := by decide +kernel
theorem dX9_hears_184 : decode cX9_hears 184 = .ok (.dup2, 1) := by decide +kernel
theorem dX9_hears_185 : decode cX9_hears 185 = .ok (.iaload, 1) := by decide +kernel
theorem dX9_hears_186 : decode cX9_hears 186 = .ok (.iconst 1, 1) := by decide +kernel
theorem dX9_hears_187 : decode cX9_hears 187 = .ok (.iadd, 1) := by decide +kernel
theorem dX9_hears_188 : decode cX9_hears 188 = .ok (.iastore, 1) := by decide +kernel
theorem dX9_hears_189 : decode cX9_hears 189 = .ok (.iload 4, 2) := by decide +kernel
theorem dX9_hears_191 : decode cX9_hears 191 = .ok (.ifCond .ne 7, 3) := by decide +kernel
theorem dX9_hears_194 : decode cX9_hears 194 = .ok (.iconst 1, 1) := by decide +kernel
theorem dX9_hears_195 : decode cX9_hears 195 = .ok (.goto 4, 3) := by decide +kernel
theorem dX9_hears_198 : decode cX9_hears 198 = .ok (.iconst 0, 1) := by decide +kernel
theorem dX9_hears_199 : decode cX9_hears 199 = .ok (.ireturn, 1) := by decide +kernel
theorem dX9_heard_0 : decode cX9_heard 0 = .ok (.iconst 0, 1) := by decide +kernel
theorem dX9_heard_1 : decode cX9_heard 1 = .ok (.istore 4, 2) := by decide +kernel
theorem dX9_heard_3 : decode cX9_heard 3 = .ok (.iconst 0, 1) := by decide +kernel
theorem dX9_heard_4 : decode cX9_heard 4 = .ok (.istore 5, 2) := by decide +kernel
theorem dX9_heard_6 : decode cX9_heard 6 = .ok (.iload 5, 2) := by decide +kernel
theorem dX9_heard_8 : decode cX9_heard 8 = .ok (.iconst 3, 1) := by decide +kernel
theorem dX9_heard_9 : decode cX9_heard 9 = .ok (.if_icmp .ge 43, 3) := by decide +kernel
theorem dX9_heard_12 : decode cX9_heard 12 = .ok (.iload 4, 2) := by decide +kernel
theorem dX9_heard_14 : decode cX9_heard 14 = .ok (.iload_n 2, 1) := by decide +kernel
theorem dX9_heard_15 : decode cX9_heard 15 = .ok (.iload 5, 2) := by decide +kernel
theorem dX9_heard_17 : decode cX9_heard 17 = .ok (.ishr, 1) := by decide +kernel
theorem dX9_heard_18 : decode cX9_heard 18 = .ok (.iconst 1, 1) := by decide +kernel
theorem dX9_heard_19 : decode cX9_heard 19 = .ok (.iand, 1) := by decide +kernel
theorem dX9_heard_20 : decode cX9_heard 20 = .ok (.iconst 1, 1) := by decide +kernel
theorem dX9_heard_21 : decode cX9_heard 21 = .ok (.if_icmp .ne 21, 3) := by decide +kernel
theorem dX9_heard_24 : decode cX9_heard 24 = .ok (.aload_n 0, 1) := by decide +kernel
theorem dX9_heard_25 : decode cX9_heard 25 = .ok (.aload_n 1, 1) := by decide +kernel
theorem dX9_heard_26 : decode cX9_heard 26 = .ok (.iload 5, 2) := by decide +kernel
theorem dX9_heard_28 : decode cX9_heard 28 = .ok (.iload_n 3, 1) := by decide +kernel
theorem dX9_heard_29 : decode cX9_heard 29 = .ok (.invokevirtual 78, 3) := by decide +kernel
theorem dX9_heard_32 : decode cX9_heard 32 = .ok (.ifCond .eq 10, 3) := by decide +kernel
theorem dX9_heard_35 : decode cX9_heard 35 = .ok (.iconst 1, 1) := by decide +kernel
theorem dX9_heard_36 : decode cX9_heard 36 = .ok (.iload 5, 2) := by decide +kernel
theorem dX9_heard_38 : decode cX9_heard 38 = .ok (.ishl, 1) := by decide +kernel
theorem dX9_heard_39 : decode cX9_heard 39 = .ok (.goto 4, 3) := by decide +kernel
theorem dX9_heard_42 : decode cX9_heard 42 = .ok (.iconst 0, 1) := by decide +kernel
theorem dX9_heard_43 : decode cX9_heard 43 = .ok (.ior, 1) := by decide +kernel
theorem dX9_heard_44 : decode cX9_heard 44 = .ok (.istore 4, 2) := by decide +kernel
theorem dX9_heard_46 : decode cX9_heard 46 = .ok (.iinc 5 1, 3) := by decide +kernel
theorem dX9_heard_49 : decode cX9_heard 49 = .ok (.goto (-43), 3) := by decide +kernel
theorem dX9_heard_52 : decode cX9_heard 52 = .ok (.iload 4, 2) := by decide +kernel
theorem dX9_heard_54 : decode cX9_heard 54 = .ok (.ireturn, 1) := by decide +kernel
theorem dX9_next_0 : decode cX9_next 0 = .ok (.aload_n 0, 1) := by decide +kernel
theorem dX9_next_1 : decode cX9_next 1 = .ok (.bipush 14, 2) := by decide +kernel
theorem dX9_next_3 : decode cX9_next 3 = .ok (.iconst 4, 1) := by decide +kernel
theorem dX9_next_4 : decode cX9_next 4 = .ok (.iload_n 1, 1) := by decide +kernel
theorem dX9_next_5 : decode cX9_next 5 = .ok (.imul, 1) := by decide +kernel
theorem dX9_next_6 : decode cX9_next 6 = .ok (.iadd, 1) := by decide +kernel
theorem dX9_next_7 : decode cX9_next 7 = .ok (.iaload, 1) := by decide +kernel
theorem dX9_next_8 : decode cX9_next 8 = .ok (.aload_n 0, 1) := by decide +kernel
theorem dX9_next_9 : decode cX9_next 9 = .ok (.bipush 14, 2) := by decide +kernel
theorem dX9_next_11 : decode cX9_next 11 = .ok (.iconst 4, 1) := by decide +kernel
theorem dX9_next_12 : decode cX9_next 12 = .ok (.iload_n 1, 1) := by decide +kernel
theorem dX9_next_13 : decode cX9_next 13 = .ok (.imul, 1) := by decide +kernel
theorem dX9_next_14 : decode cX9_next 14 = .ok (.iadd, 1) := by decide +kernel
theorem dX9_next_15 : decode cX9_next 15 = .ok (.iconst 1, 1) := by decide +kernel
theorem dX9_next_16 : decode cX9_next 16 = .ok (.iadd, 1) := by decide +kernel
theorem dX9_next_17 : decode cX9_next 17 = .ok (.iaload, 1) := by decide +kernel
theorem dX9_next_18 : decode cX9_next 18 = .ok (.iconst 1, 1) := by decide +kernel
theorem dX9_next_19 : decode cX9_next 19 = .ok (.invokestatic 60, 3) := by decide +kernel
theorem dX9_next_22 : decode cX9_next 22 = .ok (.invokestatic 63, 3) := by decide +kernel
theorem dX9_next_25 : decode cX9_next 25 = .ok (.ireturn, 1) := by decide +kernel
theorem dX9_presses_0 : decode cX9_presses 0 = .ok (.aload_n 1, 1) := by decide +kernel
theorem dX9_presses_1 : decode cX9_presses 1 = .ok (.iload_n 2, 1) := by decide +kernel
theorem dX9_presses_2 : decode cX9_presses 2 = .ok (.invokestatic 82, 3) := by decide +kernel
theorem dX9_presses_5 : decode cX9_presses 5 = .ok (.istore 4, 2) := by decide +kernel
theorem dX9_presses_7 : decode cX9_presses 7 = .ok (.bipush 14, 2) := by decide +kernel
theorem dX9_presses_9 : decode cX9_presses 9 = .ok (.iconst 4, 1) := by decide +kernel
theorem dX9_presses_10 : decode cX9_presses 10 = .ok (.iload_n 2, 1) := by decide +kernel
theorem dX9_presses_11 : decode cX9_presses 11 = .ok (.imul, 1) := by decide +kernel
theorem dX9_presses_12 : decode cX9_presses 12 = .ok (.iadd, 1) := by decide +kernel
theorem dX9_presses_13 : decode cX9_presses 13 = .ok (.istore 5, 2) := by decide +kernel
theorem dX9_presses_15 : decode cX9_presses 15 = .ok (.aload_n 1, 1) := by decide +kernel
theorem dX9_presses_16 : decode cX9_presses 16 = .ok (.iload 5, 2) := by decide +kernel
theorem dX9_presses_18 : decode cX9_presses 18 = .ok (.iconst 2, 1) := by decide +kernel
theorem dX9_presses_19 : decode cX9_presses 19 = .ok (.iadd, 1) := by decide +kernel
theorem dX9_presses_20 : decode cX9_presses 20 = .ok (.dup2, 1) := by decide +kernel
theorem dX9_presses_21 : decode cX9_presses 21 = .ok (.iaload, 1) := by decide +kernel
theorem dX9_presses_22 : decode cX9_presses 22 = .ok (.iconst 1, 1) := by decide +kernel
theorem dX9_presses_23 : decode cX9_presses 23 = .ok (.isub, 1) := by decide +kernel
theorem dX9_presses_24 : decode cX9_presses 24 = .ok (.iastore, 1) := by decide +kernel
theorem dX9_presses_25 : decode cX9_presses 25 = .ok (.aload_n 1, 1) := by decide +kernel
theorem dX9_presses_26 : decode cX9_presses 26 = .ok (.iload 5, 2) := by decide +kernel
theorem dX9_presses_28 : decode cX9_presses 28 = .ok (.iconst 1, 1) := by decide +kernel
theorem dX9_presses_29 : decode cX9_presses 29 = .ok (.iadd, 1) := by decide +kernel
theorem dX9_presses_30 : decode cX9_presses 30 = .ok (.aload_n 1, 1) := by decide +kernel
theorem dX9_presses_31 : decode cX9_presses 31 = .ok (.iload 5, 2) := by decide +kernel
theorem dX9_presses_33 : decode cX9_presses 33 = .ok (.iconst 1, 1) := by decide +kernel
theorem dX9_presses_34 : decode cX9_presses 34 = .ok (.iadd, 1) := by decide +kernel
theorem dX9_presses_35 : decode cX9_presses 35 = .ok (.iaload, 1) := by decide +kernel
theorem dX9_presses_36 : decode cX9_presses 36 = .ok (.iconst 1, 1) := by decide +kernel
theorem dX9_presses_37 : decode cX9_presses 37 = .ok (.invokestatic 60, 3) := by decide +kernel
theorem dX9_presses_40 : decode cX9_presses 40 = .ok (.iastore, 1) := by decide +kernel
theorem dX9_presses_41 : decode cX9_presses 41 = .ok (.aload_n 1, 1) := by decide +kernel
theorem dX9_presses_42 : decode cX9_presses 42 = .ok (.iload 5, 2) := by decide +kernel
theorem dX9_presses_44 : decode cX9_presses 44 = .ok (.iconst 3, 1) := by decide +kernel
theorem dX9_presses_45 : decode cX9_presses 45 = .ok (.iadd, 1) := by decide +kernel
theorem dX9_presses_46 : decode cX9_presses 46 = .ok (.dup2, 1) := by decide +kernel
theorem dX9_presses_47 : decode cX9_presses 47 = .ok (.iaload, 1) := by decide +kernel
theorem dX9_presses_48 : decode cX9_presses 48 = .ok (.iconst 1, 1) := by decide +kernel
theorem dX9_presses_49 : decode cX9_presses 49 = .ok (.iadd, 1) := by decide +kernel
theorem dX9_presses_50 : decode cX9_presses 50 = .ok (.iastore, 1) := by decide +kernel
theorem dX9_presses_51 : decode cX9_presses 51 = .ok (.bipush 7, 2) := by decide +kernel
theorem dX9_presses_53 : decode cX9_presses 53 = .ok (.istore 6, 2) := by decide +kernel
theorem dX9_presses_55 : decode cX9_presses 55 = .ok (.iload 6, 2) := by decide +kernel
theorem dX9_presses_57 : decode cX9_presses 57 = .ok (.ifCond .le 25, 3) := by decide +kernel
theorem dX9_presses_60 : decode cX9_presses 60 = .ok (.aload_n 1, 1) := by decide +kernel
theorem dX9_presses_61 : decode cX9_presses 61 = .ok (.bipush 6, 2) := by decide +kernel
theorem dX9_presses_63 : decode cX9_presses 63 = .ok (.iload 6, 2) := by decide +kernel
theorem dX9_presses_65 : decode cX9_presses 65 = .ok (.iadd, 1) := by decide +kernel
theorem dX9_presses_66 : decode cX9_presses 66 = .ok (.aload_n 1, 1) := by decide +kernel
theorem dX9_presses_67 : decode cX9_presses 67 = .ok (.bipush 6, 2) := by decide +kernel
theorem dX9_presses_69 : decode cX9_presses 69 = .ok (.iload 6, 2) := by decide +kernel
theorem dX9_presses_71 : decode cX9_presses 71 = .ok (.iadd, 1) := by decide +kernel
theorem dX9_presses_72 : decode cX9_presses 72 = .ok (.iconst 1, 1) := by decide +kernel
theorem dX9_presses_73 : decode cX9_presses 73 = .ok (.isub, 1) := by decide +kernel
theorem dX9_presses_74 : decode cX9_presses 74 = .ok (.iaload, 1) := by decide +kernel
theorem dX9_presses_75 : decode cX9_presses 75 = .ok (.iastore, 1) := by decide +kernel
theorem dX9_presses_76 : decode cX9_presses 76 = .ok (.iinc 6 (-1), 3) := by decide +kernel
theorem dX9_presses_79 : decode cX9_presses 79 = .ok (.goto (-24), 3) := by decide +kernel
theorem dX9_presses_82 : decode cX9_presses 82 = .ok (.aload_n 1, 1) := by decide +kernel
theorem dX9_presses_83 : decode cX9_presses 83 = .ok (.bipush 6, 2) := by decide +kernel
theorem dX9_presses_85 : decode cX9_presses 85 = .ok (.iload 4, 2) := by decide +kernel
theorem dX9_presses_87 : decode cX9_presses 87 = .ok (.iastore, 1) := by decide +kernel
theorem dX9_presses_88 : decode cX9_presses 88 = .ok (.aload_n 1, 1) := by decide +kernel
theorem dX9_presses_89 : decode cX9_presses 89 = .ok (.iconst 5, 1) := by decide +kernel
theorem dX9_presses_90 : decode cX9_presses 90 = .ok (.dup2, 1) := by decide +kernel
theorem dX9_presses_91 : decode cX9_presses 91 = .ok (.iaload, 1) := by decide +kernel
theorem dX9_presses_92 : decode cX9_presses 92 = .ok (.aload_n 1, 1) := by decide +kernel
theorem dX9_presses_93 : decode cX9_presses 93 = .ok (.iconst 5, 1) := by decide +kernel
theorem dX9_presses_94 : decode cX9_presses 94 = .ok (.iaload, 1) := by decide +kernel
theorem dX9_presses_95 : decode cX9_presses 95 = .ok (.bipush 8, 2) := by decide +kernel
theorem dX9_presses_97 : decode cX9_presses 97 = .ok (.if_icmp .ge 7, 3) := by decide +kernel
theorem dX9_presses_100 : decode cX9_presses 100 = .ok (.iconst 1, 1) := by decide +kernel
theorem dX9_presses_101 : decode cX9_presses 101 = .ok (.goto 4, 3) := by decide +kernel
theorem dX9_presses_104 : decode cX9_presses 104 = .ok (.iconst 0, 1) := by decide +kernel
theorem dX9_presses_105 : decode cX9_presses 105 = .ok (.iadd, 1) := by decide +kernel
theorem dX9_presses_106 : decode cX9_presses 106 = .ok (.iastore, 1) := by decide +kernel
theorem dX9_presses_107 : decode cX9_presses 107 = .ok (.aload_n 0, 1) := by decide +kernel
theorem dX9_presses_108 : decode cX9_presses 108 = .ok (.aload_n 1, 1) := by decide +kernel
theorem dX9_presses_109 : decode cX9_presses 109 = .ok (.iload_n 3, 1) := by decide +kernel
theorem dX9_presses_110 : decode cX9_presses 110 = .ok (.iload 4, 2) := by decide +kernel
theorem dX9_presses_112 : decode cX9_presses 112 = .ok (.invokevirtual 86, 3) := by decide +kernel
theorem dX9_presses_115 : decode cX9_presses 115 = .ok (.ireturn, 1) := by decide +kernel
theorem dX9_ones_0 : decode cX9_ones 0 = .ok (.iload_n 0, 1) := by decide +kernel
theorem dX9_ones_1 : decode cX9_ones 1 = .ok (.iconst 1, 1) := by decide +kernel
theorem dX9_ones_2 : decode cX9_ones 2 = .ok (.iand, 1) := by decide +kernel
theorem dX9_ones_3 : decode cX9_ones 3 = .ok (.iload_n 0, 1) := by decide +kernel
theorem dX9_ones_4 : decode cX9_ones 4 = .ok (.iconst 1, 1) := by decide +kernel
theorem dX9_ones_5 : decode cX9_ones 5 = .ok (.ishr, 1) := by decide +kernel
theorem dX9_ones_6 : decode cX9_ones 6 = .ok (.iconst 1, 1) := by decide +kernel
theorem dX9_ones_7 : decode cX9_ones 7 = .ok (.iand, 1) := by decide +kernel
theorem dX9_ones_8 : decode cX9_ones 8 = .ok (.iadd, 1) := by decide +kernel
theorem dX9_ones_9 : decode cX9_ones 9 = .ok (.iload_n 0, 1) := by decide +kernel
theorem dX9_ones_10 : decode cX9_ones 10 = .ok (.iconst 2, 1) := by decide +kernel
theorem dX9_ones_11 : decode cX9_ones 11 = .ok (.ishr, 1) := by decide +kernel
theorem dX9_ones_12 : decode cX9_ones 12 = .ok (.iconst 1, 1) := by decide +kernel
theorem dX9_ones_13 : decode cX9_ones 13 = .ok (.iand, 1) := by decide +kernel
theorem dX9_ones_14 : decode cX9_ones 14 = .ok (.iadd, 1) := by decide +kernel
theorem dX9_ones_15 : decode cX9_ones 15 = .ok (.ireturn, 1) := by decide +kernel
theorem dX9_sends_0 : decode cX9_sends 0 = .ok (.aload_n 0, 1) := by decide +kernel
theorem dX9_sends_1 : decode cX9_sends 1 = .ok (.aload_n 0, 1) := by decide +kernel
theorem dX9_sends_2 : decode cX9_sends 2 = .ok (.getfield 7, 3) := by decide +kernel
theorem dX9_sends_5 : decode cX9_sends 5 = .ok (.iload_n 2, 1) := by decide +kernel
theorem dX9_sends_6 : decode cX9_sends 6 = .ok (.aload_n 0, 1) := by decide +kernel
theorem dX9_sends_7 : decode cX9_sends 7 = .ok (.getfield 7, 3) := by decide +kernel
theorem dX9_sends_10 : decode cX9_sends 10 = .ok (.bipush 6, 2) := by decide +kernel
theorem dX9_sends_12 : decode cX9_sends 12 = .ok (.iload_n 1, 1) := by decide +kernel
theorem dX9_sends_13 : decode cX9_sends 13 = .ok (.iadd, 1) := by decide +kernel
theorem dX9_sends_14 : decode cX9_sends 14 = .ok (.iaload, 1) := by decide +kernel
theorem dX9_sends_15 : decode cX9_sends 15 = .ok (.invokevirtual 86, 3) := by decide +kernel
theorem dX9_sends_18 : decode cX9_sends 18 = .ok (.istore_n 3, 1) := by decide +kernel
theorem dX9_sends_19 : decode cX9_sends 19 = .ok (.aload_n 0, 1) := by decide +kernel
theorem dX9_sends_20 : decode cX9_sends 20 = .ok (.getfield 7, 3) := by decide +kernel
theorem dX9_sends_23 : decode cX9_sends 23 = .ok (.iconst 3, 1) := by decide +kernel
theorem dX9_sends_24 : decode cX9_sends 24 = .ok (.dup2, 1) := by decide +kernel
theorem dX9_sends_25 : decode cX9_sends 25 = .ok (.iaload, 1) := by decide +kernel
theorem dX9_sends_26 : decode cX9_sends 26 = .ok (.iconst 1, 1) := by decide +kernel
theorem dX9_sends_27 : decode cX9_sends 27 = .ok (.iadd, 1) := by decide +kernel
theorem dX9_sends_28 : decode cX9_sends 28 = .ok (.iastore, 1) := by decide +kernel
theorem dX9_sends_29 : decode cX9_sends 29 = .ok (.aload_n 0, 1) := by decide +kernel
theorem dX9_sends_30 : decode cX9_sends 30 = .ok (.getfield 7, 3) := by decide +kernel
theorem dX9_sends_33 : decode cX9_sends 33 = .ok (.iconst 4, 1) := by decide +kernel
theorem dX9_sends_34 : decode cX9_sends 34 = .ok (.dup2, 1) := by decide +kernel
theorem dX9_sends_35 : decode cX9_sends 35 = .ok (.iaload, 1) := by decide +kernel
theorem dX9_sends_36 : decode cX9_sends 36 = .ok (.iload_n 3, 1) := by decide +kernel
theorem dX9_sends_37 : decode cX9_sends 37 = .ok (.invokestatic 89, 3) := by decide +kernel
theorem dX9_sends_40 : decode cX9_sends 40 = .ok (.iadd, 1) := by decide +kernel
theorem dX9_sends_41 : decode cX9_sends 41 = .ok (.iastore, 1) := by decide +kernel
theorem dX9_sends_42 : decode cX9_sends 42 = .ok (.iload_n 3, 1) := by decide +kernel
theorem dX9_sends_43 : decode cX9_sends 43 = .ok (.ireturn, 1) := by decide +kernel
theorem dX9_changes_0 : decode cX9_changes 0 = .ok (.aload_n 0, 1) := by decide +kernel
theorem dX9_changes_1 : decode cX9_changes 1 = .ok (.getfield 7, 3) := by decide +kernel
theorem dX9_changes_4 : decode cX9_changes 4 = .ok (.iload_n 1, 1) := by decide +kernel
theorem dX9_changes_5 : decode cX9_changes 5 = .ok (.iaload, 1) := by decide +kernel
theorem dX9_changes_6 : decode cX9_changes 6 = .ok (.istore_n 3, 1) := by decide +kernel
theorem dX9_changes_7 : decode cX9_changes 7 = .ok (.aload_n 0, 1) := by decide +kernel
theorem dX9_changes_8 : decode cX9_changes 8 = .ok (.getfield 7, 3) := by decide +kernel
theorem dX9_changes_11 : decode cX9_changes 11 = .ok (.iload_n 1, 1) := by decide +kernel
theorem dX9_changes_12 : decode cX9_changes 12 = .ok (.iload_n 2, 1) := by decide +kernel
theorem dX9_changes_13 : decode cX9_changes 13 = .ok (.iastore, 1) := by decide +kernel
theorem dX9_changes_14 : decode cX9_changes 14 = .ok (.iload_n 3, 1) := by decide +kernel
theorem dX9_changes_15 : decode cX9_changes 15 = .ok (.ireturn, 1) := by decide +kernel
theorem dX9_make_0 : decode cX9_make 0 = .ok (.aload_n 0, 1) := by decide +kernel
theorem dX9_make_1 : decode cX9_make 1 = .ok (.iconst 0, 1) := by decide +kernel
theorem dX9_make_2 : decode cX9_make 2 = .ok (.putfield 25, 3) := by decide +kernel
theorem dX9_make_5 : decode cX9_make 5 = .ok (.iload_n 1, 1) := by decide +kernel
theorem dX9_make_6 : decode cX9_make 6 = .ok (.invokestatic 92, 3) := by decide +kernel
theorem dX9_make_9 : decode cX9_make 9 = .ok (.ifCond .ne 9, 3) := by decide +kernel
theorem dX9_make_12 : decode cX9_make 12 = .ok (.aload_n 0, 1) := by decide +kernel
theorem dX9_make_13 : decode cX9_make 13 = .ok (.iconst 1, 1) := by decide +kernel
theorem dX9_make_14 : decode cX9_make 14 = .ok (.invokevirtual 44, 3) := by decide +kernel
theorem dX9_make_17 : decode cX9_make 17 = .ok (.ireturn, 1) := by decide +kernel
theorem dX9_make_18 : decode cX9_make 18 = .ok (.iload_n 2, 1) := by decide +kernel
theorem dX9_make_19 : decode cX9_make 19 = .ok (.iconst 0, 1) := by decide +kernel
theorem dX9_make_20 : decode cX9_make 20 = .ok (.sipush 9999, 3) := by decide +kernel
theorem dX9_make_23 : decode cX9_make 23 = .ok (.invokestatic 29, 3) := by decide +kernel
theorem dX9_make_26 : decode cX9_make 26 = .ok (.ifCond .eq 14, 3) := by decide +kernel
theorem dX9_make_29 : decode cX9_make 29 = .ok (.iload_n 3, 1) := by decide +kernel
theorem dX9_make_30 : decode cX9_make 30 = .ok (.iconst 0, 1) := by decide +kernel
theorem dX9_make_31 : decode cX9_make 31 = .ok (.sipush 9999, 3) := by decide +kernel
theorem dX9_make_34 : decode cX9_make 34 = .ok (.invokestatic 29, 3) := by decide +kernel
theorem dX9_make_37 : decode cX9_make 37 = .ok (.ifCond .ne 9, 3) := by decide +kernel
theorem dX9_make_40 : decode cX9_make 40 = .ok (.aload_n 0, 1) := by decide +kernel
theorem dX9_make_41 : decode cX9_make 41 = .ok (.iconst 2, 1) := by decide +kernel
theorem dX9_make_42 : decode cX9_make 42 = .ok (.invokevirtual 44, 3) := by decide +kernel
theorem dX9_make_45 : decode cX9_make 45 = .ok (.ireturn, 1) := by decide +kernel
theorem dX9_make_46 : decode cX9_make 46 = .ok (.aload_n 0, 1) := by decide +kernel
theorem dX9_make_47 : decode cX9_make 47 = .ok (.invokevirtual 95, 3) := by decide +kernel
theorem dX9_make_50 : decode cX9_make 50 = .ok (.aload_n 0, 1) := by decide +kernel
theorem dX9_make_51 : decode cX9_make 51 = .ok (.getfield 7, 3) := by decide +kernel
theorem dX9_make_54 : decode cX9_make 54 = .ok (.bipush 14, 2) := by decide +kernel
theorem dX9_make_56 : decode cX9_make 56 = .ok (.iconst 4, 1) := by decide +kernel
theorem dX9_make_57 : decode cX9_make 57 = .ok (.iload_n 1, 1) := by decide +kernel
theorem dX9_make_58 : decode cX9_make 58 = .ok (.imul, 1) := by decide +kernel
theorem dX9_make_59 : decode cX9_make 59 = .ok (.iadd, 1) := by decide +kernel
theorem dX9_make_60 : decode cX9_make 60 = .ok (.iload_n 2, 1) := by decide +kernel
theorem dX9_make_61 : decode cX9_make 61 = .ok (.iastore, 1) := by decide +kernel
theorem dX9_make_62 : decode cX9_make 62 = .ok (.aload_n 0, 1) := by decide +kernel
theorem dX9_make_63 : decode cX9_make 63 = .ok (.bipush 14, 2) := by decide +kernel
theorem dX9_make_65 : decode cX9_make 65 = .ok (.iconst 4, 1) := by decide +kernel
theorem dX9_make_66 : decode cX9_make 66 = .ok (.iload_n 1, 1) := by decide +kernel
theorem dX9_make_67 : decode cX9_make 67 = .ok (.imul, 1) := by decide +kernel
theorem dX9_make_68 : decode cX9_make 68 = .ok (.iadd, 1) := by decide +kernel
theorem dX9_make_69 : decode cX9_make 69 = .ok (.iconst 1, 1) := by decide +kernel
theorem dX9_make_70 : decode cX9_make 70 = .ok (.iadd, 1) := by decide +kernel
theorem dX9_make_71 : decode cX9_make 71 = .ok (.iload_n 3, 1) := by decide +kernel
theorem dX9_make_72 : decode cX9_make 72 = .ok (.invokevirtual 98, 3) := by decide +kernel
theorem dX9_make_75 : decode cX9_make 75 = .ok (.ireturn, 1) := by decide +kernel
theorem dX9_battery_0 : decode cX9_battery 0 = .ok (.aload_n 0, 1) := by decide +kernel
theorem dX9_battery_1 : decode cX9_battery 1 = .ok (.iconst 0, 1) := by decide +kernel
theorem dX9_battery_2 : decode cX9_battery 2 = .ok (.putfield 25, 3) := by decide +kernel
theorem dX9_battery_5 : decode cX9_battery 5 = .ok (.iload_n 1, 1) := by decide +kernel
theorem dX9_battery_6 : decode cX9_battery 6 = .ok (.invokestatic 92, 3) := by decide +kernel
theorem dX9_battery_9 : decode cX9_battery 9 = .ok (.ifCond .ne 9, 3) := by decide +kernel
theorem dX9_battery_12 : decode cX9_battery 12 = .ok (.aload_n 0, 1) := by decide +kernel
theorem dX9_battery_13 : decode cX9_battery 13 = .ok (.iconst 1, 1) := by decide +kernel
theorem dX9_battery_14 : decode cX9_battery 14 = .ok (.invokevirtual 44, 3) := by decide +kernel
theorem dX9_battery_17 : decode cX9_battery 17 = .ok (.ireturn, 1) := by decide +kernel
theorem dX9_battery_18 : decode cX9_battery 18 = .ok (.iload_n 2, 1) := by decide +kernel
theorem dX9_battery_19 : decode cX9_battery 19 = .ok (.iconst 0, 1) := by decide +kernel
theorem dX9_battery_20 : decode cX9_battery 20 = .ok (.sipush 999, 3) := by decide +kernel
theorem dX9_battery_23 : decode cX9_battery 23 = .ok (.invokestatic 29, 3) := by decide +kernel
theorem dX9_battery_26 : decode cX9_battery 26 = .ok (.ifCond .ne 9, 3) := by decide +kernel
theorem dX9_battery_29 : decode cX9_battery 29 = .ok (.aload_n 0, 1) := by decide +kernel
theorem dX9_battery_30 : decode cX9_battery 30 = .ok (.iconst 2, 1) := by decide +kernel
theorem dX9_battery_31 : decode cX9_battery 31 = .ok (.invokevirtual 44, 3) := by decide +kernel
theorem dX9_battery_34 : decode cX9_battery 34 = .ok (.ireturn, 1) := by decide +kernel
theorem dX9_battery_35 : decode cX9_battery 35 = .ok (.aload_n 0, 1) := by decide +kernel
theorem dX9_battery_36 : decode cX9_battery 36 = .ok (.invokevirtual 95, 3) := by decide +kernel
theorem dX9_battery_39 : decode cX9_battery 39 = .ok (.aload_n 0, 1) := by decide +kernel
theorem dX9_battery_40 : decode cX9_battery 40 = .ok (.bipush 14, 2) := by decide +kernel
theorem dX9_battery_42 : decode cX9_battery 42 = .ok (.iconst 4, 1) := by decide +kernel
theorem dX9_battery_43 : decode cX9_battery 43 = .ok (.iload_n 1, 1) := by decide +kernel
theorem dX9_battery_44 : decode cX9_battery 44 = .ok (.imul, 1) := by decide +kernel
theorem dX9_battery_45 : decode cX9_battery 45 = .ok (.iadd, 1) := by decide +kernel
theorem dX9_battery_46 : decode cX9_battery 46 = .ok (.iconst 2, 1) := by decide +kernel
theorem dX9_battery_47 : decode cX9_battery 47 = .ok (.iadd, 1) := by decide +kernel
theorem dX9_battery_48 : decode cX9_battery 48 = .ok (.iload_n 2, 1) := by decide +kernel
theorem dX9_battery_49 : decode cX9_battery 49 = .ok (.invokevirtual 98, 3) := by decide +kernel
theorem dX9_battery_52 : decode cX9_battery 52 = .ok (.ireturn, 1) := by decide +kernel
theorem dX9_press_0 : decode cX9_press 0 = .ok (.aload_n 0, 1) := by decide +kernel
theorem dX9_press_1 : decode cX9_press 1 = .ok (.iconst 0, 1) := by decide +kernel
theorem dX9_press_2 : decode cX9_press 2 = .ok (.putfield 25, 3) := by decide +kernel
theorem dX9_press_5 : decode cX9_press 5 = .ok (.iload_n 1, 1) := by decide +kernel
theorem dX9_press_6 : decode cX9_press 6 = .ok (.invokestatic 92, 3) := by decide +kernel
theorem dX9_press_9 : decode cX9_press 9 = .ok (.ifCond .ne 9, 3) := by decide +kernel
theorem dX9_press_12 : decode cX9_press 12 = .ok (.aload_n 0, 1) := by decide +kernel
theorem dX9_press_13 : decode cX9_press 13 = .ok (.iconst 1, 1) := by decide +kernel
theorem dX9_press_14 : decode cX9_press 14 = .ok (.invokevirtual 44, 3) := by decide +kernel
theorem dX9_press_17 : decode cX9_press 17 = .ok (.ireturn, 1) := by decide +kernel
theorem dX9_press_18 : decode cX9_press 18 = .ok (.iload_n 2, 1) := by decide +kernel
theorem dX9_press_19 : decode cX9_press 19 = .ok (.iconst 0, 1) := by decide +kernel
theorem dX9_press_20 : decode cX9_press 20 = .ok (.bipush 7, 2) := by decide +kernel
theorem dX9_press_22 : decode cX9_press 22 = .ok (.invokestatic 29, 3) := by decide +kernel
theorem dX9_press_25 : decode cX9_press 25 = .ok (.ifCond .ne 9, 3) := by decide +kernel
theorem dX9_press_28 : decode cX9_press 28 = .ok (.aload_n 0, 1) := by decide +kernel
theorem dX9_press_29 : decode cX9_press 29 = .ok (.iconst 2, 1) := by decide +kernel
theorem dX9_press_30 : decode cX9_press 30 = .ok (.invokevirtual 44, 3) := by decide +kernel
theorem dX9_press_33 : decode cX9_press 33 = .ok (.ireturn, 1) := by decide +kernel
theorem dX9_press_34 : decode cX9_press 34 = .ok (.aload_n 0, 1) := by decide +kernel
theorem dX9_press_35 : decode cX9_press 35 = .ok (.getfield 7, 3) := by decide +kernel
theorem dX9_press_38 : decode cX9_press 38 = .ok (.bipush 14, 2) := by decide +kernel
theorem dX9_press_40 : decode cX9_press 40 = .ok (.iconst 4, 1) := by decide +kernel
theorem dX9_press_41 : decode cX9_press 41 = .ok (.iload_n 1, 1) := by decide +kernel
theorem dX9_press_42 : decode cX9_press 42 = .ok (.imul, 1) := by decide +kernel
theorem dX9_press_43 : decode cX9_press 43 = .ok (.iadd, 1) := by decide +kernel
theorem dX9_press_44 : decode cX9_press 44 = .ok (.iconst 2, 1) := by decide +kernel
theorem dX9_press_45 : decode cX9_press 45 = .ok (.iadd, 1) := by decide +kernel
theorem dX9_press_46 : decode cX9_press 46 = .ok (.iaload, 1) := by decide +kernel
theorem dX9_press_47 : decode cX9_press 47 = .ok (.ifCond .ne 9, 3) := by decide +kernel
theorem dX9_press_50 : decode cX9_press 50 = .ok (.aload_n 0, 1) := by decide +kernel
theorem dX9_press_51 : decode cX9_press 51 = .ok (.iconst 3, 1) := by decide +kernel
theorem dX9_press_52 : decode cX9_press 52 = .ok (.invokevirtual 44, 3) := by decide +kernel
theorem dX9_press_55 : decode cX9_press 55 = .ok (.ireturn, 1) := by decide +kernel
theorem dX9_press_56 : decode cX9_press 56 = .ok (.aload_n 0, 1) := by decide +kernel
theorem dX9_press_57 : decode cX9_press 57 = .ok (.invokevirtual 95, 3) := by decide +kernel
theorem dX9_press_60 : decode cX9_press 60 = .ok (.aload_n 0, 1) := by decide +kernel
theorem dX9_press_61 : decode cX9_press 61 = .ok (.aload_n 0, 1) := by decide +kernel
theorem dX9_press_62 : decode cX9_press 62 = .ok (.getfield 7, 3) := by decide +kernel
theorem dX9_press_65 : decode cX9_press 65 = .ok (.iload_n 1, 1) := by decide +kernel
theorem dX9_press_66 : decode cX9_press 66 = .ok (.iload_n 2, 1) := by decide +kernel
theorem dX9_press_67 : decode cX9_press 67 = .ok (.invokevirtual 101, 3) := by decide +kernel
theorem dX9_press_70 : decode cX9_press 70 = .ok (.ireturn, 1) := by decide +kernel
theorem dX9_again_0 : decode cX9_again 0 = .ok (.aload_n 0, 1) := by decide +kernel
theorem dX9_again_1 : decode cX9_again 1 = .ok (.iconst 0, 1) := by decide +kernel
theorem dX9_again_2 : decode cX9_again 2 = .ok (.putfield 25, 3) := by decide +kernel
theorem dX9_again_5 : decode cX9_again 5 = .ok (.iload_n 1, 1) := by decide +kernel
theorem dX9_again_6 : decode cX9_again 6 = .ok (.iconst 0, 1) := by decide +kernel
theorem dX9_again_7 : decode cX9_again 7 = .ok (.aload_n 0, 1) := by decide +kernel
theorem dX9_again_8 : decode cX9_again 8 = .ok (.getfield 7, 3) := by decide +kernel
theorem dX9_again_11 : decode cX9_again 11 = .ok (.iconst 5, 1) := by decide +kernel
theorem dX9_again_12 : decode cX9_again 12 = .ok (.iaload, 1) := by decide +kernel
theorem dX9_again_13 : decode cX9_again 13 = .ok (.iconst 1, 1) := by decide +kernel
theorem dX9_again_14 : decode cX9_again 14 = .ok (.isub, 1) := by decide +kernel
theorem dX9_again_15 : decode cX9_again 15 = .ok (.invokestatic 29, 3) := by decide +kernel
theorem dX9_again_18 : decode cX9_again 18 = .ok (.ifCond .ne 9, 3) := by decide +kernel
theorem dX9_again_21 : decode cX9_again 21 = .ok (.aload_n 0, 1) := by decide +kernel
theorem dX9_again_22 : decode cX9_again 22 = .ok (.iconst 1, 1) := by decide +kernel
theorem dX9_again_23 : decode cX9_again 23 = .ok (.invokevirtual 44, 3) := by decide +kernel
theorem dX9_again_26 : decode cX9_again 26 = .ok (.ireturn, 1) := by decide +kernel
theorem dX9_again_27 : decode cX9_again 27 = .ok (.iload_n 2, 1) := by decide +kernel
theorem dX9_again_28 : decode cX9_again 28 = .ok (.iconst 0, 1) := by decide +kernel
theorem dX9_again_29 : decode cX9_again 29 = .ok (.bipush 7, 2) := by decide +kernel
theorem dX9_again_31 : decode cX9_again 31 = .ok (.invokestatic 29, 3) := by decide +kernel
theorem dX9_again_34 : decode cX9_again 34 = .ok (.ifCond .ne 9, 3) := by decide +kernel
theorem dX9_again_37 : decode cX9_again 37 = .ok (.aload_n 0, 1) := by decide +kernel
theorem dX9_again_38 : decode cX9_again 38 = .ok (.iconst 2, 1) := by decide +kernel
theorem dX9_again_39 : decode cX9_again 39 = .ok (.invokevirtual 44, 3) := by decide +kernel
theorem dX9_again_42 : decode cX9_again 42 = .ok (.ireturn, 1) := by decide +kernel
theorem dX9_again_43 : decode cX9_again 43 = .ok (.aload_n 0, 1) := by decide +kernel
theorem dX9_again_44 : decode cX9_again 44 = .ok (.invokevirtual 95, 3) := by decide +kernel
theorem dX9_again_47 : decode cX9_again 47 = .ok (.aload_n 0, 1) := by decide +kernel
theorem dX9_again_48 : decode cX9_again 48 = .ok (.iload_n 1, 1) := by decide +kernel
theorem dX9_again_49 : decode cX9_again 49 = .ok (.iload_n 2, 1) := by decide +kernel
theorem dX9_again_50 : decode cX9_again 50 = .ok (.invokevirtual 104, 3) := by decide +kernel
theorem dX9_again_53 : decode cX9_again 53 = .ok (.ireturn, 1) := by decide +kernel
theorem dX9_learnt_0 : decode cX9_learnt 0 = .ok (.iconst 0, 1) := by decide +kernel
theorem dX9_learnt_1 : decode cX9_learnt 1 = .ok (.istore_n 2, 1) := by decide +kernel
theorem dX9_learnt_2 : decode cX9_learnt 2 = .ok (.iconst 0, 1) := by decide +kernel
theorem dX9_learnt_3 : decode cX9_learnt 3 = .ok (.istore_n 3, 1) := by decide +kernel
theorem dX9_learnt_4 : decode cX9_learnt 4 = .ok (.iload_n 3, 1) := by decide +kernel
theorem dX9_learnt_5 : decode cX9_learnt 5 = .ok (.iconst 4, 1) := by decide +kernel
theorem dX9_learnt_6 : decode cX9_learnt 6 = .ok (.if_icmp .ge 22, 3) := by decide +kernel
theorem dX9_learnt_9 : decode cX9_learnt 9 = .ok (.iload_n 2, 1) := by decide +kernel
theorem dX9_learnt_10 : decode cX9_learnt 10 = .ok (.aload_n 0, 1) := by decide +kernel
theorem dX9_learnt_11 : decode cX9_learnt 11 = .ok (.getfield 7, 3) := by decide +kernel
theorem dX9_learnt_14 : decode cX9_learnt 14 = .ok (.iload_n 1, 1) := by decide +kernel
theorem dX9_learnt_15 : decode cX9_learnt 15 = .ok (.iload_n 3, 1) := by decide +kernel
theorem dX9_learnt_16 : decode cX9_learnt 16 = .ok (.invokestatic 56, 3) := by decide +kernel
theorem dX9_learnt_19 : decode cX9_learnt 19 = .ok (.iaload, 1) := by decide +kernel
theorem dX9_learnt_20 : decode cX9_learnt 20 = .ok (.iadd, 1) := by decide +kernel
theorem dX9_learnt_21 : decode cX9_learnt 21 = .ok (.istore_n 2, 1) := by decide +kernel
theorem dX9_learnt_22 : decode cX9_learnt 22 = .ok (.iinc 3 1, 3) := by decide +kernel
theorem dX9_learnt_25 : decode cX9_learnt 25 = .ok (.goto (-21), 3) := by decide +kernel
theorem dX9_learnt_28 : decode cX9_learnt 28 = .ok (.iload_n 2, 1) := by decide +kernel
theorem dX9_learnt_29 : decode cX9_learnt 29 = .ok (.ireturn, 1) := by decide +kernel
theorem dX9_learn_0 : decode cX9_learn 0 = .ok (.aload_n 0, 1) := by decide +kernel
theorem dX9_learn_1 : decode cX9_learn 1 = .ok (.iconst 0, 1) := by decide +kernel
theorem dX9_learn_2 : decode cX9_learn 2 = .ok (.putfield 25, 3) := by decide +kernel
theorem dX9_learn_5 : decode cX9_learn 5 = .ok (.iload_n 1, 1) := by decide +kernel
theorem dX9_learn_6 : decode cX9_learn 6 = .ok (.iload_n 2, 1) := by decide +kernel
theorem dX9_learn_7 : decode cX9_learn 7 = .ok (.invokestatic 107, 3) := by decide +kernel
theorem dX9_learn_10 : decode cX9_learn 10 = .ok (.ifCond .eq 10, 3) := by decide +kernel
theorem dX9_learn_13 : decode cX9_learn 13 = .ok (.iload_n 3, 1) := by decide +kernel
theorem dX9_learn_14 : decode cX9_learn 14 = .ok (.invokestatic 92, 3) := by decide +kernel
theorem dX9_learn_17 : decode cX9_learn 17 = .ok (.ifCond .ne 9, 3) := by decide +kernel
theorem dX9_learn_20 : decode cX9_learn 20 = .ok (.aload_n 0, 1) := by decide +kernel
theorem dX9_learn_21 : decode cX9_learn 21 = .ok (.iconst 1, 1) := by decide +kernel
theorem dX9_learn_22 : decode cX9_learn 22 = .ok (.invokevirtual 44, 3) := by decide +kernel
theorem dX9_learn_25 : decode cX9_learn 25 = .ok (.ireturn, 1) := by decide +kernel
theorem dX9_learn_26 : decode cX9_learn 26 = .ok (.aload_n 0, 1) := by decide +kernel
theorem dX9_learn_27 : decode cX9_learn 27 = .ok (.invokevirtual 95, 3) := by decide +kernel
theorem dX9_learn_30 : decode cX9_learn 30 = .ok (.iload_n 1, 1) := by decide +kernel
theorem dX9_learn_31 : decode cX9_learn 31 = .ok (.iload_n 2, 1) := by decide +kernel
theorem dX9_learn_32 : decode cX9_learn 32 = .ok (.invokestatic 56, 3) := by decide +kernel
theorem dX9_learn_35 : decode cX9_learn 35 = .ok (.istore 4, 2) := by decide +kernel
theorem dX9_learn_37 : decode cX9_learn 37 = .ok (.aload_n 0, 1) := by decide +kernel
theorem dX9_learn_38 : decode cX9_learn 38 = .ok (.getfield 7, 3) := by decide +kernel
theorem dX9_learn_41 : decode cX9_learn 41 = .ok (.iload 4, 2) := by decide +kernel
theorem dX9_learn_43 : decode cX9_learn 43 = .ok (.iconst 1, 1) := by decide +kernel
theorem dX9_learn_44 : decode cX9_learn 44 = .ok (.iastore, 1) := by decide +kernel
theorem dX9_learn_45 : decode cX9_learn 45 = .ok (.aload_n 0, 1) := by decide +kernel
theorem dX9_learn_46 : decode cX9_learn 46 = .ok (.getfield 7, 3) := by decide +kernel
theorem dX9_learn_49 : decode cX9_learn 49 = .ok (.iload 4, 2) := by decide +kernel
theorem dX9_learn_51 : decode cX9_learn 51 = .ok (.iconst 1, 1) := by decide +kernel
theorem dX9_learn_52 : decode cX9_learn 52 = .ok (.iadd, 1) := by decide +kernel
theorem dX9_learn_53 : decode cX9_learn 53 = .ok (.aload_n 0, 1) := by decide +kernel
theorem dX9_learn_54 : decode cX9_learn 54 = .ok (.getfield 7, 3) := by decide +kernel
theorem dX9_learn_57 : decode cX9_learn 57 = .ok (.bipush 14, 2) := by decide +kernel
theorem dX9_learn_59 : decode cX9_learn 59 = .ok (.iconst 4, 1) := by decide +kernel
theorem dX9_learn_60 : decode cX9_learn 60 = .ok (.iload_n 3, 1) := by decide +kernel
theorem dX9_learn_61 : decode cX9_learn 61 = .ok (.imul, 1) := by decide +kernel
theorem dX9_learn_62 : decode cX9_learn 62 = .ok (.iadd, 1) := by decide +kernel
theorem dX9_learn_63 : decode cX9_learn 63 = .ok (.iaload, 1) := by decide +kernel
theorem dX9_learn_64 : decode cX9_learn 64 = .ok (.iastore, 1) := by decide +kernel
theorem dX9_learn_65 : decode cX9_learn 65 = .ok (.aload_n 0, 1) := by decide +kernel
theorem dX9_learn_66 : decode cX9_learn 66 = .ok (.getfield 7, 3) := by decide +kernel
theorem dX9_learn_69 : decode cX9_learn 69 = .ok (.iload 4, 2) := by decide +kernel
theorem dX9_learn_71 : decode cX9_learn 71 = .ok (.iconst 2, 1) := by decide +kernel
theorem dX9_learn_72 : decode cX9_learn 72 = .ok (.iadd, 1) := by decide +kernel
theorem dX9_learn_73 : decode cX9_learn 73 = .ok (.aload_n 0, 1) := by decide +kernel
theorem dX9_learn_74 : decode cX9_learn 74 = .ok (.getfield 7, 3) := by decide +kernel
theorem dX9_learn_77 : decode cX9_learn 77 = .ok (.bipush 14, 2) := by decide +kernel
theorem dX9_learn_79 : decode cX9_learn 79 = .ok (.iconst 4, 1) := by decide +kernel
theorem dX9_learn_80 : decode cX9_learn 80 = .ok (.iload_n 3, 1) := by decide +kernel
theorem dX9_learn_81 : decode cX9_learn 81 = .ok (.imul, 1) := by decide +kernel
theorem dX9_learn_82 : decode cX9_learn 82 = .ok (.iadd, 1) := by decide +kernel
theorem dX9_learn_83 : decode cX9_learn 83 = .ok (.iconst 1, 1) := by decide +kernel
theorem dX9_learn_84 : decode cX9_learn 84 = .ok (.iadd, 1) := by decide +kernel
theorem dX9_learn_85 : decode cX9_learn 85 = .ok (.iaload, 1) := by decide +kernel
theorem dX9_learn_86 : decode cX9_learn 86 = .ok (.iastore, 1) := by decide +kernel
theorem dX9_learn_87 : decode cX9_learn 87 = .ok (.aload_n 0, 1) := by decide +kernel
theorem dX9_learn_88 : decode cX9_learn 88 = .ok (.getfield 7, 3) := by decide +kernel
theorem dX9_learn_91 : decode cX9_learn 91 = .ok (.iload 4, 2) := by decide +kernel
theorem dX9_learn_93 : decode cX9_learn 93 = .ok (.iconst 3, 1) := by decide +kernel
theorem dX9_learn_94 : decode cX9_learn 94 = .ok (.iadd, 1) := by decide +kernel
theorem dX9_learn_95 : decode cX9_learn 95 = .ok (.iconst (-1), 1) := by decide +kernel
theorem dX9_learn_96 : decode cX9_learn 96 = .ok (.iastore, 1) := by decide +kernel
theorem dX9_learn_97 : decode cX9_learn 97 = .ok (.aload_n 0, 1) := by decide +kernel
theorem dX9_learn_98 : decode cX9_learn 98 = .ok (.iload_n 1, 1) := by decide +kernel
theorem dX9_learn_99 : decode cX9_learn 99 = .ok (.invokevirtual 111, 3) := by decide +kernel
theorem dX9_learn_102 : decode cX9_learn 102 = .ok (.ireturn, 1) := by decide +kernel
theorem dX9_forget_0 : decode cX9_forget 0 = .ok (.aload_n 0, 1) := by decide +kernel
theorem dX9_forget_1 : decode cX9_forget 1 = .ok (.iconst 0, 1) := by decide +kernel
theorem dX9_forget_2 : decode cX9_forget 2 = .ok (.putfield 25, 3) := by decide +kernel
theorem dX9_forget_5 : decode cX9_forget 5 = .ok (.iload_n 1, 1) := by decide +kernel
theorem dX9_forget_6 : decode cX9_forget 6 = .ok (.iload_n 2, 1) := by decide +kernel
theorem dX9_forget_7 : decode cX9_forget 7 = .ok (.invokestatic 107, 3) := by decide +kernel
theorem dX9_forget_10 : decode cX9_forget 10 = .ok (.ifCond .ne 9, 3) := by decide +kernel
theorem dX9_forget_13 : decode cX9_forget 13 = .ok (.aload_n 0, 1) := by decide +kernel
theorem dX9_forget_14 : decode cX9_forget 14 = .ok (.iconst 1, 1) := by decide +kernel
theorem dX9_forget_15 : decode cX9_forget 15 = .ok (.invokevirtual 44, 3) := by decide +kernel
theorem dX9_forget_18 : decode cX9_forget 18 = .ok (.ireturn, 1) := by decide +kernel
theorem dX9_forget_19 : decode cX9_forget 19 = .ok (.aload_n 0, 1) := by decide +kernel
theorem dX9_forget_20 : decode cX9_forget 20 = .ok (.invokevirtual 95, 3) := by decide +kernel
theorem dX9_forget_23 : decode cX9_forget 23 = .ok (.aload_n 0, 1) := by decide +kernel
theorem dX9_forget_24 : decode cX9_forget 24 = .ok (.iload_n 1, 1) := by decide +kernel
theorem dX9_forget_25 : decode cX9_forget 25 = .ok (.iload_n 2, 1) := by decide +kernel
theorem dX9_forget_26 : decode cX9_forget 26 = .ok (.invokestatic 56, 3) := by decide +kernel
theorem dX9_forget_29 : decode cX9_forget 29 = .ok (.iconst 0, 1) := by decide +kernel
theorem dX9_forget_30 : decode cX9_forget 30 = .ok (.invokevirtual 98, 3) := by decide +kernel
theorem dX9_forget_33 : decode cX9_forget 33 = .ok (.ireturn, 1) := by decide +kernel
theorem dX9_shut_0 : decode cX9_shut 0 = .ok (.aload_n 0, 1) := by decide +kernel
theorem dX9_shut_1 : decode cX9_shut 1 = .ok (.iconst 0, 1) := by decide +kernel
theorem dX9_shut_2 : decode cX9_shut 2 = .ok (.putfield 25, 3) := by decide +kernel
theorem dX9_shut_5 : decode cX9_shut 5 = .ok (.iload_n 1, 1) := by decide +kernel
theorem dX9_shut_6 : decode cX9_shut 6 = .ok (.invokestatic 33, 3) := by decide +kernel
theorem dX9_shut_9 : decode cX9_shut 9 = .ok (.ifCond .ne 9, 3) := by decide +kernel
theorem dX9_shut_12 : decode cX9_shut 12 = .ok (.aload_n 0, 1) := by decide +kernel
theorem dX9_shut_13 : decode cX9_shut 13 = .ok (.iconst 1, 1) := by decide +kernel
theorem dX9_shut_14 : decode cX9_shut 14 = .ok (.invokevirtual 44, 3) := by decide +kernel
theorem dX9_shut_17 : decode cX9_shut 17 = .ok (.ireturn, 1) := by decide +kernel
theorem dX9_shut_18 : decode cX9_shut 18 = .ok (.aload_n 0, 1) := by decide +kernel
theorem dX9_shut_19 : decode cX9_shut 19 = .ok (.invokevirtual 95, 3) := by decide +kernel
theorem dX9_shut_22 : decode cX9_shut 22 = .ok (.aload_n 0, 1) := by decide +kernel
theorem dX9_shut_23 : decode cX9_shut 23 = .ok (.bipush 30, 2) := by decide +kernel
theorem dX9_shut_25 : decode cX9_shut 25 = .ok (.bipush 22, 2) := by decide +kernel
theorem dX9_shut_27 : decode cX9_shut 27 = .ok (.iload_n 1, 1) := by decide +kernel
theorem dX9_shut_28 : decode cX9_shut 28 = .ok (.imul, 1) := by decide +kernel
theorem dX9_shut_29 : decode cX9_shut 29 = .ok (.iadd, 1) := by decide +kernel
theorem dX9_shut_30 : decode cX9_shut 30 = .ok (.iconst 0, 1) := by decide +kernel
theorem dX9_shut_31 : decode cX9_shut 31 = .ok (.invokevirtual 98, 3) := by decide +kernel
theorem dX9_shut_34 : decode cX9_shut 34 = .ok (.ireturn, 1) := by decide +kernel
theorem dX9_unlock_0 : decode cX9_unlock 0 = .ok (.aload_n 0, 1) := by decide +kernel
theorem dX9_unlock_1 : decode cX9_unlock 1 = .ok (.iconst 0, 1) := by decide +kernel
theorem dX9_unlock_2 : decode cX9_unlock 2 = .ok (.putfield 25, 3) := by decide +kernel
theorem dX9_unlock_5 : decode cX9_unlock 5 = .ok (.iload_n 1, 1) := by decide +kernel
theorem dX9_unlock_6 : decode cX9_unlock 6 = .ok (.invokestatic 33, 3) := by decide +kernel
theorem dX9_unlock_9 : decode cX9_unlock 9 = .ok (.ifCond .ne 9, 3) := by decide +kernel
theorem dX9_unlock_12 : decode cX9_unlock 12 = .ok (.aload_n 0, 1) := by decide +kernel
theorem dX9_unlock_13 : decode cX9_unlock 13 = .ok (.iconst 1, 1) := by decide +kernel
theorem dX9_unlock_14 : decode cX9_unlock 14 = .ok (.invokevirtual 44, 3) := by decide +kernel
theorem dX9_unlock_17 : decode cX9_unlock 17 = .ok (.ireturn, 1) := by decide +kernel
theorem dX9_unlock_18 : decode cX9_unlock 18 = .ok (.aload_n 0, 1) := by decide +kernel
theorem dX9_unlock_19 : decode cX9_unlock 19 = .ok (.invokevirtual 95, 3) := by decide +kernel
theorem dX9_unlock_22 : decode cX9_unlock 22 = .ok (.aload_n 0, 1) := by decide +kernel
theorem dX9_unlock_23 : decode cX9_unlock 23 = .ok (.bipush 30, 2) := by decide +kernel
theorem dX9_unlock_25 : decode cX9_unlock 25 = .ok (.bipush 22, 2) := by decide +kernel
theorem dX9_unlock_27 : decode cX9_unlock 27 = .ok (.iload_n 1, 1) := by decide +kernel
theorem dX9_unlock_28 : decode cX9_unlock 28 = .ok (.imul, 1) := by decide +kernel
theorem dX9_unlock_29 : decode cX9_unlock 29 = .ok (.iadd, 1) := by decide +kernel
theorem dX9_unlock_30 : decode cX9_unlock 30 = .ok (.iconst 1, 1) := by decide +kernel
theorem dX9_unlock_31 : decode cX9_unlock 31 = .ok (.iadd, 1) := by decide +kernel
theorem dX9_unlock_32 : decode cX9_unlock 32 = .ok (.iconst 0, 1) := by decide +kernel
theorem dX9_unlock_33 : decode cX9_unlock 33 = .ok (.invokevirtual 98, 3) := by decide +kernel
theorem dX9_unlock_36 : decode cX9_unlock 36 = .ok (.ireturn, 1) := by decide +kernel
theorem dX9_set_0 : decode cX9_set 0 = .ok (.aload_n 0, 1) := by decide +kernel
theorem dX9_set_1 : decode cX9_set 1 = .ok (.iconst 0, 1) := by decide +kernel
theorem dX9_set_2 : decode cX9_set 2 = .ok (.putfield 25, 3) := by decide +kernel
theorem dX9_set_5 : decode cX9_set 5 = .ok (.iload_n 1, 1) := by decide +kernel
theorem dX9_set_6 : decode cX9_set 6 = .ok (.iconst 0, 1) := by decide +kernel
theorem dX9_set_7 : decode cX9_set 7 = .ok (.iconst 2, 1) := by decide +kernel
theorem dX9_set_8 : decode cX9_set 8 = .ok (.invokestatic 29, 3) := by decide +kernel
theorem dX9_set_11 : decode cX9_set 11 = .ok (.ifCond .ne 9, 3) := by decide +kernel
theorem dX9_set_14 : decode cX9_set 14 = .ok (.aload_n 0, 1) := by decide +kernel
theorem dX9_set_15 : decode cX9_set 15 = .ok (.iconst 1, 1) := by decide +kernel
theorem dX9_set_16 : decode cX9_set 16 = .ok (.invokevirtual 44, 3) := by decide +kernel
theorem dX9_set_19 : decode cX9_set 19 = .ok (.ireturn, 1) := by decide +kernel
theorem dX9_set_20 : decode cX9_set 20 = .ok (.iload_n 2, 1) := by decide +kernel
theorem dX9_set_21 : decode cX9_set 21 = .ok (.iload_n 1, 1) := by decide +kernel
theorem dX9_set_22 : decode cX9_set 22 = .ok (.iconst 2, 1) := by decide +kernel
theorem dX9_set_23 : decode cX9_set 23 = .ok (.if_icmp .ne 7, 3) := by decide +kernel
theorem dX9_set_26 : decode cX9_set 26 = .ok (.iconst 0, 1) := by decide +kernel
theorem dX9_set_27 : decode cX9_set 27 = .ok (.goto 4, 3) := by decide +kernel
theorem dX9_set_30 : decode cX9_set 30 = .ok (.iconst 1, 1) := by decide +kernel
theorem dX9_set_31 : decode cX9_set 31 = .ok (.iload_n 1, 1) := by decide +kernel
theorem dX9_set_32 : decode cX9_set 32 = .ok (.ifCond .ne 8, 3) := by decide +kernel
theorem dX9_set_35 : decode cX9_set 35 = .ok (.bipush 64, 2) := by decide +kernel
theorem dX9_set_37 : decode cX9_set 37 = .ok (.goto 16, 3) := by decide +kernel
theorem dX9_set_40 : decode cX9_set 40 = .ok (.iload_n 1, 1) := by decide +kernel
theorem dX9_set_41 : decode cX9_set 41 = .ok (.iconst 1, 1) := by decide +kernel
theorem dX9_set_42 : decode cX9_set 42 = .ok (.if_icmp .ne 9, 3) := by decide +kernel
theorem dX9_set_45 : decode cX9_set 45 = .ok (.sipush 500, 3) := by decide +kernel
theorem dX9_set_48 : decode cX9_set 48 = .ok (.goto 5, 3) := by decide +kernel
theorem dX9_set_51 : decode cX9_set 51 = .ok (.bipush 20, 2) := by decide +kernel
theorem dX9_set_53 : decode cX9_set 53 = .ok (.invokestatic 29, 3) := by decide +kernel
theorem dX9_set_56 : decode cX9_set 56 = .ok (.ifCond .ne 9, 3) := by decide +kernel
theorem dX9_set_59 : decode cX9_set 59 = .ok (.aload_n 0, 1) := by decide +kernel
theorem dX9_set_60 : decode cX9_set 60 = .ok (.iconst 2, 1) := by decide +kernel
theorem dX9_set_61 : decode cX9_set 61 = .ok (.invokevirtual 44, 3) := by decide +kernel
theorem dX9_set_64 : decode cX9_set 64 = .ok (.ireturn, 1) := by decide +kernel
theorem dX9_set_65 : decode cX9_set 65 = .ok (.aload_n 0, 1) := by decide +kernel
theorem dX9_set_66 : decode cX9_set 66 = .ok (.invokevirtual 95, 3) := by decide +kernel
theorem dX9_set_69 : decode cX9_set 69 = .ok (.aload_n 0, 1) := by decide +kernel
theorem dX9_set_70 : decode cX9_set 70 = .ok (.iload_n 1, 1) := by decide +kernel
theorem dX9_set_71 : decode cX9_set 71 = .ok (.iload_n 2, 1) := by decide +kernel
theorem dX9_set_72 : decode cX9_set 72 = .ok (.invokevirtual 98, 3) := by decide +kernel
theorem dX9_set_75 : decode cX9_set 75 = .ok (.ireturn, 1) := by decide +kernel
theorem dX9_append_0 : decode cX9_append 0 = .ok (.aload_n 0, 1) := by decide +kernel
theorem dX9_append_1 : decode cX9_append 1 = .ok (.iconst 0, 1) := by decide +kernel
theorem dX9_append_2 : decode cX9_append 2 = .ok (.putfield 25, 3) := by decide +kernel
theorem dX9_append_5 : decode cX9_append 5 = .ok (.iload_n 1, 1) := by decide +kernel
theorem dX9_append_6 : decode cX9_append 6 = .ok (.bipush 33, 2) := by decide +kernel
theorem dX9_append_8 : decode cX9_append 8 = .ok (.bipush 126, 2) := by decide +kernel
theorem dX9_append_10 : decode cX9_append 10 = .ok (.invokestatic 29, 3) := by decide +kernel
theorem dX9_append_13 : decode cX9_append 13 = .ok (.ifCond .ne 9, 3) := by decide +kernel
theorem dX9_append_16 : decode cX9_append 16 = .ok (.aload_n 0, 1) := by decide +kernel
theorem dX9_append_17 : decode cX9_append 17 = .ok (.iconst 1, 1) := by decide +kernel
theorem dX9_append_18 : decode cX9_append 18 = .ok (.invokevirtual 44, 3) := by decide +kernel
theorem dX9_append_21 : decode cX9_append 21 = .ok (.ireturn, 1) := by decide +kernel
theorem dX9_append_22 : decode cX9_append 22 = .ok (.aload_n 0, 1) := by decide +kernel
theorem dX9_append_23 : decode cX9_append 23 = .ok (.getfield 114, 3) := by decide +kernel
theorem dX9_append_26 : decode cX9_append 26 = .ok (.bipush 60, 2) := by decide +kernel
theorem dX9_append_28 : decode cX9_append 28 = .ok (.if_icmp .ne 9, 3) := by decide +kernel
theorem dX9_append_31 : decode cX9_append 31 = .ok (.aload_n 0, 1) := by decide +kernel
theorem dX9_append_32 : decode cX9_append 32 = .ok (.iconst 2, 1) := by decide +kernel
theorem dX9_append_33 : decode cX9_append 33 = .ok (.invokevirtual 44, 3) := by decide +kernel
theorem dX9_append_36 : decode cX9_append 36 = .ok (.ireturn, 1) := by decide +kernel
theorem dX9_append_37 : decode cX9_append 37 = .ok (.aload_n 0, 1) := by decide +kernel
theorem dX9_append_38 : decode cX9_append 38 = .ok (.getfield 19, 3) := by decide +kernel
theorem dX9_append_41 : decode cX9_append 41 = .ok (.aload_n 0, 1) := by decide +kernel
theorem dX9_append_42 : decode cX9_append 42 = .ok (.getfield 114, 3) := by decide +kernel
theorem dX9_append_45 : decode cX9_append 45 = .ok (.iload_n 1, 1) := by decide +kernel
theorem dX9_append_46 : decode cX9_append 46 = .ok (.iastore, 1) := by decide +kernel
theorem dX9_append_47 : decode cX9_append 47 = .ok (.aload_n 0, 1) := by decide +kernel
theorem dX9_append_48 : decode cX9_append 48 = .ok (.dup, 1) := by decide +kernel
theorem dX9_append_49 : decode cX9_append 49 = .ok (.getfield 114, 3) := by decide +kernel
theorem dX9_append_52 : decode cX9_append 52 = .ok (.iconst 1, 1) := by decide +kernel
theorem dX9_append_53 : decode cX9_append 53 = .ok (.iadd, 1) := by decide +kernel
theorem dX9_append_54 : decode cX9_append 54 = .ok (.putfield 114, 3) := by decide +kernel
theorem dX9_append_57 : decode cX9_append 57 = .ok (.aload_n 0, 1) := by decide +kernel
theorem dX9_append_58 : decode cX9_append 58 = .ok (.getfield 114, 3) := by decide +kernel
theorem dX9_append_61 : decode cX9_append 61 = .ok (.ireturn, 1) := by decide +kernel
theorem dX9_clearBuffer_0 : decode cX9_clearBuffer 0 = .ok (.aload_n 0, 1) := by decide +kernel
theorem dX9_clearBuffer_1 : decode cX9_clearBuffer 1 = .ok (.iconst 0, 1) := by decide +kernel
theorem dX9_clearBuffer_2 : decode cX9_clearBuffer 2 = .ok (.putfield 25, 3) := by decide +kernel
theorem dX9_clearBuffer_5 : decode cX9_clearBuffer 5 = .ok (.aload_n 0, 1) := by decide +kernel
theorem dX9_clearBuffer_6 : decode cX9_clearBuffer 6 = .ok (.getfield 114, 3) := by decide +kernel
theorem dX9_clearBuffer_9 : decode cX9_clearBuffer 9 = .ok (.istore_n 1, 1) := by decide +kernel
theorem dX9_clearBuffer_10 : decode cX9_clearBuffer 10 = .ok (.aload_n 0, 1) := by decide +kernel
theorem dX9_clearBuffer_11 : decode cX9_clearBuffer 11 = .ok (.iconst 0, 1) := by decide +kernel
theorem dX9_clearBuffer_12 : decode cX9_clearBuffer 12 = .ok (.putfield 114, 3) := by decide +kernel
theorem dX9_clearBuffer_15 : decode cX9_clearBuffer 15 = .ok (.iload_n 1, 1) := by decide +kernel
theorem dX9_clearBuffer_16 : decode cX9_clearBuffer 16 = .ok (.ireturn, 1) := by decide +kernel
theorem dX9_isAt_0 : decode cX9_isAt 0 = .ok (.aload_n 0, 1) := by decide +kernel
theorem dX9_isAt_1 : decode cX9_isAt 1 = .ok (.getfield 117, 3) := by decide +kernel
theorem dX9_isAt_4 : decode cX9_isAt 4 = .ok (.aload_n 0, 1) := by decide +kernel
theorem dX9_isAt_5 : decode cX9_isAt 5 = .ok (.getfield 114, 3) := by decide +kernel
theorem dX9_isAt_8 : decode cX9_isAt 8 = .ok (.if_icmp .ge 24, 3) := by decide +kernel
theorem dX9_isAt_11 : decode cX9_isAt 11 = .ok (.aload_n 0, 1) := by decide +kernel
theorem dX9_isAt_12 : decode cX9_isAt 12 = .ok (.getfield 19, 3) := by decide +kernel
theorem dX9_isAt_15 : decode cX9_isAt 15 = .ok (.aload_n 0, 1) := by decide +kernel
theorem dX9_isAt_16 : decode cX9_isAt 16 = .ok (.getfield 117, 3) := by decide +kernel
theorem dX9_isAt_19 : decode cX9_isAt 19 = .ok (.iaload, 1) := by decide +kernel
theorem dX9_isAt_20 : decode cX9_isAt 20 = .ok (.iload_n 1, 1) := by decide +kernel
theorem dX9_isAt_21 : decode cX9_isAt 21 = .ok (.iload_n 2, 1) := by decide +kernel
theorem dX9_isAt_22 : decode cX9_isAt 22 = .ok (.invokestatic 29, 3) := by decide +kernel
theorem dX9_isAt_25 : decode cX9_isAt 25 = .ok (.ifCond .eq 7, 3) := by decide +kernel
theorem dX9_isAt_28 : decode cX9_isAt 28 = .ok (.iconst 1, 1) := by decide +kernel
theorem dX9_isAt_29 : decode cX9_isAt 29 = .ok (.goto 4, 3) := by decide +kernel
theorem dX9_isAt_32 : decode cX9_isAt 32 = .ok (.iconst 0, 1) := by decide +kernel
theorem dX9_isAt_33 : decode cX9_isAt 33 = .ok (.ireturn, 1) := by decide +kernel
theorem dX9_stops_0 : decode cX9_stops 0 = .ok (.aload_n 0, 1) := by decide +kernel
theorem dX9_stops_1 : decode cX9_stops 1 = .ok (.aload_n 0, 1) := by decide +kernel
theorem dX9_stops_2 : decode cX9_stops 2 = .ok (.getfield 117, 3) := by decide +kernel
theorem dX9_stops_5 : decode cX9_stops 5 = .ok (.aload_n 0, 1) := by decide +kernel
theorem dX9_stops_6 : decode cX9_stops 6 = .ok (.getfield 114, 3) := by decide +kernel
theorem dX9_stops_9 : decode cX9_stops 9 = .ok (.if_icmp .ge 7, 3) := by decide +kernel
theorem dX9_stops_12 : decode cX9_stops 12 = .ok (.iconst 1, 1) := by decide +kernel
theorem dX9_stops_13 : decode cX9_stops 13 = .ok (.goto 4, 3) := by decide +kernel
theorem dX9_stops_16 : decode cX9_stops 16 = .ok (.iconst 0, 1) := by decide +kernel
theorem dX9_stops_17 : decode cX9_stops 17 = .ok (.putfield 120, 3) := by decide +kernel
theorem dX9_stops_20 : decode cX9_stops 20 = .ok (.iconst 0, 1) := by decide +kernel
theorem dX9_stops_21 : decode cX9_stops 21 = .ok (.ireturn, 1) := by decide +kernel
theorem dX9_isDigit_0 : decode cX9_isDigit 0 = .ok (.aload_n 0, 1) := by decide +kernel
theorem dX9_isDigit_1 : decode cX9_isDigit 1 = .ok (.bipush 48, 2) := by decide +kernel
theorem dX9_isDigit_3 : decode cX9_isDigit 3 = .ok (.iload_n 1, 1) := by decide +kernel
theorem dX9_isDigit_4 : decode cX9_isDigit 4 = .ok (.invokevirtual 124, 3) := by decide +kernel
theorem dX9_isDigit_7 : decode cX9_isDigit 7 = .ok (.ifCond .ne 8, 3) := by decide +kernel
theorem dX9_isDigit_10 : decode cX9_isDigit 10 = .ok (.aload_n 0, 1) := by decide +kernel
theorem dX9_isDigit_11 : decode cX9_isDigit 11 = .ok (.invokevirtual 127, 3) := by decide +kernel
theorem dX9_isDigit_14 : decode cX9_isDigit 14 = .ok (.ireturn, 1) := by decide +kernel
theorem dX9_isDigit_15 : decode cX9_isDigit 15 = .ok (.aload_n 0, 1) := by decide +kernel
theorem dX9_isDigit_16 : decode cX9_isDigit 16 = .ok (.getfield 22, 3) := by decide +kernel
theorem dX9_isDigit_19 : decode cX9_isDigit 19 = .ok (.iconst 3, 1) := by decide +kernel
theorem dX9_isDigit_20 : decode cX9_isDigit 20 = .ok (.aload_n 0, 1) := by decide +kernel
theorem dX9_isDigit_21 : decode cX9_isDigit 21 = .ok (.getfield 131, 3) := by decide +kernel
theorem dX9_isDigit_24 : decode cX9_isDigit 24 = .ok (.imul, 1) := by decide +kernel
theorem dX9_isDigit_25 : decode cX9_isDigit 25 = .ok (.iconst 1, 1) := by decide +kernel
theorem dX9_isDigit_26 : decode cX9_isDigit 26 = .ok (.iadd, 1) := by decide +kernel
theorem dX9_isDigit_27 : decode cX9_isDigit 27 = .ok (.aload_n 0, 1) := by decide +kernel
theorem dX9_isDigit_28 : decode cX9_isDigit 28 = .ok (.getfield 19, 3) := by decide +kernel
theorem dX9_isDigit_31 : decode cX9_isDigit 31 = .ok (.aload_n 0, 1) := by decide +kernel
theorem dX9_isDigit_32 : decode cX9_isDigit 32 = .ok (.getfield 117, 3) := by decide +kernel
theorem dX9_isDigit_35 : decode cX9_isDigit 35 = .ok (.iaload, 1) := by decide +kernel
theorem dX9_isDigit_36 : decode cX9_isDigit 36 = .ok (.bipush 48, 2) := by decide +kernel
theorem dX9_isDigit_38 : decode cX9_isDigit 38 = .ok (.isub, 1) := by decide +kernel
theorem dX9_isDigit_39 : decode cX9_isDigit 39 = .ok (.iastore, 1) := by decide +kernel
theorem dX9_isDigit_40 : decode cX9_isDigit 40 = .ok (.aload_n 0, 1) := by decide +kernel
theorem dX9_isDigit_41 : decode cX9_isDigit 41 = .ok (.dup, 1) := by decide +kernel
theorem dX9_isDigit_42 : decode cX9_isDigit 42 = .ok (.getfield 117, 3) := by decide +kernel
theorem dX9_isDigit_45 : decode cX9_isDigit 45 = .ok (.iconst 1, 1) := by decide +kernel
theorem dX9_isDigit_46 : decode cX9_isDigit 46 = .ok (.iadd, 1) := by decide +kernel
theorem dX9_isDigit_47 : decode cX9_isDigit 47 = .ok (.putfield 117, 3) := by decide +kernel
theorem dX9_isDigit_50 : decode cX9_isDigit 50 = .ok (.iconst 1, 1) := by decide +kernel
theorem dX9_isDigit_51 : decode cX9_isDigit 51 = .ok (.ireturn, 1) := by decide +kernel
theorem dX9_areDoors_0 : decode cX9_areDoors 0 = .ok (.aload_n 0, 1) := by decide +kernel
theorem dX9_areDoors_1 : decode cX9_areDoors 1 = .ok (.getfield 22, 3) := by decide +kernel
theorem dX9_areDoors_4 : decode cX9_areDoors 4 = .ok (.iconst 3, 1) := by decide +kernel
theorem dX9_areDoors_5 : decode cX9_areDoors 5 = .ok (.aload_n 0, 1) := by decide +kernel
theorem dX9_areDoors_6 : decode cX9_areDoors 6 = .ok (.getfield 131, 3) := by decide +kernel
theorem dX9_areDoors_9 : decode cX9_areDoors 9 = .ok (.imul, 1) := by decide +kernel
theorem dX9_areDoors_10 : decode cX9_areDoors 10 = .ok (.iconst 2, 1) := by decide +kernel
theorem dX9_areDoors_11 : decode cX9_areDoors 11 = .ok (.iadd, 1) := by decide +kernel
theorem dX9_areDoors_12 : decode cX9_areDoors 12 = .ok (.iconst 0, 1) := by decide +kernel
theorem dX9_areDoors_13 : decode cX9_areDoors 13 = .ok (.iastore, 1) := by decide +kernel
theorem dX9_areDoors_14 : decode cX9_areDoors 14 = .ok (.aload_n 0, 1) := by decide +kernel
theorem dX9_areDoors_15 : decode cX9_areDoors 15 = .ok (.bipush 45, 2) := by decide +kernel
theorem dX9_areDoors_17 : decode cX9_areDoors 17 = .ok (.bipush 45, 2) := by decide +kernel
theorem dX9_areDoors_19 : decode cX9_areDoors 19 = .ok (.invokevirtual 124, 3) := by decide +kernel
theorem dX9_areDoors_22 : decode cX9_areDoors 22 = .ok (.ifCond .eq 15, 3) := by decide +kernel
theorem dX9_areDoors_25 : decode cX9_areDoors 25 = .ok (.aload_n 0, 1) := by decide +kernel
theorem dX9_areDoors_26 : decode cX9_areDoors 26 = .ok (.dup, 1) := by decide +kernel
theorem dX9_areDoors_27 : decode cX9_areDoors 27 = .ok (.getfield 117, 3) := by decide +kernel
theorem dX9_areDoors_30 : decode cX9_areDoors 30 = .ok (.iconst 1, 1) := by decide +kernel
theorem dX9_areDoors_31 : decode cX9_areDoors 31 = .ok (.iadd, 1) := by decide +kernel
theorem dX9_areDoors_32 : decode cX9_areDoors 32 = .ok (.putfield 117, 3) := by decide +kernel
theorem dX9_areDoors_35 : decode cX9_areDoors 35 = .ok (.iconst 1, 1) := by decide +kernel
theorem dX9_areDoors_36 : decode cX9_areDoors 36 = .ok (.ireturn, 1) := by decide +kernel
theorem dX9_areDoors_37 : decode cX9_areDoors 37 = .ok (.aload_n 0, 1) := by decide +kernel
theorem dX9_areDoors_38 : decode cX9_areDoors 38 = .ok (.bipush 48, 2) := by decide +kernel
theorem dX9_areDoors_40 : decode cX9_areDoors 40 = .ok (.bipush 50, 2) := by decide +kernel
theorem dX9_areDoors_42 : decode cX9_areDoors 42 = .ok (.invokevirtual 124, 3) := by decide +kernel
theorem dX9_areDoors_45 : decode cX9_areDoors 45 = .ok (.ifCond .ne 8, 3) := by decide +kernel
theorem dX9_areDoors_48 : decode cX9_areDoors 48 = .ok (.aload_n 0, 1) := by decide +kernel
theorem dX9_areDoors_49 : decode cX9_areDoors 49 = .ok (.invokevirtual 127, 3) := by decide +kernel
theorem dX9_areDoors_52 : decode cX9_areDoors 52 = .ok (.ireturn, 1) := by decide +kernel
theorem dX9_areDoors_53 : decode cX9_areDoors 53 = .ok (.bipush 48, 2) := by decide +kernel
theorem dX9_areDoors_55 : decode cX9_areDoors 55 = .ok (.istore_n 1, 1) := by decide +kernel
theorem dX9_areDoors_56 : decode cX9_areDoors 56 = .ok (.aload_n 0, 1) := by decide +kernel
theorem dX9_areDoors_57 : decode cX9_areDoors 57 = .ok (.iload_n 1, 1) := by decide +kernel
theorem dX9_areDoors_58 : decode cX9_areDoors 58 = .ok (.bipush 50, 2) := by decide +kernel
theorem dX9_areDoors_60 : decode cX9_areDoors 60 = .ok (.invokevirtual 124, 3) := by decide +kernel
theorem dX9_areDoors_63 : decode cX9_areDoors 63 = .ok (.ifCond .eq 58, 3) := by decide +kernel
theorem dX9_areDoors_66 : decode cX9_areDoors 66 = .ok (.aload_n 0, 1) := by decide +kernel
theorem dX9_areDoors_67 : decode cX9_areDoors 67 = .ok (.getfield 22, 3) := by decide +kernel
theorem dX9_areDoors_70 : decode cX9_areDoors 70 = .ok (.iconst 3, 1) := by decide +kernel
theorem dX9_areDoors_71 : decode cX9_areDoors 71 = .ok (.aload_n 0, 1) := by decide +kernel
theorem dX9_areDoors_72 : decode cX9_areDoors 72 = .ok (.getfield 131, 3) := by decide +kernel
theorem dX9_areDoors_75 : decode cX9_areDoors 75 = .ok (.imul, 1) := by decide +kernel
theorem dX9_areDoors_76 : decode cX9_areDoors 76 = .ok (.iconst 2, 1) := by decide +kernel
theorem dX9_areDoors_77 : decode cX9_areDoors 77 = .ok (.iadd, 1) := by decide +kernel
theorem dX9_areDoors_78 : decode cX9_areDoors 78 = .ok (.dup2, 1) := by decide +kernel
theorem dX9_areDoors_79 : decode cX9_areDoors 79 = .ok (.iaload, 1) := by decide +kernel
theorem dX9_areDoors_80 : decode cX9_areDoors 80 = .ok (.iconst 1, 1) := by decide +kernel
theorem dX9_areDoors_81 : decode cX9_areDoors 81 = .ok (.aload_n 0, 1) := by decide +kernel
theorem dX9_areDoors_82 : decode cX9_areDoors 82 = .ok (.getfield 19, 3) := by decide +kernel
theorem dX9_areDoors_85 : decode cX9_areDoors 85 = .ok (.aload_n 0, 1) := by decide +kernel
theorem dX9_areDoors_86 : decode cX9_areDoors 86 = .ok (.getfield 117, 3) := by decide +kernel
theorem dX9_areDoors_89 : decode cX9_areDoors 89 = .ok (.iaload, 1) := by decide +kernel
theorem dX9_areDoors_90 : decode cX9_areDoors 90 = .ok (.bipush 48, 2) := by decide +kernel
theorem dX9_areDoors_92 : decode cX9_areDoors 92 = .ok (.isub, 1) := by decide +kernel
theorem dX9_areDoors_93 : decode cX9_areDoors 93 = .ok (.ishl, 1) := by decide +kernel
theorem dX9_areDoors_94 : decode cX9_areDoors 94 = .ok (.ior, 1) := by decide +kernel
theorem dX9_areDoors_95 : decode cX9_areDoors 95 = .ok (.iastore, 1) := by decide +kernel
theorem dX9_areDoors_96 : decode cX9_areDoors 96 = .ok (.aload_n 0, 1) := by decide +kernel
theorem dX9_areDoors_97 : decode cX9_areDoors 97 = .ok (.getfield 19, 3) := by decide +kernel
theorem dX9_areDoors_100 : decode cX9_areDoors 100 = .ok (.aload_n 0, 1) := by decide +kernel
theorem dX9_areDoors_101 : decode cX9_areDoors 101 = .ok (.getfield 117, 3) := by decide +kernel
theorem dX9_areDoors_104 : decode cX9_areDoors 104 = .ok (.iaload, 1) := by decide +kernel
theorem dX9_areDoors_105 : decode cX9_areDoors 105 = .ok (.iconst 1, 1) := by decide +kernel
theorem dX9_areDoors_106 : decode cX9_areDoors 106 = .ok (.iadd, 1) := by decide +kernel
theorem dX9_areDoors_107 : decode cX9_areDoors 107 = .ok (.istore_n 1, 1) := by decide +kernel
theorem dX9_areDoors_108 : decode cX9_areDoors 108 = .ok (.aload_n 0, 1) := by decide +kernel
theorem dX9_areDoors_109 : decode cX9_areDoors 109 = .ok (.dup, 1) := by decide +kernel
theorem dX9_areDoors_110 : decode cX9_areDoors 110 = .ok (.getfield 117, 3) := by decide +kernel
theorem dX9_areDoors_113 : decode cX9_areDoors 113 = .ok (.iconst 1, 1) := by decide +kernel
theorem dX9_areDoors_114 : decode cX9_areDoors 114 = .ok (.iadd, 1) := by decide +kernel
theorem dX9_areDoors_115 : decode cX9_areDoors 115 = .ok (.putfield 117, 3) := by decide +kernel
theorem dX9_areDoors_118 : decode cX9_areDoors 118 = .ok (.goto (-62), 3) := by decide +kernel
theorem dX9_areDoors_121 : decode cX9_areDoors 121 = .ok (.iconst 1, 1) := by decide +kernel
theorem dX9_areDoors_122 : decode cX9_areDoors 122 = .ok (.ireturn, 1) := by decide +kernel
theorem dX9_isPart_0 : decode cX9_isPart 0 = .ok (.aload_n 0, 1) := by decide +kernel
theorem dX9_isPart_1 : decode cX9_isPart 1 = .ok (.getfield 117, 3) := by decide +kernel
theorem dX9_isPart_4 : decode cX9_isPart 4 = .ok (.aload_n 0, 1) := by decide +kernel
theorem dX9_isPart_5 : decode cX9_isPart 5 = .ok (.getfield 114, 3) := by decide +kernel
theorem dX9_isPart_8 : decode cX9_isPart 8 = .ok (.if_icmp .ge 15, 3) := by decide +kernel
theorem dX9_isPart_11 : decode cX9_isPart 11 = .ok (.aload_n 0, 1) := by decide +kernel
theorem dX9_isPart_12 : decode cX9_isPart 12 = .ok (.getfield 19, 3) := by decide +kernel
theorem dX9_isPart_15 : decode cX9_isPart 15 = .ok (.aload_n 0, 1) := by decide +kernel
theorem dX9_isPart_16 : decode cX9_isPart 16 = .ok (.getfield 117, 3) := by decide +kernel
theorem dX9_isPart_19 : decode cX9_isPart 19 = .ok (.iaload, 1) := by decide +kernel
theorem dX9_isPart_20 : decode cX9_isPart 20 = .ok (.goto 4, 3) := by decide +kernel
theorem dX9_isPart_23 : decode cX9_isPart 23 = .ok (.iconst 0, 1) := by decide +kernel
theorem dX9_isPart_24 : decode cX9_isPart 24 = .ok (.istore_n 1, 1) := by decide +kernel
theorem dX9_isPart_25 : decode cX9_isPart 25 = .ok (.aload_n 0, 1) := by decide +kernel
theorem dX9_isPart_26 : decode cX9_isPart 26 = .ok (.getfield 22, 3) := by decide +kernel
theorem dX9_isPart_29 : decode cX9_isPart 29 = .ok (.iconst 3, 1) := by decide +kernel
theorem dX9_isPart_30 : decode cX9_isPart 30 = .ok (.aload_n 0, 1) := by decide +kernel
theorem dX9_isPart_31 : decode cX9_isPart 31 = .ok (.getfield 131, 3) := by decide +kernel
theorem dX9_isPart_34 : decode cX9_isPart 34 = .ok (.imul, 1) := by decide +kernel
theorem dX9_isPart_35 : decode cX9_isPart 35 = .ok (.iload_n 1, 1) := by decide +kernel
theorem dX9_isPart_36 : decode cX9_isPart 36 = .ok (.iastore, 1) := by decide +kernel
theorem dX9_isPart_37 : decode cX9_isPart 37 = .ok (.iload_n 1, 1) := by decide +kernel
theorem dX9_isPart_38 : decode cX9_isPart 38 = .ok (.bipush 102, 2) := by decide +kernel
theorem dX9_isPart_40 : decode cX9_isPart 40 = .ok (.if_icmp .eq 20, 3) := by decide +kernel
theorem dX9_isPart_43 : decode cX9_isPart 43 = .ok (.iload_n 1, 1) := by decide +kernel
theorem dX9_isPart_44 : decode cX9_isPart 44 = .ok (.bipush 114, 2) := by decide +kernel
theorem dX9_isPart_46 : decode cX9_isPart 46 = .ok (.if_icmp .eq 14, 3) := by decide +kernel
theorem dX9_isPart_49 : decode cX9_isPart 49 = .ok (.iload_n 1, 1) := by decide +kernel
theorem dX9_isPart_50 : decode cX9_isPart 50 = .ok (.bipush 99, 2) := by decide +kernel
theorem dX9_isPart_52 : decode cX9_isPart 52 = .ok (.if_icmp .eq 8, 3) := by decide +kernel
theorem dX9_isPart_55 : decode cX9_isPart 55 = .ok (.aload_n 0, 1) := by decide +kernel
theorem dX9_isPart_56 : decode cX9_isPart 56 = .ok (.invokevirtual 127, 3) := by decide +kernel
theorem dX9_isPart_59 : decode cX9_isPart 59 = .ok (.ireturn, 1) := by decide +kernel
theorem dX9_isPart_60 : decode cX9_isPart 60 = .ok (.aload_n 0, 1) := by decide +kernel
theorem dX9_isPart_61 : decode cX9_isPart 61 = .ok (.dup, 1) := by decide +kernel
theorem dX9_isPart_62 : decode cX9_isPart 62 = .ok (.getfield 117, 3) := by decide +kernel
theorem dX9_isPart_65 : decode cX9_isPart 65 = .ok (.iconst 1, 1) := by decide +kernel
theorem dX9_isPart_66 : decode cX9_isPart 66 = .ok (.iadd, 1) := by decide +kernel
theorem dX9_isPart_67 : decode cX9_isPart 67 = .ok (.putfield 117, 3) := by decide +kernel
theorem dX9_isPart_70 : decode cX9_isPart 70 = .ok (.aload_n 0, 1) := by decide +kernel
theorem dX9_isPart_71 : decode cX9_isPart 71 = .ok (.iload_n 1, 1) := by decide +kernel
theorem dX9_isPart_72 : decode cX9_isPart 72 = .ok (.bipush 102, 2) := by decide +kernel
theorem dX9_isPart_74 : decode cX9_isPart 74 = .ok (.if_icmp .ne 8, 3) := by decide +kernel
theorem dX9_isPart_77 : decode cX9_isPart 77 = .ok (.bipush 51, 2) := by decide +kernel
theorem dX9_isPart_79 : decode cX9_isPart 79 = .ok (.goto 16, 3) := by decide +kernel
theorem dX9_isPart_82 : decode cX9_isPart 82 = .ok (.iload_n 1, 1) := by decide +kernel
theorem dX9_isPart_83 : decode cX9_isPart 83 = .ok (.bipush 114, 2) := by decide +kernel
theorem dX9_isPart_85 : decode cX9_isPart 85 = .ok (.if_icmp .ne 8, 3) := by decide +kernel
theorem dX9_isPart_88 : decode cX9_isPart 88 = .ok (.bipush 55, 2) := by decide +kernel
theorem dX9_isPart_90 : decode cX9_isPart 90 = .ok (.goto 5, 3) := by decide +kernel
theorem dX9_isPart_93 : decode cX9_isPart 93 = .ok (.bipush 50, 2) := by decide +kernel
theorem dX9_isPart_95 : decode cX9_isPart 95 = .ok (.invokevirtual 134, 3) := by decide +kernel
theorem dX9_isPart_98 : decode cX9_isPart 98 = .ok (.ifCond .eq 20, 3) := by decide +kernel
theorem dX9_isPart_101 : decode cX9_isPart 101 = .ok (.iload_n 1, 1) := by decide +kernel
theorem dX9_isPart_102 : decode cX9_isPart 102 = .ok (.bipush 99, 2) := by decide +kernel
theorem dX9_isPart_104 : decode cX9_isPart 104 = .ok (.if_icmp .eq 10, 3) := by decide +kernel
theorem dX9_isPart_107 : decode cX9_isPart 107 = .ok (.aload_n 0, 1) := by decide +kernel
theorem dX9_isPart_108 : decode cX9_isPart 108 = .ok (.invokevirtual 137, 3) := by decide +kernel
theorem dX9_isPart_111 : decode cX9_isPart 111 = .ok (.ifCond .eq 7, 3) := by decide +kernel
theorem dX9_isPart_114 : decode cX9_isPart 114 = .ok (.iconst 1, 1) := by decide +kernel
theorem dX9_isPart_115 : decode cX9_isPart 115 = .ok (.goto 4, 3) := by decide +kernel
theorem dX9_isPart_118 : decode cX9_isPart 118 = .ok (.iconst 0, 1) := by decide +kernel
theorem dX9_isPart_119 : decode cX9_isPart 119 = .ok (.ireturn, 1) := by decide +kernel
theorem dX9_isText_0 : decode cX9_isText 0 = .ok (.aload_n 0, 1) := by decide +kernel
theorem dX9_isText_1 : decode cX9_isText 1 = .ok (.iconst 0, 1) := by decide +kernel
theorem dX9_isText_2 : decode cX9_isText 2 = .ok (.putfield 117, 3) := by decide +kernel
theorem dX9_isText_5 : decode cX9_isText 5 = .ok (.aload_n 0, 1) := by decide +kernel
theorem dX9_isText_6 : decode cX9_isText 6 = .ok (.iconst 0, 1) := by decide +kernel
theorem dX9_isText_7 : decode cX9_isText 7 = .ok (.putfield 131, 3) := by decide +kernel
theorem dX9_isText_10 : decode cX9_isText 10 = .ok (.aload_n 0, 1) := by decide +kernel
theorem dX9_isText_11 : decode cX9_isText 11 = .ok (.iconst 0, 1) := by decide +kernel
theorem dX9_isText_12 : decode cX9_isText 12 = .ok (.putfield 120, 3) := by decide +kernel
theorem dX9_isText_15 : decode cX9_isText 15 = .ok (.iconst 1, 1) := by decide +kernel
theorem dX9_isText_16 : decode cX9_isText 16 = .ok (.istore_n 1, 1) := by decide +kernel
theorem dX9_isText_17 : decode cX9_isText 17 = .ok (.iload_n 1, 1) := by decide +kernel
theorem dX9_isText_18 : decode cX9_isText 18 = .ok (.ifCond .eq 52, 3) := by decide +kernel
theorem dX9_isText_21 : decode cX9_isText 21 = .ok (.aload_n 0, 1) := by decide +kernel
theorem dX9_isText_22 : decode cX9_isText 22 = .ok (.invokevirtual 140, 3) := by decide +kernel
theorem dX9_isText_25 : decode cX9_isText 25 = .ok (.ifCond .ne 5, 3) := by decide +kernel
theorem dX9_isText_28 : decode cX9_isText 28 = .ok (.iconst 0, 1) := by decide +kernel
theorem dX9_isText_29 : decode cX9_isText 29 = .ok (.ireturn, 1) := by decide +kernel
theorem dX9_isText_30 : decode cX9_isText 30 = .ok (.aload_n 0, 1) := by decide +kernel
theorem dX9_isText_31 : decode cX9_isText 31 = .ok (.dup, 1) := by decide +kernel
theorem dX9_isText_32 : decode cX9_isText 32 = .ok (.getfield 131, 3) := by decide +kernel
theorem dX9_isText_35 : decode cX9_isText 35 = .ok (.iconst 1, 1) := by decide +kernel
theorem dX9_isText_36 : decode cX9_isText 36 = .ok (.iadd, 1) := by decide +kernel
theorem dX9_isText_37 : decode cX9_isText 37 = .ok (.putfield 131, 3) := by decide +kernel
theorem dX9_isText_40 : decode cX9_isText 40 = .ok (.aload_n 0, 1) := by decide +kernel
theorem dX9_isText_41 : decode cX9_isText 41 = .ok (.bipush 59, 2) := by decide +kernel
theorem dX9_isText_43 : decode cX9_isText 43 = .ok (.bipush 59, 2) := by decide +kernel
theorem dX9_isText_45 : decode cX9_isText 45 = .ok (.invokevirtual 124, 3) := by decide +kernel
theorem dX9_isText_48 : decode cX9_isText 48 = .ok (.istore_n 1, 1) := by decide +kernel
theorem dX9_isText_49 : decode cX9_isText 49 = .ok (.aload_n 0, 1) := by decide +kernel
theorem dX9_isText_50 : decode cX9_isText 50 = .ok (.dup, 1) := by decide +kernel
theorem dX9_isText_51 : decode cX9_isText 51 = .ok (.getfield 117, 3) := by decide +kernel
theorem dX9_isText_54 : decode cX9_isText 54 = .ok (.iload_n 1, 1) := by decide +kernel
theorem dX9_isText_55 : decode cX9_isText 55 = .ok (.ifCond .eq 7, 3) := by decide +kernel
theorem dX9_isText_58 : decode cX9_isText 58 = .ok (.iconst 1, 1) := by decide +kernel
theorem dX9_isText_59 : decode cX9_isText 59 = .ok (.goto 4, 3) := by decide +kernel
theorem dX9_isText_62 : decode cX9_isText 62 = .ok (.iconst 0, 1) := by decide +kernel
theorem dX9_isText_63 : decode cX9_isText 63 = .ok (.iadd, 1) := by decide +kernel
theorem dX9_isText_64 : decode cX9_isText 64 = .ok (.putfield 117, 3) := by decide +kernel
theorem dX9_isText_67 : decode cX9_isText 67 = .ok (.goto (-50), 3) := by decide +kernel
theorem dX9_isText_70 : decode cX9_isText 70 = .ok (.aload_n 0, 1) := by decide +kernel
theorem dX9_isText_71 : decode cX9_isText 71 = .ok (.aload_n 0, 1) := by decide +kernel
theorem dX9_isText_72 : decode cX9_isText 72 = .ok (.getfield 117, 3) := by decide +kernel
theorem dX9_isText_75 : decode cX9_isText 75 = .ok (.aload_n 0, 1) := by decide +kernel
theorem dX9_isText_76 : decode cX9_isText 76 = .ok (.getfield 114, 3) := by decide +kernel
theorem dX9_isText_79 : decode cX9_isText 79 = .ok (.if_icmp .ge 7, 3) := by decide +kernel
theorem dX9_isText_82 : decode cX9_isText 82 = .ok (.iconst 1, 1) := by decide +kernel
theorem dX9_isText_83 : decode cX9_isText 83 = .ok (.goto 4, 3) := by decide +kernel
theorem dX9_isText_86 : decode cX9_isText 86 = .ok (.iconst 0, 1) := by decide +kernel
theorem dX9_isText_87 : decode cX9_isText 87 = .ok (.putfield 120, 3) := by decide +kernel
theorem dX9_isText_90 : decode cX9_isText 90 = .ok (.aload_n 0, 1) := by decide +kernel
theorem dX9_isText_91 : decode cX9_isText 91 = .ok (.getfield 117, 3) := by decide +kernel
theorem dX9_isText_94 : decode cX9_isText 94 = .ok (.aload_n 0, 1) := by decide +kernel
theorem dX9_isText_95 : decode cX9_isText 95 = .ok (.getfield 114, 3) := by decide +kernel
theorem dX9_isText_98 : decode cX9_isText 98 = .ok (.if_icmp .ne 7, 3) := by decide +kernel
theorem dX9_isText_101 : decode cX9_isText 101 = .ok (.iconst 1, 1) := by decide +kernel
theorem dX9_isText_102 : decode cX9_isText 102 = .ok (.goto 4, 3) := by decide +kernel
theorem dX9_isText_105 : decode cX9_isText 105 = .ok (.iconst 0, 1) := by decide +kernel
theorem dX9_isText_106 : decode cX9_isText 106 = .ok (.ireturn, 1) := by decide +kernel
theorem dX9_firstError_0 : decode cX9_firstError 0 = .ok (.aload_n 0, 1) := by decide +kernel
theorem dX9_firstError_1 : decode cX9_firstError 1 = .ok (.iconst 0, 1) := by decide +kernel
theorem dX9_firstError_2 : decode cX9_firstError 2 = .ok (.putfield 25, 3) := by decide +kernel
theorem dX9_firstError_5 : decode cX9_firstError 5 = .ok (.aload_n 0, 1) := by decide +kernel
theorem dX9_firstError_6 : decode cX9_firstError 6 = .ok (.invokevirtual 143, 3) := by decide +kernel
theorem dX9_firstError_9 : decode cX9_firstError 9 = .ok (.istore_n 1, 1) := by decide +kernel
theorem dX9_firstError_10 : decode cX9_firstError 10 = .ok (.iload_n 1, 1) := by decide +kernel
theorem dX9_firstError_11 : decode cX9_firstError 11 = .ok (.ifCond .ne 17, 3) := by decide +kernel
theorem dX9_firstError_14 : decode cX9_firstError 14 = .ok (.aload_n 0, 1) := by decide +kernel
theorem dX9_firstError_15 : decode cX9_firstError 15 = .ok (.getfield 120, 3) := by decide +kernel
theorem dX9_firstError_18 : decode cX9_firstError 18 = .ok (.ifCond .eq 10, 3) := by decide +kernel
theorem dX9_firstError_21 : decode cX9_firstError 21 = .ok (.aload_n 0, 1) := by decide +kernel
theorem dX9_firstError_22 : decode cX9_firstError 22 = .ok (.getfield 117, 3) := by decide +kernel
theorem dX9_firstError_25 : decode cX9_firstError 25 = .ok (.goto 7, 3) := by decide +kernel
theorem dX9_firstError_28 : decode cX9_firstError 28 = .ok (.aload_n 0, 1) := by decide +kernel
theorem dX9_firstError_29 : decode cX9_firstError 29 = .ok (.getfield 114, 3) := by decide +kernel
theorem dX9_firstError_32 : decode cX9_firstError 32 = .ok (.ireturn, 1) := by decide +kernel
theorem dX9_does_0 : decode cX9_does 0 = .ok (.aload_n 0, 1) := by decide +kernel
theorem dX9_does_1 : decode cX9_does 1 = .ok (.getfield 22, 3) := by decide +kernel
theorem dX9_does_4 : decode cX9_does 4 = .ok (.iconst 3, 1) := by decide +kernel
theorem dX9_does_5 : decode cX9_does 5 = .ok (.iload_n 1, 1) := by decide +kernel
theorem dX9_does_6 : decode cX9_does 6 = .ok (.imul, 1) := by decide +kernel
theorem dX9_does_7 : decode cX9_does 7 = .ok (.iconst 1, 1) := by decide +kernel
theorem dX9_does_8 : decode cX9_does 8 = .ok (.iadd, 1) := by decide +kernel
theorem dX9_does_9 : decode cX9_does 9 = .ok (.iaload, 1) := by decide +kernel
theorem dX9_does_10 : decode cX9_does 10 = .ok (.istore_n 2, 1) := by decide +kernel
theorem dX9_does_11 : decode cX9_does 11 = .ok (.aload_n 0, 1) := by decide +kernel
theorem dX9_does_12 : decode cX9_does 12 = .ok (.getfield 22, 3) := by decide +kernel
theorem dX9_does_15 : decode cX9_does 15 = .ok (.iconst 3, 1) := by decide +kernel
theorem dX9_does_16 : decode cX9_does 16 = .ok (.iload_n 1, 1) := by decide +kernel
theorem dX9_does_17 : decode cX9_does 17 = .ok (.imul, 1) := by decide +kernel
theorem dX9_does_18 : decode cX9_does 18 = .ok (.iconst 2, 1) := by decide +kernel
theorem dX9_does_19 : decode cX9_does 19 = .ok (.iadd, 1) := by decide +kernel
theorem dX9_does_20 : decode cX9_does 20 = .ok (.iaload, 1) := by decide +kernel
theorem dX9_does_21 : decode cX9_does 21 = .ok (.istore_n 3, 1) := by decide +kernel
theorem dX9_does_22 : decode cX9_does 22 = .ok (.aload_n 0, 1) := by decide +kernel
theorem dX9_does_23 : decode cX9_does 23 = .ok (.getfield 22, 3) := by decide +kernel
theorem dX9_does_26 : decode cX9_does 26 = .ok (.iconst 3, 1) := by decide +kernel
theorem dX9_does_27 : decode cX9_does 27 = .ok (.iload_n 1, 1) := by decide +kernel
theorem dX9_does_28 : decode cX9_does 28 = .ok (.imul, 1) := by decide +kernel
theorem dX9_does_29 : decode cX9_does 29 = .ok (.iaload, 1) := by decide +kernel
theorem dX9_does_30 : decode cX9_does 30 = .ok (.lookupswitch 78 #[(102, 26), (114, 57)], 26) := by decide +kernel
theorem dX9_does_56 : decode cX9_does 56 = .ok (.aload_n 0, 1) := by decide +kernel
theorem dX9_does_57 : decode cX9_does 57 = .ok (.getfield 7, 3) := by decide +kernel
theorem dX9_does_60 : decode cX9_does 60 = .ok (.bipush 14, 2) := by decide +kernel
theorem dX9_does_62 : decode cX9_does 62 = .ok (.iconst 4, 1) := by decide +kernel
theorem dX9_does_63 : decode cX9_does 63 = .ok (.iload_n 2, 1) := by decide +kernel
theorem dX9_does_64 : decode cX9_does 64 = .ok (.imul, 1) := by decide +kernel
theorem dX9_does_65 : decode cX9_does 65 = .ok (.iadd, 1) := by decide +kernel
theorem dX9_does_66 : decode cX9_does 66 = .ok (.iconst 2, 1) := by decide +kernel
theorem dX9_does_67 : decode cX9_does 67 = .ok (.iadd, 1) := by decide +kernel
theorem dX9_does_68 : decode cX9_does 68 = .ok (.iaload, 1) := by decide +kernel
theorem dX9_does_69 : decode cX9_does 69 = .ok (.ifCond .ne 5, 3) := by decide +kernel
theorem dX9_does_72 : decode cX9_does 72 = .ok (.iconst 0, 1) := by decide +kernel
theorem dX9_does_73 : decode cX9_does 73 = .ok (.ireturn, 1) := by decide +kernel
theorem dX9_does_74 : decode cX9_does 74 = .ok (.aload_n 0, 1) := by decide +kernel
theorem dX9_does_75 : decode cX9_does 75 = .ok (.aload_n 0, 1) := by decide +kernel
theorem dX9_does_76 : decode cX9_does 76 = .ok (.getfield 7, 3) := by decide +kernel
theorem dX9_does_79 : decode cX9_does 79 = .ok (.iload_n 2, 1) := by decide +kernel
theorem dX9_does_80 : decode cX9_does 80 = .ok (.iload_n 3, 1) := by decide +kernel
theorem dX9_does_81 : decode cX9_does 81 = .ok (.invokevirtual 101, 3) := by decide +kernel
theorem dX9_does_84 : decode cX9_does 84 = .ok (.pop, 1) := by decide +kernel
theorem dX9_does_85 : decode cX9_does 85 = .ok (.iconst 1, 1) := by decide +kernel
theorem dX9_does_86 : decode cX9_does 86 = .ok (.ireturn, 1) := by decide +kernel
theorem dX9_does_87 : decode cX9_does 87 = .ok (.iload_n 2, 1) := by decide +kernel
theorem dX9_does_88 : decode cX9_does 88 = .ok (.aload_n 0, 1) := by decide +kernel
theorem dX9_does_89 : decode cX9_does 89 = .ok (.getfield 7, 3) := by decide +kernel
theorem dX9_does_92 : decode cX9_does 92 = .ok (.iconst 5, 1) := by decide +kernel
theorem dX9_does_93 : decode cX9_does 93 = .ok (.iaload, 1) := by decide +kernel
theorem dX9_does_94 : decode cX9_does 94 = .ok (.if_icmp .lt 5, 3) := by decide +kernel
theorem dX9_does_97 : decode cX9_does 97 = .ok (.iconst 0, 1) := by decide +kernel
theorem dX9_does_98 : decode cX9_does 98 = .ok (.ireturn, 1) := by decide +kernel
theorem dX9_does_99 : decode cX9_does 99 = .ok (.aload_n 0, 1) := by decide +kernel
theorem dX9_does_100 : decode cX9_does 100 = .ok (.iload_n 2, 1) := by decide +kernel
theorem dX9_does_101 : decode cX9_does 101 = .ok (.iload_n 3, 1) := by decide +kernel
theorem dX9_does_102 : decode cX9_does 102 = .ok (.invokevirtual 104, 3) := by decide +kernel
theorem dX9_does_105 : decode cX9_does 105 = .ok (.pop, 1) := by decide +kernel
theorem dX9_does_106 : decode cX9_does 106 = .ok (.iconst 1, 1) := by decide +kernel
theorem dX9_does_107 : decode cX9_does 107 = .ok (.ireturn, 1) := by decide +kernel
theorem dX9_does_108 : decode cX9_does 108 = .ok (.aload_n 0, 1) := by decide +kernel
theorem dX9_does_109 : decode cX9_does 109 = .ok (.bipush 30, 2) := by decide +kernel
theorem dX9_does_111 : decode cX9_does 111 = .ok (.bipush 22, 2) := by decide +kernel
theorem dX9_does_113 : decode cX9_does 113 = .ok (.iload_n 2, 1) := by decide +kernel
theorem dX9_does_114 : decode cX9_does 114 = .ok (.imul, 1) := by decide +kernel
theorem dX9_does_115 : decode cX9_does 115 = .ok (.iadd, 1) := by decide +kernel
theorem dX9_does_116 : decode cX9_does 116 = .ok (.iconst 0, 1) := by decide +kernel
theorem dX9_does_117 : decode cX9_does 117 = .ok (.invokevirtual 98, 3) := by decide +kernel
theorem dX9_does_120 : decode cX9_does 120 = .ok (.pop, 1) := by decide +kernel
theorem dX9_does_121 : decode cX9_does 121 = .ok (.iconst 1, 1) := by decide +kernel
theorem dX9_does_122 : decode cX9_does 122 = .ok (.ireturn, 1) := by decide +kernel
theorem dX9_play_0 : decode cX9_play 0 = .ok (.aload_n 0, 1) := by decide +kernel
theorem dX9_play_1 : decode cX9_play 1 = .ok (.iconst 0, 1) := by decide +kernel
theorem dX9_play_2 : decode cX9_play 2 = .ok (.putfield 25, 3) := by decide +kernel
theorem dX9_play_5 : decode cX9_play 5 = .ok (.aload_n 0, 1) := by decide +kernel
theorem dX9_play_6 : decode cX9_play 6 = .ok (.invokevirtual 143, 3) := by decide +kernel
theorem dX9_play_9 : decode cX9_play 9 = .ok (.ifCond .ne 9, 3) := by decide +kernel
theorem dX9_play_12 : decode cX9_play 12 = .ok (.aload_n 0, 1) := by decide +kernel
theorem dX9_play_13 : decode cX9_play 13 = .ok (.iconst 1, 1) := by decide +kernel
theorem dX9_play_14 : decode cX9_play 14 = .ok (.invokevirtual 44, 3) := by decide +kernel
theorem dX9_play_17 : decode cX9_play 17 = .ok (.ireturn, 1) := by decide +kernel
theorem dX9_play_18 : decode cX9_play 18 = .ok (.aload_n 0, 1) := by decide +kernel
theorem dX9_play_19 : decode cX9_play 19 = .ok (.invokevirtual 95, 3) := by decide +kernel
theorem dX9_play_22 : decode cX9_play 22 = .ok (.aload_n 0, 1) := by decide +kernel
theorem dX9_play_23 : decode cX9_play 23 = .ok (.iconst 0, 1) := by decide +kernel
theorem dX9_play_24 : decode cX9_play 24 = .ok (.putfield 114, 3) := by decide +kernel
theorem dX9_play_27 : decode cX9_play 27 = .ok (.iconst 0, 1) := by decide +kernel
theorem dX9_play_28 : decode cX9_play 28 = .ok (.istore_n 1, 1) := by decide +kernel
theorem dX9_play_29 : decode cX9_play 29 = .ok (.iload_n 1, 1) := by decide +kernel
theorem dX9_play_30 : decode cX9_play 30 = .ok (.aload_n 0, 1) := by decide +kernel
theorem dX9_play_31 : decode cX9_play 31 = .ok (.getfield 131, 3) := by decide +kernel
theorem dX9_play_34 : decode cX9_play 34 = .ok (.if_icmp .ge 17, 3) := by decide +kernel
theorem dX9_play_37 : decode cX9_play 37 = .ok (.aload_n 0, 1) := by decide +kernel
theorem dX9_play_38 : decode cX9_play 38 = .ok (.iload_n 1, 1) := by decide +kernel
theorem dX9_play_39 : decode cX9_play 39 = .ok (.invokevirtual 146, 3) := by decide +kernel
theorem dX9_play_42 : decode cX9_play 42 = .ok (.ifCond .eq 9, 3) := by decide +kernel
theorem dX9_play_45 : decode cX9_play 45 = .ok (.iinc 1 1, 3) := by decide +kernel
theorem dX9_play_48 : decode cX9_play 48 = .ok (.goto (-19), 3) := by decide +kernel
theorem dX9_play_51 : decode cX9_play 51 = .ok (.iload_n 1, 1) := by decide +kernel
theorem dX9_play_52 : decode cX9_play 52 = .ok (.ireturn, 1) := by decide +kernel
theorem dX9_ofFob_0 : decode cX9_ofFob 0 = .ok (.iload_n 2, 1) := by decide +kernel
theorem dX9_ofFob_1 : decode cX9_ofFob 1 = .ok (.iconst 3, 1) := by decide +kernel
theorem dX9_ofFob_2 : decode cX9_ofFob 2 = .ok (.if_icmp .ne 14, 3) := by decide +kernel
theorem dX9_ofFob_5 : decode cX9_ofFob 5 = .ok (.aload_n 0, 1) := by decide +kernel
theorem dX9_ofFob_6 : decode cX9_ofFob 6 = .ok (.getfield 7, 3) := by decide +kernel
theorem dX9_ofFob_9 : decode cX9_ofFob 9 = .ok (.iload_n 1, 1) := by decide +kernel
theorem dX9_ofFob_10 : decode cX9_ofFob 10 = .ok (.invokestatic 82, 3) := by decide +kernel
theorem dX9_ofFob_13 : decode cX9_ofFob 13 = .ok (.goto 25, 3) := by decide +kernel
theorem dX9_ofFob_16 : decode cX9_ofFob 16 = .ok (.aload_n 0, 1) := by decide +kernel
theorem dX9_ofFob_17 : decode cX9_ofFob 17 = .ok (.getfield 7, 3) := by decide +kernel
theorem dX9_ofFob_20 : decode cX9_ofFob 20 = .ok (.bipush 14, 2) := by decide +kernel
theorem dX9_ofFob_22 : decode cX9_ofFob 22 = .ok (.iconst 4, 1) := by decide +kernel
theorem dX9_ofFob_23 : decode cX9_ofFob 23 = .ok (.iload_n 1, 1) := by decide +kernel
theorem dX9_ofFob_24 : decode cX9_ofFob 24 = .ok (.imul, 1) := by decide +kernel
theorem dX9_ofFob_25 : decode cX9_ofFob 25 = .ok (.iadd, 1) := by decide +kernel
theorem dX9_ofFob_26 : decode cX9_ofFob 26 = .ok (.iload_n 2, 1) := by decide +kernel
theorem dX9_ofFob_27 : decode cX9_ofFob 27 = .ok (.iconst 4, 1) := by decide +kernel
theorem dX9_ofFob_28 : decode cX9_ofFob 28 = .ok (.if_icmp .ne 7, 3) := by decide +kernel
theorem dX9_ofFob_31 : decode cX9_ofFob 31 = .ok (.iconst 3, 1) := by decide +kernel
theorem dX9_ofFob_32 : decode cX9_ofFob 32 = .ok (.goto 4, 3) := by decide +kernel
theorem dX9_ofFob_35 : decode cX9_ofFob 35 = .ok (.iload_n 2, 1) := by decide +kernel
theorem dX9_ofFob_36 : decode cX9_ofFob 36 = .ok (.iadd, 1) := by decide +kernel
theorem dX9_ofFob_37 : decode cX9_ofFob 37 = .ok (.iaload, 1) := by decide +kernel
theorem dX9_ofFob_38 : decode cX9_ofFob 38 = .ok (.ireturn, 1) := by decide +kernel
theorem dX9_fob_0 : decode cX9_fob 0 = .ok (.aload_n 0, 1) := by decide +kernel
theorem dX9_fob_1 : decode cX9_fob 1 = .ok (.iconst 0, 1) := by decide +kernel
theorem dX9_fob_2 : decode cX9_fob 2 = .ok (.putfield 25, 3) := by decide +kernel
theorem dX9_fob_5 : decode cX9_fob 5 = .ok (.iload_n 1, 1) := by decide +kernel
theorem dX9_fob_6 : decode cX9_fob 6 = .ok (.invokestatic 92, 3) := by decide +kernel
theorem dX9_fob_9 : decode cX9_fob 9 = .ok (.ifCond .ne 9, 3) := by decide +kernel
theorem dX9_fob_12 : decode cX9_fob 12 = .ok (.aload_n 0, 1) := by decide +kernel
theorem dX9_fob_13 : decode cX9_fob 13 = .ok (.iconst 1, 1) := by decide +kernel
theorem dX9_fob_14 : decode cX9_fob 14 = .ok (.invokevirtual 44, 3) := by decide +kernel
theorem dX9_fob_17 : decode cX9_fob 17 = .ok (.ireturn, 1) := by decide +kernel
theorem dX9_fob_18 : decode cX9_fob 18 = .ok (.iload_n 2, 1) := by decide +kernel
theorem dX9_fob_19 : decode cX9_fob 19 = .ok (.iconst 0, 1) := by decide +kernel
theorem dX9_fob_20 : decode cX9_fob 20 = .ok (.iconst 4, 1) := by decide +kernel
theorem dX9_fob_21 : decode cX9_fob 21 = .ok (.invokestatic 29, 3) := by decide +kernel
theorem dX9_fob_24 : decode cX9_fob 24 = .ok (.ifCond .eq 12, 3) := by decide +kernel
theorem dX9_fob_27 : decode cX9_fob 27 = .ok (.aload_n 0, 1) := by decide +kernel
theorem dX9_fob_28 : decode cX9_fob 28 = .ok (.iload_n 1, 1) := by decide +kernel
theorem dX9_fob_29 : decode cX9_fob 29 = .ok (.iload_n 2, 1) := by decide +kernel
theorem dX9_fob_30 : decode cX9_fob 30 = .ok (.invokevirtual 149, 3) := by decide +kernel
theorem dX9_fob_33 : decode cX9_fob 33 = .ok (.goto 8, 3) := by decide +kernel
theorem dX9_fob_36 : decode cX9_fob 36 = .ok (.aload_n 0, 1) := by decide +kernel
theorem dX9_fob_37 : decode cX9_fob 37 = .ok (.iconst 2, 1) := by decide +kernel
theorem dX9_fob_38 : decode cX9_fob 38 = .ok (.invokevirtual 44, 3) := by decide +kernel
theorem dX9_fob_41 : decode cX9_fob 41 = .ok (.ireturn, 1) := by decide +kernel
theorem dX9_ofSlot_0 : decode cX9_ofSlot 0 = .ok (.iload_n 1, 1) := by decide +kernel
theorem dX9_ofSlot_1 : decode cX9_ofSlot 1 = .ok (.iload_n 2, 1) := by decide +kernel
theorem dX9_ofSlot_2 : decode cX9_ofSlot 2 = .ok (.invokestatic 56, 3) := by decide +kernel
theorem dX9_ofSlot_5 : decode cX9_ofSlot 5 = .ok (.istore 4, 2) := by decide +kernel
theorem dX9_ofSlot_7 : decode cX9_ofSlot 7 = .ok (.aload_n 0, 1) := by decide +kernel
theorem dX9_ofSlot_8 : decode cX9_ofSlot 8 = .ok (.getfield 7, 3) := by decide +kernel
theorem dX9_ofSlot_11 : decode cX9_ofSlot 11 = .ok (.iload 4, 2) := by decide +kernel
theorem dX9_ofSlot_13 : decode cX9_ofSlot 13 = .ok (.iaload, 1) := by decide +kernel
theorem dX9_ofSlot_14 : decode cX9_ofSlot 14 = .ok (.iconst 1, 1) := by decide +kernel
theorem dX9_ofSlot_15 : decode cX9_ofSlot 15 = .ok (.if_icmp .ne 15, 3) := by decide +kernel
theorem dX9_ofSlot_18 : decode cX9_ofSlot 18 = .ok (.aload_n 0, 1) := by decide +kernel
theorem dX9_ofSlot_19 : decode cX9_ofSlot 19 = .ok (.getfield 7, 3) := by decide +kernel
theorem dX9_ofSlot_22 : decode cX9_ofSlot 22 = .ok (.iload 4, 2) := by decide +kernel
theorem dX9_ofSlot_24 : decode cX9_ofSlot 24 = .ok (.iload_n 3, 1) := by decide +kernel
theorem dX9_ofSlot_25 : decode cX9_ofSlot 25 = .ok (.iadd, 1) := by decide +kernel
theorem dX9_ofSlot_26 : decode cX9_ofSlot 26 = .ok (.iaload, 1) := by decide +kernel
theorem dX9_ofSlot_27 : decode cX9_ofSlot 27 = .ok (.goto 12, 3) := by decide +kernel
theorem dX9_ofSlot_30 : decode cX9_ofSlot 30 = .ok (.iload_n 3, 1) := by decide +kernel
theorem dX9_ofSlot_31 : decode cX9_ofSlot 31 = .ok (.ifCond .ne 7, 3) := by decide +kernel
theorem dX9_ofSlot_34 : decode cX9_ofSlot 34 = .ok (.iconst 0, 1) := by decide +kernel
theorem dX9_ofSlot_35 : decode cX9_ofSlot 35 = .ok (.goto 4, 3) := by decide +kernel
theorem dX9_ofSlot_38 : decode cX9_ofSlot 38 = .ok (.iconst (-1), 1) := by decide +kernel
theorem dX9_ofSlot_39 : decode cX9_ofSlot 39 = .ok (.ireturn, 1) := by decide +kernel
theorem dX9_slot_0 : decode cX9_slot 0 = .ok (.aload_n 0, 1) := by decide +kernel
theorem dX9_slot_1 : decode cX9_slot 1 = .ok (.iconst 0, 1) := by decide +kernel
theorem dX9_slot_2 : decode cX9_slot 2 = .ok (.putfield 25, 3) := by decide +kernel
theorem dX9_slot_5 : decode cX9_slot 5 = .ok (.iload_n 1, 1) := by decide +kernel
theorem dX9_slot_6 : decode cX9_slot 6 = .ok (.iload_n 2, 1) := by decide +kernel
theorem dX9_slot_7 : decode cX9_slot 7 = .ok (.invokestatic 107, 3) := by decide +kernel
theorem dX9_slot_10 : decode cX9_slot 10 = .ok (.ifCond .ne 9, 3) := by decide +kernel
theorem dX9_slot_13 : decode cX9_slot 13 = .ok (.aload_n 0, 1) := by decide +kernel
theorem dX9_slot_14 : decode cX9_slot 14 = .ok (.iconst 1, 1) := by decide +kernel
theorem dX9_slot_15 : decode cX9_slot 15 = .ok (.invokevirtual 44, 3) := by decide +kernel
theorem dX9_slot_18 : decode cX9_slot 18 = .ok (.ireturn, 1) := by decide +kernel
theorem dX9_slot_19 : decode cX9_slot 19 = .ok (.iload_n 3, 1) := by decide +kernel
theorem dX9_slot_20 : decode cX9_slot 20 = .ok (.iconst 0, 1) := by decide +kernel
theorem dX9_slot_21 : decode cX9_slot 21 = .ok (.iconst 3, 1) := by decide +kernel
theorem dX9_slot_22 : decode cX9_slot 22 = .ok (.invokestatic 29, 3) := by decide +kernel
theorem dX9_slot_25 : decode cX9_slot 25 = .ok (.ifCond .eq 13, 3) := by decide +kernel
theorem dX9_slot_28 : decode cX9_slot 28 = .ok (.aload_n 0, 1) := by decide +kernel
theorem dX9_slot_29 : decode cX9_slot 29 = .ok (.iload_n 1, 1) := by decide +kernel
theorem dX9_slot_30 : decode cX9_slot 30 = .ok (.iload_n 2, 1) := by decide +kernel
theorem dX9_slot_31 : decode cX9_slot 31 = .ok (.iload_n 3, 1) := by decide +kernel
theorem dX9_slot_32 : decode cX9_slot 32 = .ok (.invokevirtual 152, 3) := by decide +kernel
theorem dX9_slot_35 : decode cX9_slot 35 = .ok (.goto 8, 3) := by decide +kernel
theorem dX9_slot_38 : decode cX9_slot 38 = .ok (.aload_n 0, 1) := by decide +kernel
theorem dX9_slot_39 : decode cX9_slot 39 = .ok (.iconst 2, 1) := by decide +kernel
theorem dX9_slot_40 : decode cX9_slot 40 = .ok (.invokevirtual 44, 3) := by decide +kernel
theorem dX9_slot_43 : decode cX9_slot 43 = .ok (.ireturn, 1) := by decide +kernel
theorem dX9_ofDoor_0 : decode cX9_ofDoor 0 = .ok (.iload_n 2, 1) := by decide +kernel
theorem dX9_ofDoor_1 : decode cX9_ofDoor 1 = .ok (.tableswitch 69 0 3 #[31, 31, 46, 63], 31) := by decide +kernel
theorem dX9_ofDoor_32 : decode cX9_ofDoor 32 = .ok (.aload_n 0, 1) := by decide +kernel
theorem dX9_ofDoor_33 : decode cX9_ofDoor 33 = .ok (.getfield 7, 3) := by decide +kernel
theorem dX9_ofDoor_36 : decode cX9_ofDoor 36 = .ok (.bipush 30, 2) := by decide +kernel
theorem dX9_ofDoor_38 : decode cX9_ofDoor 38 = .ok (.bipush 22, 2) := by decide +kernel
theorem dX9_ofDoor_40 : decode cX9_ofDoor 40 = .ok (.iload_n 1, 1) := by decide +kernel
theorem dX9_ofDoor_41 : decode cX9_ofDoor 41 = .ok (.imul, 1) := by decide +kernel
theorem dX9_ofDoor_42 : decode cX9_ofDoor 42 = .ok (.iadd, 1) := by decide +kernel
theorem dX9_ofDoor_43 : decode cX9_ofDoor 43 = .ok (.iload_n 2, 1) := by decide +kernel
theorem dX9_ofDoor_44 : decode cX9_ofDoor 44 = .ok (.iadd, 1) := by decide +kernel
theorem dX9_ofDoor_45 : decode cX9_ofDoor 45 = .ok (.iaload, 1) := by decide +kernel
theorem dX9_ofDoor_46 : decode cX9_ofDoor 46 = .ok (.ireturn, 1) := by decide +kernel
theorem dX9_ofDoor_47 : decode cX9_ofDoor 47 = .ok (.aload_n 0, 1) := by decide +kernel
theorem dX9_ofDoor_48 : decode cX9_ofDoor 48 = .ok (.getfield 7, 3) := by decide +kernel
theorem dX9_ofDoor_51 : decode cX9_ofDoor 51 = .ok (.iload_n 1, 1) := by decide +kernel
theorem dX9_ofDoor_52 : decode cX9_ofDoor 52 = .ok (.invokestatic 66, 3) := by decide +kernel
theorem dX9_ofDoor_55 : decode cX9_ofDoor 55 = .ok (.ifCond .eq 7, 3) := by decide +kernel
theorem dX9_ofDoor_58 : decode cX9_ofDoor 58 = .ok (.iconst 1, 1) := by decide +kernel
theorem dX9_ofDoor_59 : decode cX9_ofDoor 59 = .ok (.goto 4, 3) := by decide +kernel
theorem dX9_ofDoor_62 : decode cX9_ofDoor 62 = .ok (.iconst 0, 1) := by decide +kernel
theorem dX9_ofDoor_63 : decode cX9_ofDoor 63 = .ok (.ireturn, 1) := by decide +kernel
theorem dX9_ofDoor_64 : decode cX9_ofDoor 64 = .ok (.aload_n 0, 1) := by decide +kernel
theorem dX9_ofDoor_65 : decode cX9_ofDoor 65 = .ok (.iload_n 1, 1) := by decide +kernel
theorem dX9_ofDoor_66 : decode cX9_ofDoor 66 = .ok (.invokevirtual 111, 3) := by decide +kernel
theorem dX9_ofDoor_69 : decode cX9_ofDoor 69 = .ok (.ireturn, 1) := by decide +kernel
theorem dX9_ofDoor_70 : decode cX9_ofDoor 70 = .ok (.aload_n 0, 1) := by decide +kernel
theorem dX9_ofDoor_71 : decode cX9_ofDoor 71 = .ok (.getfield 7, 3) := by decide +kernel
theorem dX9_ofDoor_74 : decode cX9_ofDoor 74 = .ok (.bipush 30, 2) := by decide +kernel
theorem dX9_ofDoor_76 : decode cX9_ofDoor 76 = .ok (.bipush 22, 2) := by decide +kernel
theorem dX9_ofDoor_78 : decode cX9_ofDoor 78 = .ok (.iload_n 1, 1) := by decide +kernel
theorem dX9_ofDoor_79 : decode cX9_ofDoor 79 = .ok (.imul, 1) := by decide +kernel
theorem dX9_ofDoor_80 : decode cX9_ofDoor 80 = .ok (.iadd, 1) := by decide +kernel
theorem dX9_ofDoor_81 : decode cX9_ofDoor 81 = .ok (.iload_n 2, 1) := by decide +kernel
theorem dX9_ofDoor_82 : decode cX9_ofDoor 82 = .ok (.iadd, 1) := by decide +kernel
theorem dX9_ofDoor_83 : decode cX9_ofDoor 83 = .ok (.iconst 2, 1) := by decide +kernel
theorem dX9_ofDoor_84 : decode cX9_ofDoor 84 = .ok (.isub, 1) := by decide +kernel
theorem dX9_ofDoor_85 : decode cX9_ofDoor 85 = .ok (.iaload, 1) := by decide +kernel
theorem dX9_ofDoor_86 : decode cX9_ofDoor 86 = .ok (.ireturn, 1) := by decide +kernel
theorem dX9_door_0 : decode cX9_door 0 = .ok (.aload_n 0, 1) := by decide +kernel
theorem dX9_door_1 : decode cX9_door 1 = .ok (.iconst 0, 1) := by decide +kernel
theorem dX9_door_2 : decode cX9_door 2 = .ok (.putfield 25, 3) := by decide +kernel
theorem dX9_door_5 : decode cX9_door 5 = .ok (.iload_n 1, 1) := by decide +kernel
theorem dX9_door_6 : decode cX9_door 6 = .ok (.invokestatic 33, 3) := by decide +kernel
theorem dX9_door_9 : decode cX9_door 9 = .ok (.ifCond .ne 9, 3) := by decide +kernel
theorem dX9_door_12 : decode cX9_door 12 = .ok (.aload_n 0, 1) := by decide +kernel
theorem dX9_door_13 : decode cX9_door 13 = .ok (.iconst 1, 1) := by decide +kernel
theorem dX9_door_14 : decode cX9_door 14 = .ok (.invokevirtual 44, 3) := by decide +kernel
theorem dX9_door_17 : decode cX9_door 17 = .ok (.ireturn, 1) := by decide +kernel
theorem dX9_door_18 : decode cX9_door 18 = .ok (.iload_n 2, 1) := by decide +kernel
theorem dX9_door_19 : decode cX9_door 19 = .ok (.iconst 0, 1) := by decide +kernel
theorem dX9_door_20 : decode cX9_door 20 = .ok (.bipush 7, 2) := by decide +kernel
theorem dX9_door_22 : decode cX9_door 22 = .ok (.invokestatic 29, 3) := by decide +kernel
theorem dX9_door_25 : decode cX9_door 25 = .ok (.ifCond .eq 12, 3) := by decide +kernel
theorem dX9_door_28 : decode cX9_door 28 = .ok (.aload_n 0, 1) := by decide +kernel
theorem dX9_door_29 : decode cX9_door 29 = .ok (.iload_n 1, 1) := by decide +kernel
theorem dX9_door_30 : decode cX9_door 30 = .ok (.iload_n 2, 1) := by decide +kernel
theorem dX9_door_31 : decode cX9_door 31 = .ok (.invokevirtual 156, 3) := by decide +kernel
theorem dX9_door_34 : decode cX9_door 34 = .ok (.goto 8, 3) := by decide +kernel
theorem dX9_door_37 : decode cX9_door 37 = .ok (.aload_n 0, 1) := by decide +kernel
theorem dX9_door_38 : decode cX9_door 38 = .ok (.iconst 2, 1) := by decide +kernel
theorem dX9_door_39 : decode cX9_door 39 = .ok (.invokevirtual 44, 3) := by decide +kernel
theorem dX9_door_42 : decode cX9_door 42 = .ok (.ireturn, 1) := by decide +kernel
theorem dX9_air_0 : decode cX9_air 0 = .ok (.aload_n 0, 1) := by decide +kernel
theorem dX9_air_1 : decode cX9_air 1 = .ok (.iconst 0, 1) := by decide +kernel
theorem dX9_air_2 : decode cX9_air 2 = .ok (.putfield 25, 3) := by decide +kernel
theorem dX9_air_5 : decode cX9_air 5 = .ok (.iload_n 1, 1) := by decide +kernel
theorem dX9_air_6 : decode cX9_air 6 = .ok (.ifCond .ge 9, 3) := by decide +kernel
theorem dX9_air_9 : decode cX9_air 9 = .ok (.aload_n 0, 1) := by decide +kernel
theorem dX9_air_10 : decode cX9_air 10 = .ok (.iconst 1, 1) := by decide +kernel
theorem dX9_air_11 : decode cX9_air 11 = .ok (.invokevirtual 44, 3) := by decide +kernel
theorem dX9_air_14 : decode cX9_air 14 = .ok (.ireturn, 1) := by decide +kernel
theorem dX9_air_15 : decode cX9_air 15 = .ok (.iload_n 1, 1) := by decide +kernel
theorem dX9_air_16 : decode cX9_air 16 = .ok (.aload_n 0, 1) := by decide +kernel
theorem dX9_air_17 : decode cX9_air 17 = .ok (.getfield 7, 3) := by decide +kernel
theorem dX9_air_20 : decode cX9_air 20 = .ok (.iconst 5, 1) := by decide +kernel
theorem dX9_air_21 : decode cX9_air 21 = .ok (.iaload, 1) := by decide +kernel
theorem dX9_air_22 : decode cX9_air 22 = .ok (.if_icmp .ge 15, 3) := by decide +kernel
theorem dX9_air_25 : decode cX9_air 25 = .ok (.aload_n 0, 1) := by decide +kernel
theorem dX9_air_26 : decode cX9_air 26 = .ok (.getfield 7, 3) := by decide +kernel
theorem dX9_air_29 : decode cX9_air 29 = .ok (.bipush 6, 2) := by decide +kernel
theorem dX9_air_31 : decode cX9_air 31 = .ok (.iload_n 1, 1) := by decide +kernel
theorem dX9_air_32 : decode cX9_air 32 = .ok (.iadd, 1) := by decide +kernel
theorem dX9_air_33 : decode cX9_air 33 = .ok (.iaload, 1) := by decide +kernel
theorem dX9_air_34 : decode cX9_air 34 = .ok (.goto 4, 3) := by decide +kernel
theorem dX9_air_37 : decode cX9_air 37 = .ok (.iconst (-1), 1) := by decide +kernel
theorem dX9_air_38 : decode cX9_air 38 = .ok (.ireturn, 1) := by decide +kernel
theorem dX9_ofDoors_0 : decode cX9_ofDoors 0 = .ok (.iconst 0, 1) := by decide +kernel
theorem dX9_ofDoors_1 : decode cX9_ofDoors 1 = .ok (.istore_n 2, 1) := by decide +kernel
theorem dX9_ofDoors_2 : decode cX9_ofDoors 2 = .ok (.iconst 0, 1) := by decide +kernel
theorem dX9_ofDoors_3 : decode cX9_ofDoors 3 = .ok (.istore_n 3, 1) := by decide +kernel
theorem dX9_ofDoors_4 : decode cX9_ofDoors 4 = .ok (.iload_n 3, 1) := by decide +kernel
theorem dX9_ofDoors_5 : decode cX9_ofDoors 5 = .ok (.iconst 3, 1) := by decide +kernel
theorem dX9_ofDoors_6 : decode cX9_ofDoors 6 = .ok (.if_icmp .ge 18, 3) := by decide +kernel
theorem dX9_ofDoors_9 : decode cX9_ofDoors 9 = .ok (.iload_n 2, 1) := by decide +kernel
theorem dX9_ofDoors_10 : decode cX9_ofDoors 10 = .ok (.aload_n 0, 1) := by decide +kernel
theorem dX9_ofDoors_11 : decode cX9_ofDoors 11 = .ok (.iload_n 3, 1) := by decide +kernel
theorem dX9_ofDoors_12 : decode cX9_ofDoors 12 = .ok (.iload_n 1, 1) := by decide +kernel
theorem dX9_ofDoors_13 : decode cX9_ofDoors 13 = .ok (.invokevirtual 156, 3) := by decide +kernel
theorem dX9_ofDoors_16 : decode cX9_ofDoors 16 = .ok (.iadd, 1) := by decide +kernel
theorem dX9_ofDoors_17 : decode cX9_ofDoors 17 = .ok (.istore_n 2, 1) := by decide +kernel
theorem dX9_ofDoors_18 : decode cX9_ofDoors 18 = .ok (.iinc 3 1, 3) := by decide +kernel
theorem dX9_ofDoors_21 : decode cX9_ofDoors 21 = .ok (.goto (-17), 3) := by decide +kernel
theorem dX9_ofDoors_24 : decode cX9_ofDoors 24 = .ok (.iload_n 2, 1) := by decide +kernel
theorem dX9_ofDoors_25 : decode cX9_ofDoors 25 = .ok (.ireturn, 1) := by decide +kernel
theorem dX9_counted_0 : decode cX9_counted 0 = .ok (.iload_n 1, 1) := by decide +kernel
theorem dX9_counted_1 : decode cX9_counted 1 = .ok (.tableswitch 110 0 6 #[43, 71, 78, 84, 91, 97, 103], 43) := by decide +kernel
theorem dX9_counted_44 : decode cX9_counted 44 = .ok (.aload_n 0, 1) := by decide +kernel
theorem dX9_counted_45 : decode cX9_counted 45 = .ok (.iconst 0, 1) := by decide +kernel
theorem dX9_counted_46 : decode cX9_counted 46 = .ok (.iconst 4, 1) := by decide +kernel
theorem dX9_counted_47 : decode cX9_counted 47 = .ok (.invokevirtual 149, 3) := by decide +kernel
theorem dX9_counted_50 : decode cX9_counted 50 = .ok (.aload_n 0, 1) := by decide +kernel
theorem dX9_counted_51 : decode cX9_counted 51 = .ok (.iconst 1, 1) := by decide +kernel
theorem dX9_counted_52 : decode cX9_counted 52 = .ok (.iconst 4, 1) := by decide +kernel
theorem dX9_counted_53 : decode cX9_counted 53 = .ok (.invokevirtual 149, 3) := by decide +kernel
theorem dX9_counted_56 : decode cX9_counted 56 = .ok (.iadd, 1) := by decide +kernel
theorem dX9_counted_57 : decode cX9_counted 57 = .ok (.aload_n 0, 1) := by decide +kernel
theorem dX9_counted_58 : decode cX9_counted 58 = .ok (.iconst 2, 1) := by decide +kernel
theorem dX9_counted_59 : decode cX9_counted 59 = .ok (.iconst 4, 1) := by decide +kernel
theorem dX9_counted_60 : decode cX9_counted 60 = .ok (.invokevirtual 149, 3) := by decide +kernel
theorem dX9_counted_63 : decode cX9_counted 63 = .ok (.iadd, 1) := by decide +kernel
theorem dX9_counted_64 : decode cX9_counted 64 = .ok (.aload_n 0, 1) := by decide +kernel
theorem dX9_counted_65 : decode cX9_counted 65 = .ok (.iconst 3, 1) := by decide +kernel
theorem dX9_counted_66 : decode cX9_counted 66 = .ok (.iconst 4, 1) := by decide +kernel
theorem dX9_counted_67 : decode cX9_counted 67 = .ok (.invokevirtual 149, 3) := by decide +kernel
theorem dX9_counted_70 : decode cX9_counted 70 = .ok (.iadd, 1) := by decide +kernel
theorem dX9_counted_71 : decode cX9_counted 71 = .ok (.ireturn, 1) := by decide +kernel
theorem dX9_counted_72 : decode cX9_counted 72 = .ok (.aload_n 0, 1) := by decide +kernel
theorem dX9_counted_73 : decode cX9_counted 73 = .ok (.getfield 7, 3) := by decide +kernel
theorem dX9_counted_76 : decode cX9_counted 76 = .ok (.iconst 3, 1) := by decide +kernel
theorem dX9_counted_77 : decode cX9_counted 77 = .ok (.iaload, 1) := by decide +kernel
theorem dX9_counted_78 : decode cX9_counted 78 = .ok (.ireturn, 1) := by decide +kernel
theorem dX9_counted_79 : decode cX9_counted 79 = .ok (.aload_n 0, 1) := by decide +kernel
theorem dX9_counted_80 : decode cX9_counted 80 = .ok (.iconst 4, 1) := by decide +kernel
theorem dX9_counted_81 : decode cX9_counted 81 = .ok (.invokevirtual 159, 3) := by decide +kernel
theorem dX9_counted_84 : decode cX9_counted 84 = .ok (.ireturn, 1) := by decide +kernel
theorem dX9_counted_85 : decode cX9_counted 85 = .ok (.aload_n 0, 1) := by decide +kernel
theorem dX9_counted_86 : decode cX9_counted 86 = .ok (.getfield 7, 3) := by decide +kernel
theorem dX9_counted_89 : decode cX9_counted 89 = .ok (.iconst 4, 1) := by decide +kernel
theorem dX9_counted_90 : decode cX9_counted 90 = .ok (.iaload, 1) := by decide +kernel
theorem dX9_counted_91 : decode cX9_counted 91 = .ok (.ireturn, 1) := by decide +kernel
theorem dX9_counted_92 : decode cX9_counted 92 = .ok (.aload_n 0, 1) := by decide +kernel
theorem dX9_counted_93 : decode cX9_counted 93 = .ok (.iconst 0, 1) := by decide +kernel
theorem dX9_counted_94 : decode cX9_counted 94 = .ok (.invokevirtual 159, 3) := by decide +kernel
theorem dX9_counted_97 : decode cX9_counted 97 = .ok (.ireturn, 1) := by decide +kernel
theorem dX9_counted_98 : decode cX9_counted 98 = .ok (.aload_n 0, 1) := by decide +kernel
theorem dX9_counted_99 : decode cX9_counted 99 = .ok (.iconst 2, 1) := by decide +kernel
theorem dX9_counted_100 : decode cX9_counted 100 = .ok (.invokevirtual 159, 3) := by decide +kernel
theorem dX9_counted_103 : decode cX9_counted 103 = .ok (.ireturn, 1) := by decide +kernel
theorem dX9_counted_104 : decode cX9_counted 104 = .ok (.aload_n 0, 1) := by decide +kernel
theorem dX9_counted_105 : decode cX9_counted 105 = .ok (.getfield 7, 3) := by decide +kernel
theorem dX9_counted_108 : decode cX9_counted 108 = .ok (.iconst 5, 1) := by decide +kernel
theorem dX9_counted_109 : decode cX9_counted 109 = .ok (.iaload, 1) := by decide +kernel
theorem dX9_counted_110 : decode cX9_counted 110 = .ok (.ireturn, 1) := by decide +kernel
theorem dX9_counted_111 : decode cX9_counted 111 = .ok (.aload_n 0, 1) := by decide +kernel
theorem dX9_counted_112 : decode cX9_counted 112 = .ok (.getfield 37, 3) := by decide +kernel
theorem dX9_counted_115 : decode cX9_counted 115 = .ok (.ireturn, 1) := by decide +kernel
theorem dX9_count_0 : decode cX9_count 0 = .ok (.aload_n 0, 1) := by decide +kernel
theorem dX9_count_1 : decode cX9_count 1 = .ok (.iconst 0, 1) := by decide +kernel
theorem dX9_count_2 : decode cX9_count 2 = .ok (.putfield 25, 3) := by decide +kernel
theorem dX9_count_5 : decode cX9_count 5 = .ok (.iload_n 1, 1) := by decide +kernel
theorem dX9_count_6 : decode cX9_count 6 = .ok (.iconst 0, 1) := by decide +kernel
theorem dX9_count_7 : decode cX9_count 7 = .ok (.bipush 7, 2) := by decide +kernel
theorem dX9_count_9 : decode cX9_count 9 = .ok (.invokestatic 29, 3) := by decide +kernel
theorem dX9_count_12 : decode cX9_count 12 = .ok (.ifCond .eq 11, 3) := by decide +kernel
theorem dX9_count_15 : decode cX9_count 15 = .ok (.aload_n 0, 1) := by decide +kernel
theorem dX9_count_16 : decode cX9_count 16 = .ok (.iload_n 1, 1) := by decide +kernel
theorem dX9_count_17 : decode cX9_count 17 = .ok (.invokevirtual 162, 3) := by decide +kernel
theorem dX9_count_20 : decode cX9_count 20 = .ok (.goto 8, 3) := by decide +kernel
theorem dX9_count_23 : decode cX9_count 23 = .ok (.aload_n 0, 1) := by decide +kernel
theorem dX9_count_24 : decode cX9_count 24 = .ok (.iconst 1, 1) := by decide +kernel
theorem dX9_count_25 : decode cX9_count 25 = .ok (.invokevirtual 44, 3) := by decide +kernel
theorem dX9_count_28 : decode cX9_count 28 = .ok (.ireturn, 1) := by decide +kernel
theorem dX9_setting_0 : decode cX9_setting 0 = .ok (.aload_n 0, 1) := by decide +kernel
theorem dX9_setting_1 : decode cX9_setting 1 = .ok (.iconst 0, 1) := by decide +kernel
theorem dX9_setting_2 : decode cX9_setting 2 = .ok (.putfield 25, 3) := by decide +kernel
theorem dX9_setting_5 : decode cX9_setting 5 = .ok (.iload_n 1, 1) := by decide +kernel
theorem dX9_setting_6 : decode cX9_setting 6 = .ok (.iconst 0, 1) := by decide +kernel
theorem dX9_setting_7 : decode cX9_setting 7 = .ok (.iconst 2, 1) := by decide +kernel
theorem dX9_setting_8 : decode cX9_setting 8 = .ok (.invokestatic 29, 3) := by decide +kernel
theorem dX9_setting_11 : decode cX9_setting 11 = .ok (.ifCond .eq 12, 3) := by decide +kernel
theorem dX9_setting_14 : decode cX9_setting 14 = .ok (.aload_n 0, 1) := by decide +kernel
theorem dX9_setting_15 : decode cX9_setting 15 = .ok (.getfield 7, 3) := by decide +kernel
theorem dX9_setting_18 : decode cX9_setting 18 = .ok (.iload_n 1, 1) := by decide +kernel
theorem dX9_setting_19 : decode cX9_setting 19 = .ok (.iaload, 1) := by decide +kernel
theorem dX9_setting_20 : decode cX9_setting 20 = .ok (.goto 8, 3) := by decide +kernel
theorem dX9_setting_23 : decode cX9_setting 23 = .ok (.aload_n 0, 1) := by decide +kernel
theorem dX9_setting_24 : decode cX9_setting 24 = .ok (.iconst 1, 1) := by decide +kernel
theorem dX9_setting_25 : decode cX9_setting 25 = .ok (.invokevirtual 44, 3) := by decide +kernel
theorem dX9_setting_28 : decode cX9_setting 28 = .ok (.ireturn, 1) := by decide +kernel
theorem dX9_ifHeard_0 : decode cX9_ifHeard 0 = .ok (.aload_n 0, 1) := by decide +kernel
theorem dX9_ifHeard_1 : decode cX9_ifHeard 1 = .ok (.iconst 0, 1) := by decide +kernel
theorem dX9_ifHeard_2 : decode cX9_ifHeard 2 = .ok (.putfield 25, 3) := by decide +kernel
theorem dX9_ifHeard_5 : decode cX9_ifHeard 5 = .ok (.iload_n 1, 1) := by decide +kernel
theorem dX9_ifHeard_6 : decode cX9_ifHeard 6 = .ok (.invokestatic 33, 3) := by decide +kernel
theorem dX9_ifHeard_9 : decode cX9_ifHeard 9 = .ok (.ifCond .ne 9, 3) := by decide +kernel
theorem dX9_ifHeard_12 : decode cX9_ifHeard 12 = .ok (.aload_n 0, 1) := by decide +kernel
theorem dX9_ifHeard_13 : decode cX9_ifHeard 13 = .ok (.iconst 1, 1) := by decide +kernel
theorem dX9_ifHeard_14 : decode cX9_ifHeard 14 = .ok (.invokevirtual 44, 3) := by decide +kernel
theorem dX9_ifHeard_17 : decode cX9_ifHeard 17 = .ok (.ireturn, 1) := by decide +kernel
theorem dX9_ifHeard_18 : decode cX9_ifHeard 18 = .ok (.iload_n 2, 1) := by decide +kernel
theorem dX9_ifHeard_19 : decode cX9_ifHeard 19 = .ok (.iconst 0, 1) := by decide +kernel
theorem dX9_ifHeard_20 : decode cX9_ifHeard 20 = .ok (.ldc 165, 2) := by decide +kernel
theorem dX9_ifHeard_22 : decode cX9_ifHeard 22 = .ok (.invokestatic 29, 3) := by decide +kernel
theorem dX9_ifHeard_25 : decode cX9_ifHeard 25 = .ok (.ifCond .eq 16, 3) := by decide +kernel
theorem dX9_ifHeard_28 : decode cX9_ifHeard 28 = .ok (.aload_n 0, 1) := by decide +kernel
theorem dX9_ifHeard_29 : decode cX9_ifHeard 29 = .ok (.aload_n 0, 1) := by decide +kernel
theorem dX9_ifHeard_30 : decode cX9_ifHeard 30 = .ok (.getfield 7, 3) := by decide +kernel
theorem dX9_ifHeard_33 : decode cX9_ifHeard 33 = .ok (.iload_n 1, 1) := by decide +kernel
theorem dX9_ifHeard_34 : decode cX9_ifHeard 34 = .ok (.iload_n 2, 1) := by decide +kernel
theorem dX9_ifHeard_35 : decode cX9_ifHeard 35 = .ok (.invokevirtual 74, 3) := by decide +kernel
theorem dX9_ifHeard_38 : decode cX9_ifHeard 38 = .ok (.goto 8, 3) := by decide +kernel
theorem dX9_ifHeard_41 : decode cX9_ifHeard 41 = .ok (.aload_n 0, 1) := by decide +kernel
theorem dX9_ifHeard_42 : decode cX9_ifHeard 42 = .ok (.iconst 2, 1) := by decide +kernel
theorem dX9_ifHeard_43 : decode cX9_ifHeard 43 = .ok (.invokevirtual 44, 3) := by decide +kernel
theorem dX9_ifHeard_46 : decode cX9_ifHeard 46 = .ok (.ireturn, 1) := by decide +kernel
theorem dX9_opens_0 : decode cX9_opens 0 = .ok (.aload_n 0, 1) := by decide +kernel
theorem dX9_opens_1 : decode cX9_opens 1 = .ok (.getfield 7, 3) := by decide +kernel
theorem dX9_opens_4 : decode cX9_opens 4 = .ok (.iconst 0, 1) := by decide +kernel
theorem dX9_opens_5 : decode cX9_opens 5 = .ok (.aload_n 0, 1) := by decide +kernel
theorem dX9_opens_6 : decode cX9_opens 6 = .ok (.getfield 13, 3) := by decide +kernel
theorem dX9_opens_9 : decode cX9_opens 9 = .ok (.iconst 0, 1) := by decide +kernel
theorem dX9_opens_10 : decode cX9_opens 10 = .ok (.invokestatic 40, 3) := by decide +kernel
theorem dX9_opens_13 : decode cX9_opens 13 = .ok (.iconst 1, 1) := by decide +kernel
theorem dX9_opens_14 : decode cX9_opens 14 = .ok (.istore_n 3, 1) := by decide +kernel
theorem dX9_opens_15 : decode cX9_opens 15 = .ok (.iload_n 3, 1) := by decide +kernel
theorem dX9_opens_16 : decode cX9_opens 16 = .ok (.bipush 50, 2) := by decide +kernel
theorem dX9_opens_18 : decode cX9_opens 18 = .ok (.if_icmp .gt 44, 3) := by decide +kernel
theorem dX9_opens_21 : decode cX9_opens 21 = .ok (.aload_n 0, 1) := by decide +kernel
theorem dX9_opens_22 : decode cX9_opens 22 = .ok (.getfield 13, 3) := by decide +kernel
theorem dX9_opens_25 : decode cX9_opens 25 = .ok (.bipush 14, 2) := by decide +kernel
theorem dX9_opens_27 : decode cX9_opens 27 = .ok (.iconst 4, 1) := by decide +kernel
theorem dX9_opens_28 : decode cX9_opens 28 = .ok (.iload_n 1, 1) := by decide +kernel
theorem dX9_opens_29 : decode cX9_opens 29 = .ok (.imul, 1) := by decide +kernel
theorem dX9_opens_30 : decode cX9_opens 30 = .ok (.iadd, 1) := by decide +kernel
theorem dX9_opens_31 : decode cX9_opens 31 = .ok (.iconst 2, 1) := by decide +kernel
theorem dX9_opens_32 : decode cX9_opens 32 = .ok (.iadd, 1) := by decide +kernel
theorem dX9_opens_33 : decode cX9_opens 33 = .ok (.iaload, 1) := by decide +kernel
theorem dX9_opens_34 : decode cX9_opens 34 = .ok (.ifCond .ne 5, 3) := by decide +kernel
theorem dX9_opens_37 : decode cX9_opens 37 = .ok (.iconst (-1), 1) := by decide +kernel
theorem dX9_opens_38 : decode cX9_opens 38 = .ok (.ireturn, 1) := by decide +kernel
theorem dX9_opens_39 : decode cX9_opens 39 = .ok (.aload_n 0, 1) := by decide +kernel
theorem dX9_opens_40 : decode cX9_opens 40 = .ok (.aload_n 0, 1) := by decide +kernel
theorem dX9_opens_41 : decode cX9_opens 41 = .ok (.getfield 13, 3) := by decide +kernel
theorem dX9_opens_44 : decode cX9_opens 44 = .ok (.iload_n 1, 1) := by decide +kernel
theorem dX9_opens_45 : decode cX9_opens 45 = .ok (.iconst 1, 1) := by decide +kernel
theorem dX9_opens_46 : decode cX9_opens 46 = .ok (.iload_n 2, 1) := by decide +kernel
theorem dX9_opens_47 : decode cX9_opens 47 = .ok (.ishl, 1) := by decide +kernel
theorem dX9_opens_48 : decode cX9_opens 48 = .ok (.invokevirtual 101, 3) := by decide +kernel
theorem dX9_opens_51 : decode cX9_opens 51 = .ok (.ifCond .eq 5, 3) := by decide +kernel
theorem dX9_opens_54 : decode cX9_opens 54 = .ok (.iload_n 3, 1) := by decide +kernel
theorem dX9_opens_55 : decode cX9_opens 55 = .ok (.ireturn, 1) := by decide +kernel
theorem dX9_opens_56 : decode cX9_opens 56 = .ok (.iinc 3 1, 3) := by decide +kernel
theorem dX9_opens_59 : decode cX9_opens 59 = .ok (.goto (-44), 3) := by decide +kernel
theorem dX9_opens_62 : decode cX9_opens 62 = .ok (.iconst (-1), 1) := by decide +kernel
theorem dX9_opens_63 : decode cX9_opens 63 = .ok (.ireturn, 1) := by decide +kernel
theorem dX9_opensIn_0 : decode cX9_opensIn 0 = .ok (.aload_n 0, 1) := by decide +kernel
theorem dX9_opensIn_1 : decode cX9_opensIn 1 = .ok (.iconst 0, 1) := by decide +kernel
theorem dX9_opensIn_2 : decode cX9_opensIn 2 = .ok (.putfield 25, 3) := by decide +kernel
theorem dX9_opensIn_5 : decode cX9_opensIn 5 = .ok (.iload_n 1, 1) := by decide +kernel
theorem dX9_opensIn_6 : decode cX9_opensIn 6 = .ok (.invokestatic 92, 3) := by decide +kernel
theorem dX9_opensIn_9 : decode cX9_opensIn 9 = .ok (.ifCond .eq 19, 3) := by decide +kernel
theorem dX9_opensIn_12 : decode cX9_opensIn 12 = .ok (.iload_n 2, 1) := by decide +kernel
theorem dX9_opensIn_13 : decode cX9_opensIn 13 = .ok (.invokestatic 33, 3) := by decide +kernel
theorem dX9_opensIn_16 : decode cX9_opensIn 16 = .ok (.ifCond .eq 12, 3) := by decide +kernel
theorem dX9_opensIn_19 : decode cX9_opensIn 19 = .ok (.aload_n 0, 1) := by decide +kernel
theorem dX9_opensIn_20 : decode cX9_opensIn 20 = .ok (.iload_n 1, 1) := by decide +kernel
theorem dX9_opensIn_21 : decode cX9_opensIn 21 = .ok (.iload_n 2, 1) := by decide +kernel
theorem dX9_opensIn_22 : decode cX9_opensIn 22 = .ok (.invokevirtual 166, 3) := by decide +kernel
theorem dX9_opensIn_25 : decode cX9_opensIn 25 = .ok (.goto 8, 3) := by decide +kernel
theorem dX9_opensIn_28 : decode cX9_opensIn 28 = .ok (.aload_n 0, 1) := by decide +kernel
theorem dX9_opensIn_29 : decode cX9_opensIn 29 = .ok (.iconst 1, 1) := by decide +kernel
theorem dX9_opensIn_30 : decode cX9_opensIn 30 = .ok (.invokevirtual 44, 3) := by decide +kernel
theorem dX9_opensIn_33 : decode cX9_opensIn 33 = .ok (.ireturn, 1) := by decide +kernel
theorem dX9_misses_0 : decode cX9_misses 0 = .ok (.iconst 0, 1) := by decide +kernel
theorem dX9_misses_1 : decode cX9_misses 1 = .ok (.istore_n 3, 1) := by decide +kernel
theorem dX9_misses_2 : decode cX9_misses 2 = .ok (.iconst 1, 1) := by decide +kernel
theorem dX9_misses_3 : decode cX9_misses 3 = .ok (.istore 4, 2) := by decide +kernel
theorem dX9_misses_5 : decode cX9_misses 5 = .ok (.iload_n 3, 1) := by decide +kernel
theorem dX9_misses_6 : decode cX9_misses 6 = .ok (.bipush 100, 2) := by decide +kernel
theorem dX9_misses_8 : decode cX9_misses 8 = .ok (.if_icmp .ge 76, 3) := by decide +kernel
theorem dX9_misses_11 : decode cX9_misses 11 = .ok (.iload 4, 2) := by decide +kernel
theorem dX9_misses_13 : decode cX9_misses 13 = .ok (.ifCond .eq 71, 3) := by decide +kernel
theorem dX9_misses_16 : decode cX9_misses 16 = .ok (.aload_n 0, 1) := by decide +kernel
theorem dX9_misses_17 : decode cX9_misses 17 = .ok (.aload_n 0, 1) := by decide +kernel
theorem dX9_misses_18 : decode cX9_misses 18 = .ok (.getfield 7, 3) := by decide +kernel
theorem dX9_misses_21 : decode cX9_misses 21 = .ok (.iload_n 2, 1) := by decide +kernel
theorem dX9_misses_22 : decode cX9_misses 22 = .ok (.aload_n 0, 1) := by decide +kernel
theorem dX9_misses_23 : decode cX9_misses 23 = .ok (.getfield 7, 3) := by decide +kernel
theorem dX9_misses_26 : decode cX9_misses 26 = .ok (.bipush 14, 2) := by decide +kernel
theorem dX9_misses_28 : decode cX9_misses 28 = .ok (.iconst 4, 1) := by decide +kernel
theorem dX9_misses_29 : decode cX9_misses 29 = .ok (.iload_n 1, 1) := by decide +kernel
theorem dX9_misses_30 : decode cX9_misses 30 = .ok (.imul, 1) := by decide +kernel
theorem dX9_misses_31 : decode cX9_misses 31 = .ok (.iadd, 1) := by decide +kernel
theorem dX9_misses_32 : decode cX9_misses 32 = .ok (.iaload, 1) := by decide +kernel
theorem dX9_misses_33 : decode cX9_misses 33 = .ok (.aload_n 0, 1) := by decide +kernel
theorem dX9_misses_34 : decode cX9_misses 34 = .ok (.getfield 7, 3) := by decide +kernel
theorem dX9_misses_37 : decode cX9_misses 37 = .ok (.bipush 14, 2) := by decide +kernel
theorem dX9_misses_39 : decode cX9_misses 39 = .ok (.iconst 4, 1) := by decide +kernel
theorem dX9_misses_40 : decode cX9_misses 40 = .ok (.iload_n 1, 1) := by decide +kernel
theorem dX9_misses_41 : decode cX9_misses 41 = .ok (.imul, 1) := by decide +kernel
theorem dX9_misses_42 : decode cX9_misses 42 = .ok (.iadd, 1) := by decide +kernel
theorem dX9_misses_43 : decode cX9_misses 43 = .ok (.iconst 1, 1) := by decide +kernel
theorem dX9_misses_44 : decode cX9_misses 44 = .ok (.iadd, 1) := by decide +kernel
theorem dX9_misses_45 : decode cX9_misses 45 = .ok (.iaload, 1) := by decide +kernel
theorem dX9_misses_46 : decode cX9_misses 46 = .ok (.iload_n 3, 1) := by decide +kernel
theorem dX9_misses_47 : decode cX9_misses 47 = .ok (.iconst 1, 1) := by decide +kernel
theorem dX9_misses_48 : decode cX9_misses 48 = .ok (.iadd, 1) := by decide +kernel
theorem dX9_misses_49 : decode cX9_misses 49 = .ok (.invokestatic 60, 3) := by decide +kernel
theorem dX9_misses_52 : decode cX9_misses 52 = .ok (.invokestatic 63, 3) := by decide +kernel
theorem dX9_misses_55 : decode cX9_misses 55 = .ok (.invokevirtual 74, 3) := by decide +kernel
theorem dX9_misses_58 : decode cX9_misses 58 = .ok (.ifCond .ne 7, 3) := by decide +kernel
theorem dX9_misses_61 : decode cX9_misses 61 = .ok (.iconst 1, 1) := by decide +kernel
theorem dX9_misses_62 : decode cX9_misses 62 = .ok (.goto 4, 3) := by decide +kernel
theorem dX9_misses_65 : decode cX9_misses 65 = .ok (.iconst 0, 1) := by decide +kernel
theorem dX9_misses_66 : decode cX9_misses 66 = .ok (.istore 4, 2) := by decide +kernel
theorem dX9_misses_68 : decode cX9_misses 68 = .ok (.iload_n 3, 1) := by decide +kernel
theorem dX9_misses_69 : decode cX9_misses 69 = .ok (.iload 4, 2) := by decide +kernel
theorem dX9_misses_71 : decode cX9_misses 71 = .ok (.ifCond .eq 7, 3) := by decide +kernel
theorem dX9_misses_74 : decode cX9_misses 74 = .ok (.iconst 1, 1) := by decide +kernel
theorem dX9_misses_75 : decode cX9_misses 75 = .ok (.goto 4, 3) := by decide +kernel
theorem dX9_misses_78 : decode cX9_misses 78 = .ok (.iconst 0, 1) := by decide +kernel
theorem dX9_misses_79 : decode cX9_misses 79 = .ok (.iadd, 1) := by decide +kernel
theorem dX9_misses_80 : decode cX9_misses 80 = .ok (.istore_n 3, 1) := by decide +kernel
theorem dX9_misses_81 : decode cX9_misses 81 = .ok (.goto (-76), 3) := by decide +kernel
theorem dX9_misses_84 : decode cX9_misses 84 = .ok (.iload_n 3, 1) := by decide +kernel
theorem dX9_misses_85 : decode cX9_misses 85 = .ok (.ifCond .ne 7, 3) := by decide +kernel
theorem dX9_misses_88 : decode cX9_misses 88 = .ok (.iconst (-1), 1) := by decide +kernel
theorem dX9_misses_89 : decode cX9_misses 89 = .ok (.goto 6, 3) := by decide +kernel
theorem dX9_misses_92 : decode cX9_misses 92 = .ok (.iload_n 3, 1) := by decide +kernel
theorem dX9_misses_93 : decode cX9_misses 93 = .ok (.iconst 1, 1) := by decide +kernel
theorem dX9_misses_94 : decode cX9_misses 94 = .ok (.isub, 1) := by decide +kernel
theorem dX9_misses_95 : decode cX9_misses 95 = .ok (.ireturn, 1) := by decide +kernel
theorem dX9_unheard_0 : decode cX9_unheard 0 = .ok (.aload_n 0, 1) := by decide +kernel
theorem dX9_unheard_1 : decode cX9_unheard 1 = .ok (.iconst 0, 1) := by decide +kernel
theorem dX9_unheard_2 : decode cX9_unheard 2 = .ok (.putfield 25, 3) := by decide +kernel
theorem dX9_unheard_5 : decode cX9_unheard 5 = .ok (.iload_n 1, 1) := by decide +kernel
theorem dX9_unheard_6 : decode cX9_unheard 6 = .ok (.invokestatic 92, 3) := by decide +kernel
theorem dX9_unheard_9 : decode cX9_unheard 9 = .ok (.ifCond .eq 19, 3) := by decide +kernel
theorem dX9_unheard_12 : decode cX9_unheard 12 = .ok (.iload_n 2, 1) := by decide +kernel
theorem dX9_unheard_13 : decode cX9_unheard 13 = .ok (.invokestatic 33, 3) := by decide +kernel
theorem dX9_unheard_16 : decode cX9_unheard 16 = .ok (.ifCond .eq 12, 3) := by decide +kernel
theorem dX9_unheard_19 : decode cX9_unheard 19 = .ok (.aload_n 0, 1) := by decide +kernel
theorem dX9_unheard_20 : decode cX9_unheard 20 = .ok (.iload_n 1, 1) := by decide +kernel
theorem dX9_unheard_21 : decode cX9_unheard 21 = .ok (.iload_n 2, 1) := by decide +kernel
theorem dX9_unheard_22 : decode cX9_unheard 22 = .ok (.invokevirtual 169, 3) := by decide +kernel
theorem dX9_unheard_25 : decode cX9_unheard 25 = .ok (.goto 8, 3) := by decide +kernel
theorem dX9_unheard_28 : decode cX9_unheard 28 = .ok (.aload_n 0, 1) := by decide +kernel
theorem dX9_unheard_29 : decode cX9_unheard 29 = .ok (.iconst 1, 1) := by decide +kernel
theorem dX9_unheard_30 : decode cX9_unheard 30 = .ok (.invokevirtual 44, 3) := by decide +kernel
theorem dX9_unheard_33 : decode cX9_unheard 33 = .ok (.ireturn, 1) := by decide +kernel
theorem dX9_first_0 : decode cX9_first 0 = .ok (.iconst 0, 1) := by decide +kernel
theorem dX9_first_1 : decode cX9_first 1 = .ok (.istore_n 2, 1) := by decide +kernel
theorem dX9_first_2 : decode cX9_first 2 = .ok (.iload_n 2, 1) := by decide +kernel
theorem dX9_first_3 : decode cX9_first 3 = .ok (.aload_n 0, 1) := by decide +kernel
theorem dX9_first_4 : decode cX9_first 4 = .ok (.getfield 7, 3) := by decide +kernel
theorem dX9_first_7 : decode cX9_first 7 = .ok (.iconst 5, 1) := by decide +kernel
theorem dX9_first_8 : decode cX9_first 8 = .ok (.iaload, 1) := by decide +kernel
theorem dX9_first_9 : decode cX9_first 9 = .ok (.if_icmp .ge 32, 3) := by decide +kernel
theorem dX9_first_12 : decode cX9_first 12 = .ok (.aload_n 0, 1) := by decide +kernel
theorem dX9_first_13 : decode cX9_first 13 = .ok (.aload_n 0, 1) := by decide +kernel
theorem dX9_first_14 : decode cX9_first 14 = .ok (.getfield 7, 3) := by decide +kernel
theorem dX9_first_17 : decode cX9_first 17 = .ok (.iload_n 1, 1) := by decide +kernel
theorem dX9_first_18 : decode cX9_first 18 = .ok (.aload_n 0, 1) := by decide +kernel
theorem dX9_first_19 : decode cX9_first 19 = .ok (.getfield 7, 3) := by decide +kernel
theorem dX9_first_22 : decode cX9_first 22 = .ok (.bipush 6, 2) := by decide +kernel
theorem dX9_first_24 : decode cX9_first 24 = .ok (.iload_n 2, 1) := by decide +kernel
theorem dX9_first_25 : decode cX9_first 25 = .ok (.iadd, 1) := by decide +kernel
theorem dX9_first_26 : decode cX9_first 26 = .ok (.iaload, 1) := by decide +kernel
theorem dX9_first_27 : decode cX9_first 27 = .ok (.invokevirtual 74, 3) := by decide +kernel
theorem dX9_first_30 : decode cX9_first 30 = .ok (.ifCond .ne 5, 3) := by decide +kernel
theorem dX9_first_33 : decode cX9_first 33 = .ok (.iload_n 2, 1) := by decide +kernel
theorem dX9_first_34 : decode cX9_first 34 = .ok (.ireturn, 1) := by decide +kernel
theorem dX9_first_35 : decode cX9_first 35 = .ok (.iinc 2 1, 3) := by decide +kernel
theorem dX9_first_38 : decode cX9_first 38 = .ok (.goto (-36), 3) := by decide +kernel
theorem dX9_first_41 : decode cX9_first 41 = .ok (.iconst (-1), 1) := by decide +kernel
theorem dX9_first_42 : decode cX9_first 42 = .ok (.ireturn, 1) := by decide +kernel
theorem dX9_useful_0 : decode cX9_useful 0 = .ok (.aload_n 0, 1) := by decide +kernel
theorem dX9_useful_1 : decode cX9_useful 1 = .ok (.iconst 0, 1) := by decide +kernel
theorem dX9_useful_2 : decode cX9_useful 2 = .ok (.putfield 25, 3) := by decide +kernel
theorem dX9_useful_5 : decode cX9_useful 5 = .ok (.iload_n 1, 1) := by decide +kernel
theorem dX9_useful_6 : decode cX9_useful 6 = .ok (.invokestatic 33, 3) := by decide +kernel
theorem dX9_useful_9 : decode cX9_useful 9 = .ok (.ifCond .eq 11, 3) := by decide +kernel
theorem dX9_useful_12 : decode cX9_useful 12 = .ok (.aload_n 0, 1) := by decide +kernel
theorem dX9_useful_13 : decode cX9_useful 13 = .ok (.iload_n 1, 1) := by decide +kernel
theorem dX9_useful_14 : decode cX9_useful 14 = .ok (.invokevirtual 172, 3) := by decide +kernel
theorem dX9_useful_17 : decode cX9_useful 17 = .ok (.goto 8, 3) := by decide +kernel
theorem dX9_useful_20 : decode cX9_useful 20 = .ok (.aload_n 0, 1) := by decide +kernel
theorem dX9_useful_21 : decode cX9_useful 21 = .ok (.iconst 1, 1) := by decide +kernel
theorem dX9_useful_22 : decode cX9_useful 22 = .ok (.invokevirtual 44, 3) := by decide +kernel
theorem dX9_useful_25 : decode cX9_useful 25 = .ok (.ireturn, 1) := by decide +kernel
theorem dX9_share_0 : decode cX9_share 0 = .ok (.aload_n 0, 1) := by decide +kernel
theorem dX9_share_1 : decode cX9_share 1 = .ok (.iconst 4, 1) := by decide +kernel
theorem dX9_share_2 : decode cX9_share 2 = .ok (.invokevirtual 159, 3) := by decide +kernel
theorem dX9_share_5 : decode cX9_share 5 = .ok (.istore_n 1, 1) := by decide +kernel
theorem dX9_share_6 : decode cX9_share 6 = .ok (.iload_n 1, 1) := by decide +kernel
theorem dX9_share_7 : decode cX9_share 7 = .ok (.aload_n 0, 1) := by decide +kernel
theorem dX9_share_8 : decode cX9_share 8 = .ok (.bipush 6, 2) := by decide +kernel
theorem dX9_share_10 : decode cX9_share 10 = .ok (.invokevirtual 159, 3) := by decide +kernel
theorem dX9_share_13 : decode cX9_share 13 = .ok (.iadd, 1) := by decide +kernel
theorem dX9_share_14 : decode cX9_share 14 = .ok (.istore_n 2, 1) := by decide +kernel
theorem dX9_share_15 : decode cX9_share 15 = .ok (.iload_n 2, 1) := by decide +kernel
theorem dX9_share_16 : decode cX9_share 16 = .ok (.ifCond .ne 7, 3) := by decide +kernel
theorem dX9_share_19 : decode cX9_share 19 = .ok (.dconst 1, 1) := by decide +kernel
theorem dX9_share_20 : decode cX9_share 20 = .ok (.goto 8, 3) := by decide +kernel
theorem dX9_share_23 : decode cX9_share 23 = .ok (.iload_n 1, 1) := by decide +kernel
theorem dX9_share_24 : decode cX9_share 24 = .ok (.i2d, 1) := by decide +kernel
theorem dX9_share_25 : decode cX9_share 25 = .ok (.iload_n 2, 1) := by decide +kernel
theorem dX9_share_26 : decode cX9_share 26 = .ok (.i2d, 1) := by decide +kernel
theorem dX9_share_27 : decode cX9_share 27 = .ok (.ddiv, 1) := by decide +kernel
theorem dX9_share_28 : decode cX9_share 28 = .ok (.dreturn, 1) := by decide +kernel
theorem dX9_openShare_0 : decode cX9_openShare 0 = .ok (.aload_n 0, 1) := by decide +kernel
theorem dX9_openShare_1 : decode cX9_openShare 1 = .ok (.iconst 0, 1) := by decide +kernel
theorem dX9_openShare_2 : decode cX9_openShare 2 = .ok (.putfield 25, 3) := by decide +kernel
theorem dX9_openShare_5 : decode cX9_openShare 5 = .ok (.aload_n 0, 1) := by decide +kernel
theorem dX9_openShare_6 : decode cX9_openShare 6 = .ok (.invokevirtual 175, 3) := by decide +kernel
theorem dX9_openShare_9 : decode cX9_openShare 9 = .ok (.dreturn, 1) := by decide +kernel
theorem dX9_digest_0 : decode cX9_digest 0 = .ok (.aload_n 0, 1) := by decide +kernel
theorem dX9_digest_1 : decode cX9_digest 1 = .ok (.iconst 0, 1) := by decide +kernel
theorem dX9_digest_2 : decode cX9_digest 2 = .ok (.putfield 25, 3) := by decide +kernel
theorem dX9_digest_5 : decode cX9_digest 5 = .ok (.ldc2_w 179, 3) := by decide +kernel
theorem dX9_digest_8 : decode cX9_digest 8 = .ok (.lstore_n 1, 1) := by decide +kernel
theorem dX9_digest_9 : decode cX9_digest 9 = .ok (.iconst 0, 1) := by decide +kernel
theorem dX9_digest_10 : decode cX9_digest 10 = .ok (.istore_n 3, 1) := by decide +kernel
theorem dX9_digest_11 : decode cX9_digest 11 = .ok (.iload_n 3, 1) := by decide +kernel
theorem dX9_digest_12 : decode cX9_digest 12 = .ok (.bipush 8, 2) := by decide +kernel
theorem dX9_digest_14 : decode cX9_digest 14 = .ok (.if_icmp .ge 22, 3) := by decide +kernel
theorem dX9_digest_17 : decode cX9_digest 17 = .ok (.ldc2_w 181, 3) := by decide +kernel
theorem dX9_digest_20 : decode cX9_digest 20 = .ok (.lload_n 1, 1) := by decide +kernel
theorem dX9_digest_21 : decode cX9_digest 21 = .ok (.lmul, 1) := by decide +kernel
theorem dX9_digest_22 : decode cX9_digest 22 = .ok (.aload_n 0, 1) := by decide +kernel
theorem dX9_digest_23 : decode cX9_digest 23 = .ok (.iload_n 3, 1) := by decide +kernel
theorem dX9_digest_24 : decode cX9_digest 24 = .ok (.invokevirtual 162, 3) := by decide +kernel
theorem dX9_digest_27 : decode cX9_digest 27 = .ok (.i2l, 1) := by decide +kernel
theorem dX9_digest_28 : decode cX9_digest 28 = .ok (.ladd, 1) := by decide +kernel
theorem dX9_digest_29 : decode cX9_digest 29 = .ok (.lstore_n 1, 1) := by decide +kernel
theorem dX9_digest_30 : decode cX9_digest 30 = .ok (.iinc 3 1, 3) := by decide +kernel
theorem dX9_digest_33 : decode cX9_digest 33 = .ok (.goto (-22), 3) := by decide +kernel
theorem dX9_digest_36 : decode cX9_digest 36 = .ok (.iconst 0, 1) := by decide +kernel
theorem dX9_digest_37 : decode cX9_digest 37 = .ok (.istore_n 3, 1) := by decide +kernel
theorem dX9_digest_38 : decode cX9_digest 38 = .ok (.iload_n 3, 1) := by decide +kernel
theorem dX9_digest_39 : decode cX9_digest 39 = .ok (.iconst 3, 1) := by decide +kernel
theorem dX9_digest_40 : decode cX9_digest 40 = .ok (.if_icmp .ge 23, 3) := by decide +kernel
theorem dX9_digest_43 : decode cX9_digest 43 = .ok (.ldc2_w 181, 3) := by decide +kernel
theorem dX9_digest_46 : decode cX9_digest 46 = .ok (.lload_n 1, 1) := by decide +kernel
theorem dX9_digest_47 : decode cX9_digest 47 = .ok (.lmul, 1) := by decide +kernel
theorem dX9_digest_48 : decode cX9_digest 48 = .ok (.aload_n 0, 1) := by decide +kernel
theorem dX9_digest_49 : decode cX9_digest 49 = .ok (.getfield 7, 3) := by decide +kernel
theorem dX9_digest_52 : decode cX9_digest 52 = .ok (.iload_n 3, 1) := by decide +kernel
theorem dX9_digest_53 : decode cX9_digest 53 = .ok (.iaload, 1) := by decide +kernel
theorem dX9_digest_54 : decode cX9_digest 54 = .ok (.i2l, 1) := by decide +kernel
theorem dX9_digest_55 : decode cX9_digest 55 = .ok (.ladd, 1) := by decide +kernel
theorem dX9_digest_56 : decode cX9_digest 56 = .ok (.lstore_n 1, 1) := by decide +kernel
theorem dX9_digest_57 : decode cX9_digest 57 = .ok (.iinc 3 1, 3) := by decide +kernel
theorem dX9_digest_60 : decode cX9_digest 60 = .ok (.goto (-22), 3) := by decide +kernel
theorem dX9_digest_63 : decode cX9_digest 63 = .ok (.iconst 0, 1) := by decide +kernel
theorem dX9_digest_64 : decode cX9_digest 64 = .ok (.istore_n 3, 1) := by decide +kernel
theorem dX9_digest_65 : decode cX9_digest 65 = .ok (.iload_n 3, 1) := by decide +kernel
theorem dX9_digest_66 : decode cX9_digest 66 = .ok (.bipush 20, 2) := by decide +kernel
theorem dX9_digest_68 : decode cX9_digest 68 = .ok (.if_icmp .ge 27, 3) := by decide +kernel
theorem dX9_digest_71 : decode cX9_digest 71 = .ok (.ldc2_w 181, 3) := by decide +kernel
theorem dX9_digest_74 : decode cX9_digest 74 = .ok (.lload_n 1, 1) := by decide +kernel
theorem dX9_digest_75 : decode cX9_digest 75 = .ok (.lmul, 1) := by decide +kernel
theorem dX9_digest_76 : decode cX9_digest 76 = .ok (.aload_n 0, 1) := by decide +kernel
theorem dX9_digest_77 : decode cX9_digest 77 = .ok (.iload_n 3, 1) := by decide +kernel
theorem dX9_digest_78 : decode cX9_digest 78 = .ok (.iconst 5, 1) := by decide +kernel
theorem dX9_digest_79 : decode cX9_digest 79 = .ok (.idiv, 1) := by decide +kernel
theorem dX9_digest_80 : decode cX9_digest 80 = .ok (.iload_n 3, 1) := by decide +kernel
theorem dX9_digest_81 : decode cX9_digest 81 = .ok (.iconst 5, 1) := by decide +kernel
theorem dX9_digest_82 : decode cX9_digest 82 = .ok (.irem, 1) := by decide +kernel
theorem dX9_digest_83 : decode cX9_digest 83 = .ok (.invokevirtual 149, 3) := by decide +kernel
theorem dX9_digest_86 : decode cX9_digest 86 = .ok (.i2l, 1) := by decide +kernel
theorem dX9_digest_87 : decode cX9_digest 87 = .ok (.ladd, 1) := by decide +kernel
theorem dX9_digest_88 : decode cX9_digest 88 = .ok (.lstore_n 1, 1) := by decide +kernel
theorem dX9_digest_89 : decode cX9_digest 89 = .ok (.iinc 3 1, 3) := by decide +kernel
theorem dX9_digest_92 : decode cX9_digest 92 = .ok (.goto (-27), 3) := by decide +kernel
theorem dX9_digest_95 : decode cX9_digest 95 = .ok (.iconst 0, 1) := by decide +kernel
theorem dX9_digest_96 : decode cX9_digest 96 = .ok (.istore_n 3, 1) := by decide +kernel
theorem dX9_digest_97 : decode cX9_digest 97 = .ok (.iload_n 3, 1) := by decide +kernel
theorem dX9_digest_98 : decode cX9_digest 98 = .ok (.iconst 3, 1) := by decide +kernel
theorem dX9_digest_99 : decode cX9_digest 99 = .ok (.if_icmp .ge 133, 3) := by decide +kernel
theorem dX9_digest_102 : decode cX9_digest 102 = .ok (.iconst 0, 1) := by decide +kernel
theorem dX9_digest_103 : decode cX9_digest 103 = .ok (.istore 4, 2) := by decide +kernel
theorem dX9_digest_105 : decode cX9_digest 105 = .ok (.iload 4, 2) := by decide +kernel
theorem dX9_digest_107 : decode cX9_digest 107 = .ok (.bipush 8, 2) := by decide +kernel
theorem dX9_digest_109 : decode cX9_digest 109 = .ok (.if_icmp .ge 24, 3) := by decide +kernel
theorem dX9_digest_112 : decode cX9_digest 112 = .ok (.ldc2_w 181, 3) := by decide +kernel
theorem dX9_digest_115 : decode cX9_digest 115 = .ok (.lload_n 1, 1) := by decide +kernel
theorem dX9_digest_116 : decode cX9_digest 116 = .ok (.lmul, 1) := by decide +kernel
theorem dX9_digest_117 : decode cX9_digest 117 = .ok (.aload_n 0, 1) := by decide +kernel
theorem dX9_digest_118 : decode cX9_digest 118 = .ok (.iload_n 3, 1) := by decide +kernel
theorem dX9_digest_119 : decode cX9_digest 119 = .ok (.iload 4, 2) := by decide +kernel
theorem dX9_digest_121 : decode cX9_digest 121 = .ok (.invokevirtual 156, 3) := by decide +kernel
theorem dX9_digest_124 : decode cX9_digest 124 = .ok (.i2l, 1) := by decide +kernel
theorem dX9_digest_125 : decode cX9_digest 125 = .ok (.ladd, 1) := by decide +kernel
theorem dX9_digest_126 : decode cX9_digest 126 = .ok (.lstore_n 1, 1) := by decide +kernel
theorem dX9_digest_127 : decode cX9_digest 127 = .ok (.iinc 4 1, 3) := by decide +kernel
theorem dX9_digest_130 : decode cX9_digest 130 = .ok (.goto (-25), 3) := by decide +kernel
theorem dX9_digest_133 : decode cX9_digest 133 = .ok (.iconst 0, 1) := by decide +kernel
theorem dX9_digest_134 : decode cX9_digest 134 = .ok (.istore 4, 2) := by decide +kernel
theorem dX9_digest_136 : decode cX9_digest 136 = .ok (.iload 4, 2) := by decide +kernel
theorem dX9_digest_138 : decode cX9_digest 138 = .ok (.bipush 16, 2) := by decide +kernel
theorem dX9_digest_140 : decode cX9_digest 140 = .ok (.if_icmp .ge 30, 3) := by decide +kernel
theorem dX9_digest_143 : decode cX9_digest 143 = .ok (.ldc2_w 181, 3) := by decide +kernel
theorem dX9_digest_146 : decode cX9_digest 146 = .ok (.lload_n 1, 1) := by decide +kernel
theorem dX9_digest_147 : decode cX9_digest 147 = .ok (.lmul, 1) := by decide +kernel
theorem dX9_digest_148 : decode cX9_digest 148 = .ok (.aload_n 0, 1) := by decide +kernel
theorem dX9_digest_149 : decode cX9_digest 149 = .ok (.iload_n 3, 1) := by decide +kernel
theorem dX9_digest_150 : decode cX9_digest 150 = .ok (.iload 4, 2) := by decide +kernel
theorem dX9_digest_152 : decode cX9_digest 152 = .ok (.iconst 4, 1) := by decide +kernel
theorem dX9_digest_153 : decode cX9_digest 153 = .ok (.idiv, 1) := by decide +kernel
theorem dX9_digest_154 : decode cX9_digest 154 = .ok (.iload 4, 2) := by decide +kernel
theorem dX9_digest_156 : decode cX9_digest 156 = .ok (.iconst 4, 1) := by decide +kernel
theorem dX9_digest_157 : decode cX9_digest 157 = .ok (.irem, 1) := by decide +kernel
theorem dX9_digest_158 : decode cX9_digest 158 = .ok (.invokevirtual 152, 3) := by decide +kernel
theorem dX9_digest_161 : decode cX9_digest 161 = .ok (.i2l, 1) := by decide +kernel
theorem dX9_digest_162 : decode cX9_digest 162 = .ok (.ladd, 1) := by decide +kernel
theorem dX9_digest_163 : decode cX9_digest 163 = .ok (.lstore_n 1, 1) := by decide +kernel
theorem dX9_digest_164 : decode cX9_digest 164 = .ok (.iinc 4 1, 3) := by decide +kernel
theorem dX9_digest_167 : decode cX9_digest 167 = .ok (.goto (-31), 3) := by decide +kernel
theorem dX9_digest_170 : decode cX9_digest 170 = .ok (.ldc2_w 181, 3) := by decide +kernel
theorem dX9_digest_173 : decode cX9_digest 173 = .ok (.lload_n 1, 1) := by decide +kernel
theorem dX9_digest_174 : decode cX9_digest 174 = .ok (.lmul, 1) := by decide +kernel
theorem dX9_digest_175 : decode cX9_digest 175 = .ok (.aload_n 0, 1) := by decide +kernel
theorem dX9_digest_176 : decode cX9_digest 176 = .ok (.iload_n 3, 1) := by decide +kernel
theorem dX9_digest_177 : decode cX9_digest 177 = .ok (.invokevirtual 172, 3) := by decide +kernel
theorem dX9_digest_180 : decode cX9_digest 180 = .ok (.i2l, 1) := by decide +kernel
theorem dX9_digest_181 : decode cX9_digest 181 = .ok (.ladd, 1) := by decide +kernel
theorem dX9_digest_182 : decode cX9_digest 182 = .ok (.lstore_n 1, 1) := by decide +kernel
theorem dX9_digest_183 : decode cX9_digest 183 = .ok (.iconst 0, 1) := by decide +kernel
theorem dX9_digest_184 : decode cX9_digest 184 = .ok (.istore 4, 2) := by decide +kernel
theorem dX9_digest_186 : decode cX9_digest 186 = .ok (.iload 4, 2) := by decide +kernel
theorem dX9_digest_188 : decode cX9_digest 188 = .ok (.iconst 4, 1) := by decide +kernel
theorem dX9_digest_189 : decode cX9_digest 189 = .ok (.if_icmp .ge 37, 3) := by decide +kernel
theorem dX9_digest_192 : decode cX9_digest 192 = .ok (.ldc2_w 181, 3) := by decide +kernel
theorem dX9_digest_195 : decode cX9_digest 195 = .ok (.ldc2_w 181, 3) := by decide +kernel
theorem dX9_digest_198 : decode cX9_digest 198 = .ok (.lload_n 1, 1) := by decide +kernel
theorem dX9_digest_199 : decode cX9_digest 199 = .ok (.lmul, 1) := by decide +kernel
theorem dX9_digest_200 : decode cX9_digest 200 = .ok (.aload_n 0, 1) := by decide +kernel
theorem dX9_digest_201 : decode cX9_digest 201 = .ok (.iload 4, 2) := by decide +kernel
theorem dX9_digest_203 : decode cX9_digest 203 = .ok (.iload_n 3, 1) := by decide +kernel
theorem dX9_digest_204 : decode cX9_digest 204 = .ok (.invokevirtual 166, 3) := by decide +kernel
theorem dX9_digest_207 : decode cX9_digest 207 = .ok (.i2l, 1) := by decide +kernel
theorem dX9_digest_208 : decode cX9_digest 208 = .ok (.ladd, 1) := by decide +kernel
theorem dX9_digest_209 : decode cX9_digest 209 = .ok (.lmul, 1) := by decide +kernel
theorem dX9_digest_210 : decode cX9_digest 210 = .ok (.aload_n 0, 1) := by decide +kernel
theorem dX9_digest_211 : decode cX9_digest 211 = .ok (.iload 4, 2) := by decide +kernel
theorem dX9_digest_213 : decode cX9_digest 213 = .ok (.iload_n 3, 1) := by decide +kernel
theorem dX9_digest_214 : decode cX9_digest 214 = .ok (.invokevirtual 169, 3) := by decide +kernel
theorem dX9_digest_217 : decode cX9_digest 217 = .ok (.i2l, 1) := by decide +kernel
theorem dX9_digest_218 : decode cX9_digest 218 = .ok (.ladd, 1) := by decide +kernel
theorem dX9_digest_219 : decode cX9_digest 219 = .ok (.lstore_n 1, 1) := by decide +kernel
theorem dX9_digest_220 : decode cX9_digest 220 = .ok (.iinc 4 1, 3) := by decide +kernel
theorem dX9_digest_223 : decode cX9_digest 223 = .ok (.goto (-37), 3) := by decide +kernel
theorem dX9_digest_226 : decode cX9_digest 226 = .ok (.iinc 3 1, 3) := by decide +kernel
theorem dX9_digest_229 : decode cX9_digest 229 = .ok (.goto (-132), 3) := by decide +kernel
theorem dX9_digest_232 : decode cX9_digest 232 = .ok (.iconst 0, 1) := by decide +kernel
theorem dX9_digest_233 : decode cX9_digest 233 = .ok (.istore_n 3, 1) := by decide +kernel
theorem dX9_digest_234 : decode cX9_digest 234 = .ok (.iload_n 3, 1) := by decide +kernel
theorem dX9_digest_235 : decode cX9_digest 235 = .ok (.aload_n 0, 1) := by decide +kernel
theorem dX9_digest_236 : decode cX9_digest 236 = .ok (.getfield 7, 3) := by decide +kernel
theorem dX9_digest_239 : decode cX9_digest 239 = .ok (.iconst 5, 1) := by decide +kernel
theorem dX9_digest_240 : decode cX9_digest 240 = .ok (.iaload, 1) := by decide +kernel
theorem dX9_digest_241 : decode cX9_digest 241 = .ok (.if_icmp .ge 26, 3) := by decide +kernel
theorem dX9_digest_244 : decode cX9_digest 244 = .ok (.ldc2_w 181, 3) := by decide +kernel
theorem dX9_digest_247 : decode cX9_digest 247 = .ok (.lload_n 1, 1) := by decide +kernel
theorem dX9_digest_248 : decode cX9_digest 248 = .ok (.lmul, 1) := by decide +kernel
theorem dX9_digest_249 : decode cX9_digest 249 = .ok (.aload_n 0, 1) := by decide +kernel
theorem dX9_digest_250 : decode cX9_digest 250 = .ok (.getfield 7, 3) := by decide +kernel
theorem dX9_digest_253 : decode cX9_digest 253 = .ok (.bipush 6, 2) := by decide +kernel
theorem dX9_digest_255 : decode cX9_digest 255 = .ok (.iload_n 3, 1) := by decide +kernel
theorem dX9_digest_256 : decode cX9_digest 256 = .ok (.iadd, 1) := by decide +kernel
theorem dX9_digest_257 : decode cX9_digest 257 = .ok (.iaload, 1) := by decide +kernel
theorem dX9_digest_258 : decode cX9_digest 258 = .ok (.i2l, 1) := by decide +kernel
theorem dX9_digest_259 : decode cX9_digest 259 = .ok (.ladd, 1) := by decide +kernel
theorem dX9_digest_260 : decode cX9_digest 260 = .ok (.lstore_n 1, 1) := by decide +kernel
theorem dX9_digest_261 : decode cX9_digest 261 = .ok (.iinc 3 1, 3) := by decide +kernel
theorem dX9_digest_264 : decode cX9_digest 264 = .ok (.goto (-30), 3) := by decide +kernel
theorem dX9_digest_267 : decode cX9_digest 267 = .ok (.ldc2_w 181, 3) := by decide +kernel
theorem dX9_digest_270 : decode cX9_digest 270 = .ok (.lload_n 1, 1) := by decide +kernel
theorem dX9_digest_271 : decode cX9_digest 271 = .ok (.lmul, 1) := by decide +kernel
theorem dX9_digest_272 : decode cX9_digest 272 = .ok (.aload_n 0, 1) := by decide +kernel
theorem dX9_digest_273 : decode cX9_digest 273 = .ok (.aload_n 0, 1) := by decide +kernel
theorem dX9_digest_274 : decode cX9_digest 274 = .ok (.getfield 7, 3) := by decide +kernel
theorem dX9_digest_277 : decode cX9_digest 277 = .ok (.iconst 0, 1) := by decide +kernel
theorem dX9_digest_278 : decode cX9_digest 278 = .ok (.sipush 7919, 3) := by decide +kernel
theorem dX9_digest_281 : decode cX9_digest 281 = .ok (.invokevirtual 74, 3) := by decide +kernel
theorem dX9_digest_284 : decode cX9_digest 284 = .ok (.i2l, 1) := by decide +kernel
theorem dX9_digest_285 : decode cX9_digest 285 = .ok (.ladd, 1) := by decide +kernel
theorem dX9_digest_286 : decode cX9_digest 286 = .ok (.lstore_n 1, 1) := by decide +kernel
theorem dX9_digest_287 : decode cX9_digest 287 = .ok (.ldc2_w 181, 3) := by decide +kernel
theorem dX9_digest_290 : decode cX9_digest 290 = .ok (.ldc2_w 181, 3) := by decide +kernel
theorem dX9_digest_293 : decode cX9_digest 293 = .ok (.lload_n 1, 1) := by decide +kernel
theorem dX9_digest_294 : decode cX9_digest 294 = .ok (.lmul, 1) := by decide +kernel
theorem dX9_digest_295 : decode cX9_digest 295 = .ok (.aload_n 0, 1) := by decide +kernel
theorem dX9_digest_296 : decode cX9_digest 296 = .ok (.invokevirtual 175, 3) := by decide +kernel
theorem dX9_digest_299 : decode cX9_digest 299 = .ok (.invokestatic 183, 3) := by decide +kernel
theorem dX9_digest_302 : decode cX9_digest 302 = .ok (.ladd, 1) := by decide +kernel
theorem dX9_digest_303 : decode cX9_digest 303 = .ok (.lmul, 1) := by decide +kernel
theorem dX9_digest_304 : decode cX9_digest 304 = .ok (.aload_n 0, 1) := by decide +kernel
theorem dX9_digest_305 : decode cX9_digest 305 = .ok (.getfield 114, 3) := by decide +kernel
theorem dX9_digest_308 : decode cX9_digest 308 = .ok (.i2l, 1) := by decide +kernel
theorem dX9_digest_309 : decode cX9_digest 309 = .ok (.ladd, 1) := by decide +kernel
theorem dX9_digest_310 : decode cX9_digest 310 = .ok (.lstore_n 1, 1) := by decide +kernel
theorem dX9_digest_311 : decode cX9_digest 311 = .ok (.iconst 0, 1) := by decide +kernel
theorem dX9_digest_312 : decode cX9_digest 312 = .ok (.istore_n 3, 1) := by decide +kernel
theorem dX9_digest_313 : decode cX9_digest 313 = .ok (.iload_n 3, 1) := by decide +kernel
theorem dX9_digest_314 : decode cX9_digest 314 = .ok (.aload_n 0, 1) := by decide +kernel
theorem dX9_digest_315 : decode cX9_digest 315 = .ok (.getfield 114, 3) := by decide +kernel
theorem dX9_digest_318 : decode cX9_digest 318 = .ok (.if_icmp .ge 23, 3) := by decide +kernel
theorem dX9_digest_321 : decode cX9_digest 321 = .ok (.ldc2_w 181, 3) := by decide +kernel
theorem dX9_digest_324 : decode cX9_digest 324 = .ok (.lload_n 1, 1) := by decide +kernel
theorem dX9_digest_325 : decode cX9_digest 325 = .ok (.lmul, 1) := by decide +kernel
theorem dX9_digest_326 : decode cX9_digest 326 = .ok (.aload_n 0, 1) := by decide +kernel
theorem dX9_digest_327 : decode cX9_digest 327 = .ok (.getfield 19, 3) := by decide +kernel
theorem dX9_digest_330 : decode cX9_digest 330 = .ok (.iload_n 3, 1) := by decide +kernel
theorem dX9_digest_331 : decode cX9_digest 331 = .ok (.iaload, 1) := by decide +kernel
theorem dX9_digest_332 : decode cX9_digest 332 = .ok (.i2l, 1) := by decide +kernel
theorem dX9_digest_333 : decode cX9_digest 333 = .ok (.ladd, 1) := by decide +kernel
theorem dX9_digest_334 : decode cX9_digest 334 = .ok (.lstore_n 1, 1) := by decide +kernel
theorem dX9_digest_335 : decode cX9_digest 335 = .ok (.iinc 3 1, 3) := by decide +kernel
theorem dX9_digest_338 : decode cX9_digest 338 = .ok (.goto (-25), 3) := by decide +kernel
theorem dX9_digest_341 : decode cX9_digest 341 = .ok (.lload_n 1, 1) := by decide +kernel
theorem dX9_digest_342 : decode cX9_digest 342 = .ok (.lreturn, 1) := by decide +kernel
end
section
/-! ===== small rows that the generated walks use ===== -/
theorem rm_nm {p : Program} {l : Launch} {e : Env} {R : Room} {s : State} {m : MethodId} {args : Array Value} {below : List Frame} {meth : Method} {c : Code} {nL : Nat} {D : va_G} {cy : Nat → ClassId} {ad : Ads} {A : Nat → Prop} {nc ns : Nat} {Q : State → Prop} {y : Mem} {pc : Nat} {ls : List (Nat × Value)} {st : List Value} (h : ∀ z : Mem, z = y → RM p l e R s m args below meth c nL A (GG D cy ad z) nc ns Q pc ls st) : RM p l e R s m args below meth c nL A (GG D cy ad y) nc ns Q pc ls st := h y rfl
theorem nadd {m n q : Nat} (h : m + n = q) : nI m + nI n = nI q := by rw [nI_add, h]
theorem nmul {m n q : Nat} (h : m * n = q) : nI m * nI n = nI q := by rw [pk_mul, h]
theorem nIi (a : Nat) : nI a + Int32.ofInt 1 = nI (a + 1) := nI_1 a
theorem nrb {v : Int32} (h : v = 0 ∨ v = 1) : narrow .boolean (.int v) = .int v := by rcases h with rfl | rfl <;> rfl
theorem ftb {v : Int32} (h : v = 0 ∨ v = 1) : fits .boolean (.int v) = true := by rcases h with rfl | rfl <;> rfl
theorem ft_0_1 : ∀ q : vw_C, vwCl[0]? = some q → (q.2.1 1).2.2.2 = false ∧ parseFieldDescriptor (q.2.1 1).2.2.1 = some .int := fun q hq => by
  obtain rfl := Option.some.inj hq
  exact ⟨rfl, by decide +kernel⟩
theorem ft_1_1 : ∀ q : vw_C, vwCl[1]? = some q → (q.2.1 1).2.2.2 = false ∧ parseFieldDescriptor (q.2.1 1).2.2.1 = some .boolean := fun q hq => by
  obtain rfl := Option.some.inj hq
  exact ⟨rfl, by decide +kernel⟩
theorem ft_1_2 : ∀ q : vw_C, vwCl[1]? = some q → (q.2.1 2).2.2.2 = false ∧ parseFieldDescriptor (q.2.1 2).2.2.1 = some .int := fun q hq => by
  obtain rfl := Option.some.inj hq
  exact ⟨rfl, by decide +kernel⟩
theorem ft_1_3 : ∀ q : vw_C, vwCl[1]? = some q → (q.2.1 3).2.2.2 = false ∧ parseFieldDescriptor (q.2.1 3).2.2.1 = some .int := fun q hq => by
  obtain rfl := Option.some.inj hq
  exact ⟨rfl, by decide +kernel⟩
theorem ft_1_4 : ∀ q : vw_C, vwCl[1]? = some q → (q.2.1 4).2.2.2 = false ∧ parseFieldDescriptor (q.2.1 4).2.2.1 = some .int := fun q hq => by
  obtain rfl := Option.some.inj hq
  exact ⟨rfl, by decide +kernel⟩
theorem ft_1_5 : ∀ q : vw_C, vwCl[1]? = some q → (q.2.1 5).2.2.2 = false ∧ parseFieldDescriptor (q.2.1 5).2.2.1 = some .int := fun q hq => by
  obtain rfl := Option.some.inj hq
  exact ⟨rfl, by decide +kernel⟩
theorem ft_1_6 : ∀ q : vw_C, vwCl[1]? = some q → (q.2.1 6).2.2.2 = false ∧ parseFieldDescriptor (q.2.1 6).2.2.1 = some .int := fun q hq => by
  obtain rfl := Option.some.inj hq
  exact ⟨rfl, by decide +kernel⟩
theorem ft_2_0 : ∀ q : vw_C, vwCl[2]? = some q → (q.2.1 0).2.2.2 = false ∧ parseFieldDescriptor (q.2.1 0).2.2.1 = some .int := fun q hq => by
  obtain rfl := Option.some.inj hq
  exact ⟨rfl, by decide +kernel⟩
theorem ft_2_1 : ∀ q : vw_C, vwCl[2]? = some q → (q.2.1 1).2.2.2 = false ∧ parseFieldDescriptor (q.2.1 1).2.2.1 = some .int := fun q hq => by
  obtain rfl := Option.some.inj hq
  exact ⟨rfl, by decide +kernel⟩
theorem ft_2_2 : ∀ q : vw_C, vwCl[2]? = some q → (q.2.1 2).2.2.2 = false ∧ parseFieldDescriptor (q.2.1 2).2.2.1 = some .int := fun q hq => by
  obtain rfl := Option.some.inj hq
  exact ⟨rfl, by decide +kernel⟩
theorem ft_2_3 : ∀ q : vw_C, vwCl[2]? = some q → (q.2.1 3).2.2.2 = false ∧ parseFieldDescriptor (q.2.1 3).2.2.1 = some .int := fun q hq => by
  obtain rfl := Option.some.inj hq
  exact ⟨rfl, by decide +kernel⟩
theorem ft_3_1 : ∀ q : vw_C, vwCl[3]? = some q → (q.2.1 1).2.2.2 = false ∧ parseFieldDescriptor (q.2.1 1).2.2.1 = some .int := fun q hq => by
  obtain rfl := Option.some.inj hq
  exact ⟨rfl, by decide +kernel⟩
theorem ft_3_2 : ∀ q : vw_C, vwCl[3]? = some q → (q.2.1 2).2.2.2 = false ∧ parseFieldDescriptor (q.2.1 2).2.2.1 = some .int := fun q hq => by
  obtain rfl := Option.some.inj hq
  exact ⟨rfl, by decide +kernel⟩
theorem ft_4_0 : ∀ q : vw_C, vwCl[4]? = some q → (q.2.1 0).2.2.2 = false ∧ parseFieldDescriptor (q.2.1 0).2.2.1 = some .int := fun q hq => by
  obtain rfl := Option.some.inj hq
  exact ⟨rfl, by decide +kernel⟩
theorem ft_4_1 : ∀ q : vw_C, vwCl[4]? = some q → (q.2.1 1).2.2.2 = false ∧ parseFieldDescriptor (q.2.1 1).2.2.1 = some .int := fun q hq => by
  obtain rfl := Option.some.inj hq
  exact ⟨rfl, by decide +kernel⟩
theorem ft_4_2 : ∀ q : vw_C, vwCl[4]? = some q → (q.2.1 2).2.2.2 = false ∧ parseFieldDescriptor (q.2.1 2).2.2.1 = some .int := fun q hq => by
  obtain rfl := Option.some.inj hq
  exact ⟨rfl, by decide +kernel⟩
theorem ft_5_0 : ∀ q : vw_C, vwCl[5]? = some q → (q.2.1 0).2.2.2 = false ∧ parseFieldDescriptor (q.2.1 0).2.2.1 = some .boolean := fun q hq => by
  obtain rfl := Option.some.inj hq
  exact ⟨rfl, by decide +kernel⟩
theorem ft_5_1 : ∀ q : vw_C, vwCl[5]? = some q → (q.2.1 1).2.2.2 = false ∧ parseFieldDescriptor (q.2.1 1).2.2.1 = some .int := fun q hq => by
  obtain rfl := Option.some.inj hq
  exact ⟨rfl, by decide +kernel⟩
theorem ft_5_2 : ∀ q : vw_C, vwCl[5]? = some q → (q.2.1 2).2.2.2 = false ∧ parseFieldDescriptor (q.2.1 2).2.2.1 = some .int := fun q hq => by
  obtain rfl := Option.some.inj hq
  exact ⟨rfl, by decide +kernel⟩
theorem ft_5_3 : ∀ q : vw_C, vwCl[5]? = some q → (q.2.1 3).2.2.2 = false ∧ parseFieldDescriptor (q.2.1 3).2.2.1 = some .int := fun q hq => by
  obtain rfl := Option.some.inj hq
  exact ⟨rfl, by decide +kernel⟩
theorem ft_6_4 : ∀ q : vw_C, vwCl[6]? = some q → (q.2.1 4).2.2.2 = false ∧ parseFieldDescriptor (q.2.1 4).2.2.1 = some .int := fun q hq => by
  obtain rfl := Option.some.inj hq
  exact ⟨rfl, by decide +kernel⟩
theorem ft_6_5 : ∀ q : vw_C, vwCl[6]? = some q → (q.2.1 5).2.2.2 = false ∧ parseFieldDescriptor (q.2.1 5).2.2.1 = some .int := fun q hq => by
  obtain rfl := Option.some.inj hq
  exact ⟨rfl, by decide +kernel⟩
theorem ft_7_1 : ∀ q : vw_C, vwCl[7]? = some q → (q.2.1 1).2.2.2 = false ∧ parseFieldDescriptor (q.2.1 1).2.2.1 = some .int := fun q hq => by
  obtain rfl := Option.some.inj hq
  exact ⟨rfl, by decide +kernel⟩
theorem ft_9_3 : ∀ q : vw_C, vwCl[9]? = some q → (q.2.1 3).2.2.2 = false ∧ parseFieldDescriptor (q.2.1 3).2.2.1 = some .int := fun q hq => by
  obtain rfl := Option.some.inj hq
  exact ⟨rfl, by decide +kernel⟩
theorem ft_9_5 : ∀ q : vw_C, vwCl[9]? = some q → (q.2.1 5).2.2.2 = false ∧ parseFieldDescriptor (q.2.1 5).2.2.1 = some .int := fun q hq => by
  obtain rfl := Option.some.inj hq
  exact ⟨rfl, by decide +kernel⟩
theorem ft_9_6 : ∀ q : vw_C, vwCl[9]? = some q → (q.2.1 6).2.2.2 = false ∧ parseFieldDescriptor (q.2.1 6).2.2.1 = some .int := fun q hq => by
  obtain rfl := Option.some.inj hq
  exact ⟨rfl, by decide +kernel⟩
theorem ft_9_7 : ∀ q : vw_C, vwCl[9]? = some q → (q.2.1 7).2.2.2 = false ∧ parseFieldDescriptor (q.2.1 7).2.2.1 = some .int := fun q hq => by
  obtain rfl := Option.some.inj hq
  exact ⟨rfl, by decide +kernel⟩
theorem ft_9_8 : ∀ q : vw_C, vwCl[9]? = some q → (q.2.1 8).2.2.2 = false ∧ parseFieldDescriptor (q.2.1 8).2.2.1 = some .boolean := fun q hq => by
  obtain rfl := Option.some.inj hq
  exact ⟨rfl, by decide +kernel⟩
theorem ft_9_10 : ∀ q : vw_C, vwCl[9]? = some q → (q.2.1 10).2.2.2 = false ∧ parseFieldDescriptor (q.2.1 10).2.2.1 = some .int := fun q hq => by
  obtain rfl := Option.some.inj hq
  exact ⟨rfl, by decide +kernel⟩
theorem ft_9_11 : ∀ q : vw_C, vwCl[9]? = some q → (q.2.1 11).2.2.2 = false ∧ parseFieldDescriptor (q.2.1 11).2.2.1 = some .int := fun q hq => by
  obtain rfl := Option.some.inj hq
  exact ⟨rfl, by decide +kernel⟩
theorem ft_9_12 : ∀ q : vw_C, vwCl[9]? = some q → (q.2.1 12).2.2.2 = false ∧ parseFieldDescriptor (q.2.1 12).2.2.1 = some .int := fun q hq => by
  obtain rfl := Option.some.inj hq
  exact ⟨rfl, by decide +kernel⟩
def MMin (own : String) (index : Nat) : Prop := Cond.methodLink own index Lib.Math.min.name ∈ TB ∧ Cond.static Lib.Math.min.name ∈ TB ∧ Cond.initialized "java/lang/Math" ∈ TB ∧ Cond.code Lib.Math.min.name Lib.Math.min.code 2 (some .int) ∈ TB
theorem kl_min_X8 : MMin RX8 265 := ⟨tbm (i := 400) (by decide +kernel) (by decide +kernel), tbm (i := 401) (by decide +kernel) (by decide +kernel), tbm (i := 52) (by decide +kernel) (by decide +kernel), tbm (i := 402) (by decide +kernel) (by decide +kernel)⟩
theorem kl_min_X3 : MMin RX3 29 := ⟨tbm (i := 537) (by decide +kernel) (by decide +kernel), tbm (i := 401) (by decide +kernel) (by decide +kernel), tbm (i := 52) (by decide +kernel) (by decide +kernel), tbm (i := 402) (by decide +kernel) (by decide +kernel)⟩
theorem kl_min_X0 : MMin RX0 25 := ⟨tbm (i := 588) (by decide +kernel) (by decide +kernel), tbm (i := 401) (by decide +kernel) (by decide +kernel), tbm (i := 52) (by decide +kernel) (by decide +kernel), tbm (i := 402) (by decide +kernel) (by decide +kernel)⟩
theorem rm_min {p : Program} {l : Launch} {e : Env} {R : Room} {s : State} {m : MethodId} {args : Array Value} {below : List Frame} {meth : Method} {c : Code} {cc : ByteArray} {nL : Nat} {own : String} {ret : Option FieldType} {D : va_G} {cy : Nat → ClassId} {ad : Ads} {A : Nat → Prop} {G : Heap → Prop} {nc ns : Nat} {Q : State → Prop} {pc index : Nat} {ls : List (Nat × Value)} {rest : List Value} {a b : Int32} (hc : CX p s m args meth c cc nL own ret D cy ad) (hd : decode cc pc = .ok (.invokestatic index, 3)) (hk : MMin own index) (h1 : 1 ≤ R.frames) (h2 : (rest.map fun v => v.category).sum + 13 ≤ R.locals) (h3 : nc ≤ R.cells ∧ ns ≤ R.slots) (kk : ∀ v : Int32, v = (if b < a then b else a) → RM p l e R s m args below meth c nL A G nc ns Q (pc + 3) ls (.int v :: rest)) : RM p l e R s m args below meth c nL A G nc ns Q pc ls (.int b :: .int a :: rest) :=
  fun H locs la hP hS hl => va_mmin hc.1.1 hc.1.2.1 (by rw [hl.1]; exact hc.1.2.2.1) hc.1.2.2.2.1 (hc.1.2.2.2.2 _ hk.1) (hc.1.2.2.2.2 _ hk.2.1) (hc.1.2.2.2.2 _ hk.2.2.1) (hc.1.2.2.2.2 _ hk.2.2.2) h1 h2 h3.1 h3.2 hd (kk _ rfl H locs la hP hS hl)
/-- the air's numbers move by one place -/
def shA (x : Mem) (k : Nat) : Mem := fun b n => if b = k ∧ 7 ≤ n ∧ n < 14 then x k (n - 1) else x b n
theorem so_sh {cy : Nat → ClassId} {ad : Ads} {x : Mem} {k : Nat} (h : k < 7) : SO cy ad x (shA x k) k 7 0 (.inl (cy 0, 8, .inl (va_cpy (fun i => if i < 8 then x k (6 + i) else 0) (fun i => if i < 8 then x k (6 + i) else 0) 0 1 7))) := by
  refine ⟨?_, fun k' c' j' hd hne => EE_congr hd fun b n ho => ?_⟩
  · show Sum.inl _ = Sum.inl _
    congr 4
    funext i
    unfold va_cpy shA
    by_cases h8 : i < 8
    · rw [if_pos h8]
      by_cases h0 : i = 0
      · subst h0; simp
      · rw [if_pos (by omega), if_pos (by omega)]
        show x k (6 + i - 1) = if 0 + (i - 1) < 8 then x k (6 + (0 + (i - 1))) else 0
        rw [if_pos (by omega)]
        congr 1
        omega
    · rw [if_neg h8, if_neg (by omega)]
      exact (if_neg h8).symm
  · unfold shA
    rw [if_neg]
    rintro ⟨rfl, h1, h2⟩
    apply hne
    rw [← ho, show n = 6 + (n - 6) by omega]
    exact ow_air (by omega) (by omega)
def MCopy (own : String) (index : Nat) : Prop := Cond.methodLink own index arraycopyName ∈ TB ∧ Cond.native arraycopyName ∈ TB ∧ Cond.static arraycopyName ∈ TB ∧ Cond.initialized "java/lang/System" ∈ TB
theorem kl_copy_X0 : MCopy RX0 15 := ⟨tbm (i := 530) (by decide +kernel) (by decide +kernel), tbm (i := 532) (by decide +kernel) (by decide +kernel), tbm (i := 531) (by decide +kernel) (by decide +kernel), tbm (i := 51) (by decide +kernel) (by decide +kernel)⟩
theorem rm_copy {p : Program} {l : Launch} {e : Env} {R : Room} {s : State} {m : MethodId} {args : Array Value} {below : List Frame} {meth : Method} {c : Code} {cc : ByteArray} {nL : Nat} {own : String} {ret : Option FieldType} {D : va_G} {cy : Nat → ClassId} {ad : Ads} {nc ns : Nat} {Q : State → Prop} {x y : Mem} {pc index : Nat} {ls : List (Nat × Value)} {rest : List Value} {k k2 sp dp cn : Nat} {f g : Nat → Int32} (hc : CX p s m args meth c cc nL own ret D cy ad) (hd : decode cc pc = .ok (.invokestatic index, 3)) (hk : MCopy own index) (h1 : 1 ≤ R.frames) (h2 : (rest.map fun v => v.category).sum + (nativeFrameWords "java/lang/System" "arraycopy" 5 + 11) ≤ R.locals) (hm : dm k 7 0) (hm2 : dm k2 7 0) (hE : EE cy ad x k 7 0 = .inl (cy 0, 8, .inl g)) (hE2 : EE cy ad x k2 7 0 = .inl (cy 0, 8, .inl f)) (b1 : sp + cn ≤ 8) (b2 : dp + cn ≤ 8) (hs : SO cy ad x y k 7 0 (.inl (cy 0, 8, .inl (va_cpy f g sp dp cn)))) (kk : RM p l e R s m args below meth c nL (AA ad s.heap.size) (GG D cy ad y) nc ns Q (pc + 3) ls rest) : RM p l e R s m args below meth c nL (AA ad s.heap.size) (GG D cy ad x) nc ns Q pc ls (.int (nI cn) :: .int (nI dp) :: .ref (ad k 7 0) :: .int (nI sp) :: .ref (ad k2 7 0) :: rest) := by
  intro H locs la hP hS hl
  obtain ⟨q0, hq, hix⟩ := wl_get (cy := cy) (ad := ad) x hm
  obtain ⟨q2, hq2, -⟩ := wl_get (cy := cy) (ad := ad) x hm2
  rw [hE] at hq
  rw [hE2] at hq2
  have cl : ∀ n, n ≤ 8 → (nI n).toNatClampNeg = n := fun n h => nI_clamp (by omega)
  refine va_copyi (A := AA ad s.heap.size) hc.1.1 hc.1.2.1 (by rw [hl.1]; exact hc.1.2.2.1) hc.1.2.2.2.1 (hc.1.2.2.2.2 _ hk.1) (hc.1.2.2.2.2 _ hk.2.1) (hc.1.2.2.2.2 _ hk.2.2.1) (hc.1.2.2.2.2 _ hk.2.2.2) hc.2.2.2.1 hP (wl_D hc.2.2.2.2.1 AA_in) hS q2 q0 0 0 hq2 hq rfl rfl rfl (nI_pos (by omega)) (nI_pos (by omega)) (nI_pos (by omega)) (by rw [cl _ (by omega), cl _ (by omega)]; exact b1) (by rw [cl _ (by omega), cl _ (by omega)]; exact b2) (fun _ _ => rfl) h1 h2 hd (fun H1 locs1 hP1 hD1 hS1 => ?_)
  rw [cl sp (by omega), cl dp (by omega), cl cn (by omega)] at hP1
  have e := wl_set (cy := cy) (ad := ad) (x := x) (y := y) hix hs.2
  rw [hs.1] at e
  rw [e] at hP1
  exact kk H1 locs1 la hP1 hS1 hl
end
section
/-! ===== what the methods compute, as functions of the memory ===== -/
def nx (c : Int32) : Int32 := if 9999 ≤ c then 0 else c + 1
def nu (s c : Int32) : Int32 := ((c * 40503 + s * 7919) ^^^ (s * 31 + c)) &&& 65535
/-- a stretch of a block copied -/
def cpS (x : Mem) (k o k2 o2 len : Nat) : Mem := fun b n => if b = k ∧ o ≤ n ∧ n < o + len then x k2 (o2 + (n - o)) else x b n
theorem cpS_in {x : Mem} {k o k2 o2 len n : Nat} (h1 : o ≤ n) (h2 : n < o + len) : cpS x k o k2 o2 len k n = x k2 (o2 + (n - o)) := by simp [cpS, h1, h2]
theorem cpS_b {x : Mem} {k o k2 o2 len b n : Nat} (h : b ≠ k) : cpS x k o k2 o2 len b n = x b n := by simp [cpS, h]
theorem cpS_app {x : Mem} {k o k2 o2 a c : Nat} (h : k2 ≠ k) : cpS (cpS x k o k2 o2 a) k (o + a) k2 (o2 + a) c = cpS x k o k2 o2 (a + c) := by
  funext b n
  by_cases hb : b = k
  · subst hb
    by_cases h1 : o + a ≤ n ∧ n < o + a + c
    · rw [cpS_in h1.1 h1.2, cpS_b h, cpS_in (by omega) (by omega)]
      congr 1; omega
    · simp only [cpS, true_and, if_neg h1]
      by_cases h2 : o ≤ n ∧ n < o + a
      · rw [if_pos h2, if_pos (by omega)]
      · rw [if_neg h2, if_neg (by omega)]
  · rw [cpS_b hb, cpS_b hb, cpS_b hb]
/-- one place copied -/
theorem cpS_1 {x : Mem} {k o k2 o2 : Nat} : up x k o (x k2 o2) = cpS x k o k2 o2 1 := by
  funext b n
  by_cases hb : b = k
  · subst hb
    by_cases hn : n = o
    · subst hn; simp [up, cpS]
    · simp only [up, cpS, true_and, if_neg hn]
      rw [if_neg (by omega)]
  · rw [cpS_b hb, up_b _ _ _ hb]
theorem cpS_up {x : Mem} {k o k2 o2 a : Nat} (h : k2 ≠ k) : up (cpS x k o k2 o2 a) k (o + a) (x k2 (o2 + a)) = cpS x k o k2 o2 (a + 1) := by
  rw [show x k2 (o2 + a) = cpS x k o k2 o2 a k2 (o2 + a) from (cpS_b h).symm, cpS_1, cpS_app h]
def sndF (x : Mem) (k j : Nat) : Mem := up (up (up x k (16 + 4 * j) (x k (16 + 4 * j) - 1)) k (17 + 4 * j) (x k (17 + 4 * j) + 1)) k (15 + 4 * j) (nx (x k (15 + 4 * j)))
def lookFob (x : Mem) (k j : Nat) (w : Int32) : Int32 := if w = 0 then x k (14 + 4 * j) else if w = 1 then x k (15 + 4 * j) else if w = 2 then x k (16 + 4 * j) else if w = 3 then nu (x k (14 + 4 * j)) (nx (x k (15 + 4 * j))) else if w = 4 then x k (17 + 4 * j) else -1
def isFlag (v : Int32) : Prop := v = 0 ∨ v = 1
def lrnS (x : Mem) (k d s kf j : Nat) : Mem := up (up (up (up x k (36 + 22 * d + 4 * s) 1) k (37 + 22 * d + 4 * s) (x kf (14 + 4 * j))) k (38 + 22 * d + 4 * s) (x kf (15 + 4 * j))) k (39 + 22 * d + 4 * s) (-1)
def empS (x : Mem) (k d s : Nat) : Mem := up (up (up (up x k (36 + 22 * d + 4 * s) 0) k (37 + 22 * d + 4 * s) (-1)) k (38 + 22 * d + 4 * s) (-1)) k (39 + 22 * d + 4 * s) (-1)
def lookSlot (x : Mem) (k d s : Nat) (w : Int32) : Int32 := if w = 0 then (if x k (36 + 22 * d + 4 * s) = 0 then 0 else 1) else if w = 1 then x k (37 + 22 * d + 4 * s) else if w = 2 then x k (38 + 22 * d + 4 * s) else if w = 3 then x k (39 + 22 * d + 4 * s) else -1
def lockS (lock row : Int32) : Int32 := if lock ≤ 0 then 0 else if row < lock then 0 else 1
end
section
theorem cpn_3 {x : Mem} {k k2 o o2 : Nat} (h : k2 ≠ k) : (up (up (up x k o (x k2 o2)) k (o + 1) ((up x k o (x k2 o2)) k2 (o2 + 1))) k (o + 2) ((up (up x k o (x k2 o2)) k (o + 1) ((up x k o (x k2 o2)) k2 (o2 + 1))) k2 (o2 + 2))) = cpS x k o k2 o2 3 := by
  simp only [up_b _ _ _ h]
  rw [cpS_1]
  rw [cpS_up h]
  rw [cpS_up h]

theorem cpn_4 {x : Mem} {k k2 o o2 : Nat} (h : k2 ≠ k) : (up (up (up (up x k o (x k2 o2)) k (o + 1) ((up x k o (x k2 o2)) k2 (o2 + 1))) k (o + 2) ((up (up x k o (x k2 o2)) k (o + 1) ((up x k o (x k2 o2)) k2 (o2 + 1))) k2 (o2 + 2))) k (o + 3) ((up (up (up x k o (x k2 o2)) k (o + 1) ((up x k o (x k2 o2)) k2 (o2 + 1))) k (o + 2) ((up (up x k o (x k2 o2)) k (o + 1) ((up x k o (x k2 o2)) k2 (o2 + 1))) k2 (o2 + 2))) k2 (o2 + 3))) = cpS x k o k2 o2 4 := by
  simp only [up_b _ _ _ h]
  rw [cpS_1]
  rw [cpS_up h]
  rw [cpS_up h]
  rw [cpS_up h]

abbrev rm_X8_counterBehind : Room := { frames := 0, cells := 0, slots := 0, locals := 0 }
set_option maxHeartbeats 4000000 in
set_option maxRecDepth 100000 in
theorem c_X8_counterBehind {l : Launch} {D : va_G} {cy : Nat → ClassId} {ad : Ads} (hI : IJ ad) (x : Mem) (a : Int32) : Cti l yX8_counterBehind cX8_counterBehind 1 (some .int) rm_X8_counterBehind D cy ad [.int a] x (fun r y => r = nx a ∧ y = x) := by
  refine rm_entry (Qc := Qi D cy ad (fun r y => r = nx a ∧ y = x)) hI (by decide) (Nat.le_of_ble_eq_true rfl) ?_
  intro p e s m args below meth c hc
  show RM _ _ _ _ _ _ _ _ _ _ _ _ _ _ _ _ _ [(0, .int a)] []
  refine rm_iload_n hc dX8_counterBehind_0 rfl rfl ?_
  refine rm_sipush (v := 9999) hc dX8_counterBehind_1 (by decide) ?_
  refine rm_icmp_ge (tgt := 13) hc dX8_counterBehind_4 (by decide) (fun c1 => ?_) (fun c1 => ?_)
  · --T
    refine rm_iconst (v := 0) hc dX8_counterBehind_13 (by decide) ?_
    exact rm_iret hc dX8_counterBehind_14 ⟨by subst_vars; simp [nx, *], rfl⟩
  · --F
    refine rm_iload_n hc dX8_counterBehind_7 rfl rfl ?_
    refine rm_iconst (v := 1) hc dX8_counterBehind_8 (by decide) ?_
    refine rm_iadd hc dX8_counterBehind_9 (fun v2 e2 => ?_)
    refine rm_goto (tgt := 14) hc dX8_counterBehind_10 (by decide) ?_
    exact rm_iret hc dX8_counterBehind_14 ⟨by subst_vars; simp [nx, *], rfl⟩

abbrev rm_X8_numberOf : Room := { frames := 0, cells := 0, slots := 0, locals := 0 }
set_option maxHeartbeats 4000000 in
set_option maxRecDepth 100000 in
theorem c_X8_numberOf {l : Launch} {D : va_G} {cy : Nat → ClassId} {ad : Ads} (hI : IJ ad) (x : Mem) (a b : Int32) : Cti l yX8_numberOf cX8_numberOf 2 (some .int) rm_X8_numberOf D cy ad [.int a, .int b] x (fun r y => r = nu a b ∧ y = x) := by
  refine rm_entry (Qc := Qi D cy ad (fun r y => r = nu a b ∧ y = x)) hI (by decide) (Nat.le_of_ble_eq_true rfl) ?_
  intro p e s m args below meth c hc
  show RM _ _ _ _ _ _ _ _ _ _ _ _ _ _ _ _ _ [(0, .int a), (1, .int b)] []
  refine rm_iload_n hc dX8_numberOf_0 rfl rfl ?_
  refine rm_ldc hc dX8_numberOf_1 kc_X8_230 ?_
  refine rm_imul hc dX8_numberOf_3 (fun v1 e1 => ?_)
  refine rm_iload_n hc dX8_numberOf_4 rfl rfl ?_
  refine rm_sipush (v := 7919) hc dX8_numberOf_5 (by decide) ?_
  refine rm_imul hc dX8_numberOf_8 (fun v2 e2 => ?_)
  refine rm_iadd hc dX8_numberOf_9 (fun v3 e3 => ?_)
  refine rm_iload_n hc dX8_numberOf_10 rfl rfl ?_
  refine rm_bipush (v := 31) hc dX8_numberOf_11 (by decide) ?_
  refine rm_imul hc dX8_numberOf_13 (fun v4 e4 => ?_)
  refine rm_iload_n hc dX8_numberOf_14 rfl rfl ?_
  refine rm_iadd hc dX8_numberOf_15 (fun v5 e5 => ?_)
  refine rm_ixor hc dX8_numberOf_16 (fun v6 e6 => ?_)
  refine rm_ldc hc dX8_numberOf_17 kc_X8_178 ?_
  refine rm_iand hc dX8_numberOf_19 (fun v7 e7 => ?_)
  exact rm_iret hc dX8_numberOf_20 ⟨by subst_vars; rfl, rfl⟩

abbrev rm_X8_mixed : Room := { frames := 0, cells := 0, slots := 0, locals := 0 }
set_option maxHeartbeats 4000000 in
set_option maxRecDepth 100000 in
theorem c_X8_mixed {l : Launch} {D : va_G} {cy : Nat → ClassId} {ad : Ads} (hI : IJ ad) (x : Mem) (a b : Int64) : Ctl l yX8_mixed cX8_mixed 4 (some .long) rm_X8_mixed D cy ad [.long a, .long b] x (fun r y => r = 31 * a + b ∧ y = x) := by
  refine rm_entry (Qc := Ql D cy ad (fun r y => r = 31 * a + b ∧ y = x)) hI (by decide) (Nat.le_of_ble_eq_true rfl) ?_
  intro p e s m args below meth c hc
  show RM _ _ _ _ _ _ _ _ _ _ _ _ _ _ _ _ _ [(0, .long a), (2, .long b)] []
  refine rm_ldc2 hc dX8_mixed_0 kc_X8_276 ?_
  refine rm_lload_n hc dX8_mixed_3 rfl rfl ?_
  refine rm_lmul hc dX8_mixed_4 (fun v1 e1 => ?_)
  refine rm_lload_n hc dX8_mixed_5 rfl rfl ?_
  refine rm_ladd hc dX8_mixed_6 (fun v2 e2 => ?_)
  exact rm_lret hc dX8_mixed_7 ⟨by subst_vars; rfl, rfl⟩

abbrev rm_X2_sendNext : Room := { frames := 1, cells := 0, slots := 0, locals := 21 }
set_option maxHeartbeats 4000000 in
set_option maxRecDepth 100000 in
theorem c_X2_sendNext {l : Launch} {D : va_G} {cy : Nat → ClassId} {ad : Ads} (hI : IJ ad) (x : Mem) {k j : Nat} (hk : k < 7) (hj : j < 4) : Cti l yX2_sendNext cX2_sendNext 1 (some .int) rm_X2_sendNext D cy ad [.ref (ad k 2 j)] x (fun r y => r = nu (x k (14 + 4 * j)) (nx (x k (15 + 4 * j))) ∧ y = sndF x k j) := by
  refine rm_entry (Qc := Qi D cy ad (fun r y => r = nu (x k (14 + 4 * j)) (nx (x k (15 + 4 * j))) ∧ y = sndF x k j)) hI (by decide) (Nat.le_of_ble_eq_true rfl) ?_
  intro p e s m args below meth c hc
  show RM _ _ _ _ _ _ _ _ _ _ _ _ _ _ _ _ _ [(0, .ref (ad k 2 j))] []
  refine rm_aload_n hc dX2_sendNext_0 rfl rfl ?_
  refine rm_dup hc dX2_sendNext_1 rfl ?_
  refine rm_geti hc dX2_sendNext_2 fl_X2_15 (dm_2 (by omega) (by omega)) rfl rfl (fun v1 e1 => ?_)
  refine rm_iconst (v := 1) hc dX2_sendNext_5 (by decide) ?_
  refine rm_isub hc dX2_sendNext_6 (fun v2 e2 => ?_)
  refine rm_put hc dX2_sendNext_7 fl_X2_15 (dm_2 (by omega) (by omega)) rfl (Nat.le_of_ble_eq_true rfl) ft_2_2 rfl rfl (so_2_2 (by omega) (by omega)) (rm_nm (fun x3 ex3 => ?_))
  refine rm_aload_n hc dX2_sendNext_10 rfl rfl ?_
  refine rm_dup hc dX2_sendNext_11 rfl ?_
  refine rm_geti hc dX2_sendNext_12 fl_X2_21 (dm_2 (by omega) (by omega)) rfl rfl (fun v4 e4 => ?_)
  refine rm_iconst (v := 1) hc dX2_sendNext_15 (by decide) ?_
  refine rm_iadd hc dX2_sendNext_16 (fun v5 e5 => ?_)
  refine rm_put hc dX2_sendNext_17 fl_X2_21 (dm_2 (by omega) (by omega)) rfl (Nat.le_of_ble_eq_true rfl) ft_2_3 rfl rfl (so_2_3 (by omega) (by omega)) (rm_nm (fun x6 ex6 => ?_))
  refine rm_aload_n hc dX2_sendNext_20 rfl rfl ?_
  refine rm_aload_n hc dX2_sendNext_21 rfl rfl ?_
  refine rm_geti hc dX2_sendNext_22 fl_X2_18 (dm_2 (by omega) (by omega)) rfl rfl (fun v7 e7 => ?_)
  refine rm_calliN (As := [.int v7]) (rest := [.ref (ad k 2 j)]) hc dX2_sendNext_25 (c_X8_counterBehind hI x6 v7) mn_X2_24 (hn := rfl) (hst := rfl) (hw := Nat.le_of_ble_eq_true rfl) (hR := ⟨⟨rfl, rfl⟩, Nat.le_of_ble_eq_true rfl, Nat.le_of_ble_eq_true rfl⟩) (hnc := ⟨Nat.zero_le _, Nat.zero_le _⟩) (fun r8 y8 h8 => ?_)
  obtain ⟨e8, ey8⟩ := h8
  obtain rfl := ey8.symm
  refine rm_put hc dX2_sendNext_28 fl_X2_18 (dm_2 (by omega) (by omega)) rfl (Nat.le_of_ble_eq_true rfl) ft_2_1 rfl rfl (so_2_1 (by omega) (by omega)) (rm_nm (fun x9 ex9 => ?_))
  refine rm_aload_n hc dX2_sendNext_31 rfl rfl ?_
  refine rm_geti hc dX2_sendNext_32 fl_X2_9 (dm_2 (by omega) (by omega)) rfl rfl (fun v10 e10 => ?_)
  refine rm_aload_n hc dX2_sendNext_35 rfl rfl ?_
  refine rm_geti hc dX2_sendNext_36 fl_X2_18 (dm_2 (by omega) (by omega)) rfl rfl (fun v11 e11 => ?_)
  refine rm_calliN (As := [.int v10, .int v11]) (rest := []) hc dX2_sendNext_39 (c_X8_numberOf hI x9 v10 v11) mn_X2_28 (hn := rfl) (hst := rfl) (hw := Nat.le_of_ble_eq_true rfl) (hR := ⟨⟨rfl, rfl⟩, Nat.le_of_ble_eq_true rfl, Nat.le_of_ble_eq_true rfl⟩) (hnc := ⟨Nat.zero_le _, Nat.zero_le _⟩) (fun r12 y12 h12 => ?_)
  obtain ⟨e12, ey12⟩ := h12
  obtain rfl := ey12.symm
  exact rm_iret hc dX2_sendNext_42 ⟨by subst_vars; simp [up], by subst_vars; simp [sndF, up]⟩

abbrev rm_X2_look : Room := { frames := 1, cells := 0, slots := 0, locals := 21 }
set_option maxHeartbeats 4000000 in
set_option maxRecDepth 100000 in
theorem c_X2_look {l : Launch} {D : va_G} {cy : Nat → ClassId} {ad : Ads} (hI : IJ ad) (x : Mem) {k j : Nat} (hk : k < 7) (hj : j < 4) (w : Int32) : Cti l yX2_look cX2_look 2 (some .int) rm_X2_look D cy ad [.ref (ad k 2 j), .int w] x (fun r y => r = lookFob x k j w ∧ y = x) := by
  refine rm_entry (Qc := Qi D cy ad (fun r y => r = lookFob x k j w ∧ y = x)) hI (by decide) (Nat.le_of_ble_eq_true rfl) ?_
  intro p e s m args below meth c hc
  show RM _ _ _ _ _ _ _ _ _ _ _ _ _ _ _ _ _ [(0, .ref (ad k 2 j)), (1, .int w)] []
  refine rm_iload_n hc dX2_look_0 rfl rfl ?_
  by_cases z1 : w = 0
  · --case 0
    subst z1
    refine rm_tin (off := 35) (tgt := 36) hc dX2_look_1 (by decide) (by decide) (by decide) (by decide) ?_
    refine rm_aload_n hc dX2_look_36 rfl rfl ?_
    refine rm_geti hc dX2_look_37 fl_X2_9 (dm_2 (by omega) (by omega)) rfl rfl (fun v2 e2 => ?_)
    exact rm_iret hc dX2_look_40 ⟨by subst_vars; simp [lookFob, *], rfl⟩
  by_cases z3 : w = 1
  · --case 1
    subst z3
    refine rm_tin (off := 40) (tgt := 41) hc dX2_look_1 (by decide) (by decide) (by decide) (by decide) ?_
    refine rm_aload_n hc dX2_look_41 rfl rfl ?_
    refine rm_geti hc dX2_look_42 fl_X2_18 (dm_2 (by omega) (by omega)) rfl rfl (fun v4 e4 => ?_)
    exact rm_iret hc dX2_look_45 ⟨by subst_vars; simp [lookFob, *], rfl⟩
  by_cases z5 : w = 2
  · --case 2
    subst z5
    refine rm_tin (off := 45) (tgt := 46) hc dX2_look_1 (by decide) (by decide) (by decide) (by decide) ?_
    refine rm_aload_n hc dX2_look_46 rfl rfl ?_
    refine rm_geti hc dX2_look_47 fl_X2_15 (dm_2 (by omega) (by omega)) rfl rfl (fun v6 e6 => ?_)
    exact rm_iret hc dX2_look_50 ⟨by subst_vars; simp [lookFob, *], rfl⟩
  by_cases z7 : w = 3
  · --case 3
    subst z7
    refine rm_tin (off := 50) (tgt := 51) hc dX2_look_1 (by decide) (by decide) (by decide) (by decide) ?_
    refine rm_aload_n hc dX2_look_51 rfl rfl ?_
    refine rm_geti hc dX2_look_52 fl_X2_9 (dm_2 (by omega) (by omega)) rfl rfl (fun v8 e8 => ?_)
    refine rm_aload_n hc dX2_look_55 rfl rfl ?_
    refine rm_geti hc dX2_look_56 fl_X2_18 (dm_2 (by omega) (by omega)) rfl rfl (fun v9 e9 => ?_)
    refine rm_calliN (As := [.int v9]) (rest := [.int v8]) hc dX2_look_59 (c_X8_counterBehind hI x v9) mn_X2_24 (hn := rfl) (hst := rfl) (hw := Nat.le_of_ble_eq_true rfl) (hR := ⟨⟨rfl, rfl⟩, Nat.le_of_ble_eq_true rfl, Nat.le_of_ble_eq_true rfl⟩) (hnc := ⟨Nat.zero_le _, Nat.zero_le _⟩) (fun r10 y10 h10 => ?_)
    obtain ⟨e10, ey10⟩ := h10
    obtain rfl := ey10.symm
    refine rm_calliN (As := [.int v8, .int r10]) (rest := []) hc dX2_look_62 (c_X8_numberOf hI x v8 r10) mn_X2_28 (hn := rfl) (hst := rfl) (hw := Nat.le_of_ble_eq_true rfl) (hR := ⟨⟨rfl, rfl⟩, Nat.le_of_ble_eq_true rfl, Nat.le_of_ble_eq_true rfl⟩) (hnc := ⟨Nat.zero_le _, Nat.zero_le _⟩) (fun r11 y11 h11 => ?_)
    obtain ⟨e11, ey11⟩ := h11
    obtain rfl := ey11.symm
    exact rm_iret hc dX2_look_65 ⟨by subst_vars; simp [lookFob, *], rfl⟩
  by_cases z12 : w = 4
  · --case 4
    subst z12
    refine rm_tin (off := 65) (tgt := 66) hc dX2_look_1 (by decide) (by decide) (by decide) (by decide) ?_
    refine rm_aload_n hc dX2_look_66 rfl rfl ?_
    refine rm_geti hc dX2_look_67 fl_X2_21 (dm_2 (by omega) (by omega)) rfl rfl (fun v13 e13 => ?_)
    exact rm_iret hc dX2_look_70 ⟨by subst_vars; simp [lookFob, *], rfl⟩
  refine rm_tout (tgt := 71) hc dX2_look_1 (by have z0 := lv_neT (k := 0) (a := 0) z1 (by decide); have z1 := lv_neT (k := 1) (a := 1) z3 (by decide); have z2 := lv_neT (k := 2) (a := 2) z5 (by decide); have z3 := lv_neT (k := 3) (a := 3) z7 (by decide); have z4 := lv_neT (k := 4) (a := 4) z12 (by decide); omega) (by decide) ?_
  refine rm_iconst (v := -1) hc dX2_look_71 (by decide) ?_
  exact rm_iret hc dX2_look_72 ⟨by subst_vars; simp [lookFob, *], rfl⟩

abbrev rm_X2_copyFrom : Room := { frames := 0, cells := 0, slots := 0, locals := 0 }
set_option maxHeartbeats 4000000 in
set_option maxRecDepth 100000 in
theorem c_X2_copyFrom {l : Launch} {D : va_G} {cy : Nat → ClassId} {ad : Ads} (hI : IJ ad) (x : Mem) {k j k2 : Nat} (hk : k < 7) (hj : j < 4) (hk2 : k2 < 7) (hkk : k2 ≠ k) : Ctv l yX2_copyFrom cX2_copyFrom 2 none rm_X2_copyFrom D cy ad [.ref (ad k 2 j), .ref (ad k2 2 j)] x (fun y => y = cpS x k (14 + 4 * j) k2 (14 + 4 * j) 4) := by
  refine rm_entry (Qc := Qv D cy ad (fun y => y = cpS x k (14 + 4 * j) k2 (14 + 4 * j) 4)) hI (by decide) (Nat.le_of_ble_eq_true rfl) ?_
  intro p e s m args below meth c hc
  show RM _ _ _ _ _ _ _ _ _ _ _ _ _ _ _ _ _ [(0, .ref (ad k 2 j)), (1, .ref (ad k2 2 j))] []
  refine rm_aload_n hc dX2_copyFrom_0 rfl rfl ?_
  refine rm_aload_n hc dX2_copyFrom_1 rfl rfl ?_
  refine rm_geti hc dX2_copyFrom_2 fl_X2_9 (dm_2 (by omega) (by omega)) rfl rfl (fun v1 e1 => ?_)
  refine rm_put hc dX2_copyFrom_5 fl_X2_9 (dm_2 (by omega) (by omega)) rfl (Nat.le_of_ble_eq_true rfl) ft_2_0 rfl rfl (so_2_0 (by omega) (by omega)) (rm_nm (fun x2 ex2 => ?_))
  refine rm_aload_n hc dX2_copyFrom_8 rfl rfl ?_
  refine rm_aload_n hc dX2_copyFrom_9 rfl rfl ?_
  refine rm_geti hc dX2_copyFrom_10 fl_X2_18 (dm_2 (by omega) (by omega)) rfl rfl (fun v3 e3 => ?_)
  refine rm_put hc dX2_copyFrom_13 fl_X2_18 (dm_2 (by omega) (by omega)) rfl (Nat.le_of_ble_eq_true rfl) ft_2_1 rfl rfl (so_2_1 (by omega) (by omega)) (rm_nm (fun x4 ex4 => ?_))
  refine rm_aload_n hc dX2_copyFrom_16 rfl rfl ?_
  refine rm_aload_n hc dX2_copyFrom_17 rfl rfl ?_
  refine rm_geti hc dX2_copyFrom_18 fl_X2_15 (dm_2 (by omega) (by omega)) rfl rfl (fun v5 e5 => ?_)
  refine rm_put hc dX2_copyFrom_21 fl_X2_15 (dm_2 (by omega) (by omega)) rfl (Nat.le_of_ble_eq_true rfl) ft_2_2 rfl rfl (so_2_2 (by omega) (by omega)) (rm_nm (fun x6 ex6 => ?_))
  refine rm_aload_n hc dX2_copyFrom_24 rfl rfl ?_
  refine rm_aload_n hc dX2_copyFrom_25 rfl rfl ?_
  refine rm_geti hc dX2_copyFrom_26 fl_X2_21 (dm_2 (by omega) (by omega)) rfl rfl (fun v7 e7 => ?_)
  refine rm_put hc dX2_copyFrom_29 fl_X2_21 (dm_2 (by omega) (by omega)) rfl (Nat.le_of_ble_eq_true rfl) ft_2_3 rfl rfl (so_2_3 (by omega) (by omega)) (rm_nm (fun x8 ex8 => ?_))
  exact rm_vret hc dX2_copyFrom_32 (by subst_vars; rw [show 15 + 4 * j = 14 + 4 * j + 1 by omega, show 16 + 4 * j = 14 + 4 * j + 2 by omega, show 17 + 4 * j = 14 + 4 * j + 3 by omega]; exact cpn_4 hkk)

abbrev rm_X5_copyFrom : Room := { frames := 0, cells := 0, slots := 0, locals := 0 }
set_option maxHeartbeats 4000000 in
set_option maxRecDepth 100000 in
theorem c_X5_copyFrom {l : Launch} {D : va_G} {cy : Nat → ClassId} {ad : Ads} (hI : IJ ad) (x : Mem) {k d s0 k2 d2 : Nat} (hk : k < 8) (hd3 : d < 3) (hs : s0 < 4) (hkd : k = 7 → d = 0) (hk2 : k2 < 8) (hd2 : d2 < 3) (hkd2 : k2 = 7 → d2 = 0) (hkk : k2 ≠ k) (hfl : isFlag (x k2 (36 + 22 * d2 + 4 * s0))) : Ctv l yX5_copyFrom cX5_copyFrom 2 none rm_X5_copyFrom D cy ad [.ref (ad k (d + 20) s0), .ref (ad k2 (d2 + 20) s0)] x (fun y => y = cpS x k (36 + 22 * d + 4 * s0) k2 (36 + 22 * d2 + 4 * s0) 4) := by
  refine rm_entry (Qc := Qv D cy ad (fun y => y = cpS x k (36 + 22 * d + 4 * s0) k2 (36 + 22 * d2 + 4 * s0) 4)) hI (by decide) (Nat.le_of_ble_eq_true rfl) ?_
  intro p e s m args below meth c hc
  show RM _ _ _ _ _ _ _ _ _ _ _ _ _ _ _ _ _ [(0, .ref (ad k (d + 20) s0)), (1, .ref (ad k2 (d2 + 20) s0))] []
  refine rm_aload_n hc dX5_copyFrom_0 rfl rfl ?_
  refine rm_aload_n hc dX5_copyFrom_1 rfl rfl ?_
  refine rm_geti hc dX5_copyFrom_2 fl_X5_21 (dm_s (d := d2) (by omega) (by omega) (by omega) (by omega)) rfl rfl (fun v1 e1 => ?_)
  refine rm_put hc dX5_copyFrom_5 fl_X5_21 (dm_s (d := d) (by omega) (by omega) (by omega) (by omega)) rfl (Nat.le_of_ble_eq_true rfl) ft_5_0 (nrb (by rw [e1]; exact hfl)) (ftb (by rw [e1]; exact hfl)) (so_s_0 (d := d) (by omega) (by omega) (by omega)) (rm_nm (fun x2 ex2 => ?_))
  refine rm_aload_n hc dX5_copyFrom_8 rfl rfl ?_
  refine rm_aload_n hc dX5_copyFrom_9 rfl rfl ?_
  refine rm_geti hc dX5_copyFrom_10 fl_X5_9 (dm_s (d := d2) (by omega) (by omega) (by omega) (by omega)) rfl rfl (fun v3 e3 => ?_)
  refine rm_put hc dX5_copyFrom_13 fl_X5_9 (dm_s (d := d) (by omega) (by omega) (by omega) (by omega)) rfl (Nat.le_of_ble_eq_true rfl) ft_5_1 rfl rfl (so_s_1 (d := d) (by omega) (by omega) (by omega)) (rm_nm (fun x4 ex4 => ?_))
  refine rm_aload_n hc dX5_copyFrom_16 rfl rfl ?_
  refine rm_aload_n hc dX5_copyFrom_17 rfl rfl ?_
  refine rm_geti hc dX5_copyFrom_18 fl_X5_15 (dm_s (d := d2) (by omega) (by omega) (by omega) (by omega)) rfl rfl (fun v5 e5 => ?_)
  refine rm_put hc dX5_copyFrom_21 fl_X5_15 (dm_s (d := d) (by omega) (by omega) (by omega) (by omega)) rfl (Nat.le_of_ble_eq_true rfl) ft_5_2 rfl rfl (so_s_2 (d := d) (by omega) (by omega) (by omega)) (rm_nm (fun x6 ex6 => ?_))
  refine rm_aload_n hc dX5_copyFrom_24 rfl rfl ?_
  refine rm_aload_n hc dX5_copyFrom_25 rfl rfl ?_
  refine rm_geti hc dX5_copyFrom_26 fl_X5_18 (dm_s (d := d2) (by omega) (by omega) (by omega) (by omega)) rfl rfl (fun v7 e7 => ?_)
  refine rm_put hc dX5_copyFrom_29 fl_X5_18 (dm_s (d := d) (by omega) (by omega) (by omega) (by omega)) rfl (Nat.le_of_ble_eq_true rfl) ft_5_3 rfl rfl (so_s_3 (d := d) (by omega) (by omega) (by omega)) (rm_nm (fun x8 ex8 => ?_))
  exact rm_vret hc dX5_copyFrom_32 (by subst_vars; rw [show 37 + 22 * d + 4 * s0 = 36 + 22 * d + 4 * s0 + 1 by omega, show 38 + 22 * d + 4 * s0 = 36 + 22 * d + 4 * s0 + 2 by omega, show 39 + 22 * d + 4 * s0 = 36 + 22 * d + 4 * s0 + 3 by omega, show 37 + 22 * d2 + 4 * s0 = 36 + 22 * d2 + 4 * s0 + 1 by omega, show 38 + 22 * d2 + 4 * s0 = 36 + 22 * d2 + 4 * s0 + 2 by omega, show 39 + 22 * d2 + 4 * s0 = 36 + 22 * d2 + 4 * s0 + 3 by omega]; exact cpn_4 hkk)

abbrev rm_X5_learnFrom : Room := { frames := 0, cells := 0, slots := 0, locals := 0 }
set_option maxHeartbeats 4000000 in
set_option maxRecDepth 100000 in
theorem c_X5_learnFrom {l : Launch} {D : va_G} {cy : Nat → ClassId} {ad : Ads} (hI : IJ ad) (x : Mem) {k d s0 : Nat} (hk : k < 8) (hd3 : d < 3) (hs : s0 < 4) (hkd : k = 7 → d = 0) {kf j : Nat} (hkf : kf < 7) (hj : j < 4) (hkk : kf = k) : Ctv l yX5_learnFrom cX5_learnFrom 2 none rm_X5_learnFrom D cy ad [.ref (ad k (d + 20) s0), .ref (ad kf 2 j)] x (fun y => y = lrnS x k d s0 kf j) := by
  refine rm_entry (Qc := Qv D cy ad (fun y => y = lrnS x k d s0 kf j)) hI (by decide) (Nat.le_of_ble_eq_true rfl) ?_
  intro p e s m args below meth c hc
  show RM _ _ _ _ _ _ _ _ _ _ _ _ _ _ _ _ _ [(0, .ref (ad k (d + 20) s0)), (1, .ref (ad kf 2 j))] []
  refine rm_aload_n hc dX5_learnFrom_0 rfl rfl ?_
  refine rm_iconst (v := 1) hc dX5_learnFrom_1 (by decide) ?_
  refine rm_put hc dX5_learnFrom_2 fl_X5_21 (dm_s (d := d) (by omega) (by omega) (by omega) (by omega)) rfl (Nat.le_of_ble_eq_true rfl) ft_5_0 rfl rfl (so_s_0 (d := d) (by omega) (by omega) (by omega)) (rm_nm (fun x1 ex1 => ?_))
  refine rm_aload_n hc dX5_learnFrom_5 rfl rfl ?_
  refine rm_aload_n hc dX5_learnFrom_6 rfl rfl ?_
  refine rm_geti hc dX5_learnFrom_7 fl_X5_25 (dm_2 (by omega) (by omega)) rfl rfl (fun v2 e2 => ?_)
  refine rm_put hc dX5_learnFrom_10 fl_X5_9 (dm_s (d := d) (by omega) (by omega) (by omega) (by omega)) rfl (Nat.le_of_ble_eq_true rfl) ft_5_1 rfl rfl (so_s_1 (d := d) (by omega) (by omega) (by omega)) (rm_nm (fun x3 ex3 => ?_))
  refine rm_aload_n hc dX5_learnFrom_13 rfl rfl ?_
  refine rm_aload_n hc dX5_learnFrom_14 rfl rfl ?_
  refine rm_geti hc dX5_learnFrom_15 fl_X5_28 (dm_2 (by omega) (by omega)) rfl rfl (fun v4 e4 => ?_)
  refine rm_put hc dX5_learnFrom_18 fl_X5_15 (dm_s (d := d) (by omega) (by omega) (by omega) (by omega)) rfl (Nat.le_of_ble_eq_true rfl) ft_5_2 rfl rfl (so_s_2 (d := d) (by omega) (by omega) (by omega)) (rm_nm (fun x5 ex5 => ?_))
  refine rm_aload_n hc dX5_learnFrom_21 rfl rfl ?_
  refine rm_iconst (v := -1) hc dX5_learnFrom_22 (by decide) ?_
  refine rm_put hc dX5_learnFrom_23 fl_X5_18 (dm_s (d := d) (by omega) (by omega) (by omega) (by omega)) rfl (Nat.le_of_ble_eq_true rfl) ft_5_3 rfl rfl (so_s_3 (d := d) (by omega) (by omega) (by omega)) (rm_nm (fun x6 ex6 => ?_))
  exact rm_vret hc dX5_learnFrom_26 (by subst_vars; simp [lrnS, up, show ¬ (14 + 4 * j = 36 + 22 * d + 4 * s0) by omega, show ¬ (15 + 4 * j = 36 + 22 * d + 4 * s0) by omega, show ¬ (15 + 4 * j = 37 + 22 * d + 4 * s0) by omega])

abbrev rm_X5_empty : Room := { frames := 0, cells := 0, slots := 0, locals := 0 }
set_option maxHeartbeats 4000000 in
set_option maxRecDepth 100000 in
theorem c_X5_empty {l : Launch} {D : va_G} {cy : Nat → ClassId} {ad : Ads} (hI : IJ ad) (x : Mem) {k d s0 : Nat} (hk : k < 8) (hd3 : d < 3) (hs : s0 < 4) (hkd : k = 7 → d = 0) : Ctv l yX5_empty cX5_empty 1 none rm_X5_empty D cy ad [.ref (ad k (d + 20) s0)] x (fun y => y = empS x k d s0) := by
  refine rm_entry (Qc := Qv D cy ad (fun y => y = empS x k d s0)) hI (by decide) (Nat.le_of_ble_eq_true rfl) ?_
  intro p e s m args below meth c hc
  show RM _ _ _ _ _ _ _ _ _ _ _ _ _ _ _ _ _ [(0, .ref (ad k (d + 20) s0))] []
  refine rm_aload_n hc dX5_empty_0 rfl rfl ?_
  refine rm_iconst (v := 0) hc dX5_empty_1 (by decide) ?_
  refine rm_put hc dX5_empty_2 fl_X5_21 (dm_s (d := d) (by omega) (by omega) (by omega) (by omega)) rfl (Nat.le_of_ble_eq_true rfl) ft_5_0 rfl rfl (so_s_0 (d := d) (by omega) (by omega) (by omega)) (rm_nm (fun x1 ex1 => ?_))
  refine rm_aload_n hc dX5_empty_5 rfl rfl ?_
  refine rm_iconst (v := -1) hc dX5_empty_6 (by decide) ?_
  refine rm_put hc dX5_empty_7 fl_X5_9 (dm_s (d := d) (by omega) (by omega) (by omega) (by omega)) rfl (Nat.le_of_ble_eq_true rfl) ft_5_1 rfl rfl (so_s_1 (d := d) (by omega) (by omega) (by omega)) (rm_nm (fun x2 ex2 => ?_))
  refine rm_aload_n hc dX5_empty_10 rfl rfl ?_
  refine rm_iconst (v := -1) hc dX5_empty_11 (by decide) ?_
  refine rm_put hc dX5_empty_12 fl_X5_15 (dm_s (d := d) (by omega) (by omega) (by omega) (by omega)) rfl (Nat.le_of_ble_eq_true rfl) ft_5_2 rfl rfl (so_s_2 (d := d) (by omega) (by omega) (by omega)) (rm_nm (fun x3 ex3 => ?_))
  refine rm_aload_n hc dX5_empty_15 rfl rfl ?_
  refine rm_iconst (v := -1) hc dX5_empty_16 (by decide) ?_
  refine rm_put hc dX5_empty_17 fl_X5_18 (dm_s (d := d) (by omega) (by omega) (by omega) (by omega)) rfl (Nat.le_of_ble_eq_true rfl) ft_5_3 rfl rfl (so_s_3 (d := d) (by omega) (by omega) (by omega)) (rm_nm (fun x4 ex4 => ?_))
  exact rm_vret hc dX5_empty_20 (by subst_vars; rfl)

abbrev rm_X5_look : Room := { frames := 0, cells := 0, slots := 0, locals := 0 }
set_option maxHeartbeats 4000000 in
set_option maxRecDepth 100000 in
theorem c_X5_look {l : Launch} {D : va_G} {cy : Nat → ClassId} {ad : Ads} (hI : IJ ad) (x : Mem) {k d s0 : Nat} (hk : k < 8) (hd3 : d < 3) (hs : s0 < 4) (hkd : k = 7 → d = 0) (w : Int32) : Cti l yX5_look cX5_look 2 (some .int) rm_X5_look D cy ad [.ref (ad k (d + 20) s0), .int w] x (fun r y => r = lookSlot x k d s0 w ∧ y = x) := by
  refine rm_entry (Qc := Qi D cy ad (fun r y => r = lookSlot x k d s0 w ∧ y = x)) hI (by decide) (Nat.le_of_ble_eq_true rfl) ?_
  intro p e s m args below meth c hc
  show RM _ _ _ _ _ _ _ _ _ _ _ _ _ _ _ _ _ [(0, .ref (ad k (d + 20) s0)), (1, .int w)] []
  refine rm_iload_n hc dX5_look_0 rfl rfl ?_
  by_cases z1 : w = 0
  · --case 0
    subst z1
    refine rm_tin (off := 31) (tgt := 32) hc dX5_look_1 (by decide) (by decide) (by decide) (by decide) ?_
    refine rm_aload_n hc dX5_look_32 rfl rfl ?_
    refine rm_geti hc dX5_look_33 fl_X5_21 (dm_s (d := d) (by omega) (by omega) (by omega) (by omega)) rfl rfl (fun v2 e2 => ?_)
    refine rm_if_eq (tgt := 43) hc dX5_look_36 (by decide) (fun c3 => ?_) (fun c3 => ?_)
    · --T
      refine rm_iconst (v := 0) hc dX5_look_43 (by decide) ?_
      exact rm_iret hc dX5_look_44 ⟨by subst_vars; simp [lookSlot, *], rfl⟩
    · --F
      refine rm_iconst (v := 1) hc dX5_look_39 (by decide) ?_
      refine rm_goto (tgt := 44) hc dX5_look_40 (by decide) ?_
      exact rm_iret hc dX5_look_44 ⟨by subst_vars; simp [lookSlot, *], rfl⟩
  by_cases z4 : w = 1
  · --case 1
    subst z4
    refine rm_tin (off := 44) (tgt := 45) hc dX5_look_1 (by decide) (by decide) (by decide) (by decide) ?_
    refine rm_aload_n hc dX5_look_45 rfl rfl ?_
    refine rm_geti hc dX5_look_46 fl_X5_9 (dm_s (d := d) (by omega) (by omega) (by omega) (by omega)) rfl rfl (fun v5 e5 => ?_)
    exact rm_iret hc dX5_look_49 ⟨by subst_vars; simp [lookSlot, *], rfl⟩
  by_cases z6 : w = 2
  · --case 2
    subst z6
    refine rm_tin (off := 49) (tgt := 50) hc dX5_look_1 (by decide) (by decide) (by decide) (by decide) ?_
    refine rm_aload_n hc dX5_look_50 rfl rfl ?_
    refine rm_geti hc dX5_look_51 fl_X5_15 (dm_s (d := d) (by omega) (by omega) (by omega) (by omega)) rfl rfl (fun v7 e7 => ?_)
    exact rm_iret hc dX5_look_54 ⟨by subst_vars; simp [lookSlot, *], rfl⟩
  by_cases z8 : w = 3
  · --case 3
    subst z8
    refine rm_tin (off := 54) (tgt := 55) hc dX5_look_1 (by decide) (by decide) (by decide) (by decide) ?_
    refine rm_aload_n hc dX5_look_55 rfl rfl ?_
    refine rm_geti hc dX5_look_56 fl_X5_18 (dm_s (d := d) (by omega) (by omega) (by omega) (by omega)) rfl rfl (fun v9 e9 => ?_)
    exact rm_iret hc dX5_look_59 ⟨by subst_vars; simp [lookSlot, *], rfl⟩
  refine rm_tout (tgt := 60) hc dX5_look_1 (by have z0 := lv_neT (k := 0) (a := 0) z1 (by decide); have z1 := lv_neT (k := 1) (a := 1) z4 (by decide); have z2 := lv_neT (k := 2) (a := 2) z6 (by decide); have z3 := lv_neT (k := 3) (a := 3) z8 (by decide); omega) (by decide) ?_
  refine rm_iconst (v := -1) hc dX5_look_60 (by decide) ?_
  exact rm_iret hc dX5_look_61 ⟨by subst_vars; simp [lookSlot, *], rfl⟩

abbrev rm_X1_isLocked : Room := { frames := 0, cells := 0, slots := 0, locals := 0 }
set_option maxHeartbeats 4000000 in
set_option maxRecDepth 100000 in
theorem c_X1_isLocked {l : Launch} {D : va_G} {cy : Nat → ClassId} {ad : Ads} (hI : IJ ad) (x : Mem) {k d k2 : Nat} (hk : k < 8) (hd3 : d < 3) (hkd : k = 7 → d = 0) (hk2 : k2 < 7) : Cti l yX1_isLocked cX1_isLocked 2 (some .boolean) rm_X1_isLocked D cy ad [.ref (ad k 4 d), .ref (ad k2 8 0)] x (fun r y => r = lockS (x k2 2) (x k (31 + 22 * d)) ∧ y = x) := by
  refine rm_entry (Qc := Qi D cy ad (fun r y => r = lockS (x k2 2) (x k (31 + 22 * d)) ∧ y = x)) hI (by decide) (Nat.le_of_ble_eq_true rfl) ?_
  intro p e s m args below meth c hc
  show RM _ _ _ _ _ _ _ _ _ _ _ _ _ _ _ _ _ [(0, .ref (ad k 4 d)), (1, .ref (ad k2 8 0))] []
  refine rm_aload_n hc dX1_isLocked_0 rfl rfl ?_
  refine rm_geti hc dX1_isLocked_1 fl_X1_42 (dm_8 (by omega)) rfl rfl (fun v1 e1 => ?_)
  refine rm_if_le (tgt := 22) hc dX1_isLocked_4 (by decide) (fun c2 => ?_) (fun c2 => ?_)
  · --T
    refine rm_iconst (v := 0) hc dX1_isLocked_22 (by decide) ?_
    exact rm_zret hc dX1_isLocked_23 rfl ⟨by subst_vars; simp [lockS, *], rfl⟩
  · --F
    refine rm_aload_n hc dX1_isLocked_7 rfl rfl ?_
    refine rm_geti hc dX1_isLocked_8 fl_X1_26 (dm_4 (by omega) (by omega) (by omega)) rfl rfl (fun v3 e3 => ?_)
    refine rm_aload_n hc dX1_isLocked_11 rfl rfl ?_
    refine rm_geti hc dX1_isLocked_12 fl_X1_42 (dm_8 (by omega)) rfl rfl (fun v4 e4 => ?_)
    refine rm_icmp_lt (tgt := 22) hc dX1_isLocked_15 (by decide) (fun c5 => ?_) (fun c5 => ?_)
    · --T
      refine rm_iconst (v := 0) hc dX1_isLocked_22 (by decide) ?_
      exact rm_zret hc dX1_isLocked_23 rfl ⟨by subst_vars; simp [lockS, *], rfl⟩
    · --F
      refine rm_iconst (v := 1) hc dX1_isLocked_18 (by decide) ?_
      refine rm_goto (tgt := 23) hc dX1_isLocked_19 (by decide) ?_
      exact rm_zret hc dX1_isLocked_23 rfl ⟨by subst_vars; simp [lockS, *], rfl⟩
end
section
theorem irng {a mm : Int32} {n : Nat} (hm : mm = nI n) (hn : n < 2 ^ 31) (h1 : ¬ a < 0) (h2 : ¬ mm ≤ a) : ∃ i : Nat, i < n ∧ a = nI i := by
  rcases pk_ix a hn with h | h | h
  · exact absurd h h1
  · rw [hm] at h2; exact absurd h h2
  · exact h
theorem cpS_pre {x : Mem} {k o k2 o2 a c : Nat} (h : k2 ≠ k) : cpS (cpS x k (o + a) k2 (o2 + a) c) k o k2 o2 a = cpS x k o k2 o2 (a + c) := by
  funext b n
  by_cases hb : b = k
  · subst hb
    by_cases h1 : o ≤ n ∧ n < o + a
    · rw [cpS_in h1.1 h1.2, cpS_b h, cpS_in (by omega) (by omega)]
    · simp only [cpS, true_and, if_neg h1]
      by_cases h2 : o + a ≤ n ∧ n < o + a + c
      · rw [if_pos h2, if_pos (by omega)]
        congr 1; omega
      · rw [if_neg h2, if_neg (by omega)]
  · rw [cpS_b hb, cpS_b hb, cpS_b hb]
def recF (x : Mem) (k : Nat) (num : Int32) : Mem := up (up (shA x k) k 6 num) k 5 (if 8 < x k 5 + 1 then 8 else x k 5 + 1)
def numA (x : Mem) (k : Nat) (q : Int32) : Int32 := if q < 0 then -1 else if x k 5 ≤ q then -1 else if 8 ≤ q then -1 else x k (6 + q.toNatClampNeg)
def valS (x : Mem) (k : Nat) (i : Int32) : Int32 := if i = 0 then x k 0 else if i = 1 then x k 1 else x k 2
def chgS (x : Mem) (k : Nat) (i v : Int32) : Mem := if i = 0 then up x k 0 v else if i = 1 then up x k 1 v else up x k 2 v
theorem so_cp {cy : Nat → ClassId} {ad : Ads} {x : Mem} {k k2 : Nat} (h : k < 7) : SO cy ad x (cpS x k 6 k2 6 8) k 7 0 (.inl (cy 0, 8, .inl (va_cpy (fun i => if i < 8 then x k2 (6 + i) else 0) (fun i => if i < 8 then x k (6 + i) else 0) 0 0 8))) := by
  refine ⟨?_, fun k' c' j' hd hne => EE_congr hd fun b n ho => ?_⟩
  · show Sum.inl _ = Sum.inl _
    congr 4
    funext i
    unfold va_cpy cpS
    by_cases h8 : i < 8
    · rw [if_pos h8, if_pos (by omega), if_pos (by omega)]
      show x k2 (6 + (6 + i - 6)) = if 0 + (i - 0) < 8 then x k2 (6 + (0 + (i - 0))) else 0
      rw [if_pos (by omega)]
      congr 1
      omega
    · rw [if_neg h8, if_neg (by omega)]
      exact (if_neg h8).symm
  · unfold cpS
    rw [if_neg]
    rintro ⟨rfl, h1, h2⟩
    apply hne
    rw [← ho, show n = 6 + (n - 6) by omega]
    exact ow_air (by omega) (by omega)
theorem cpAir {x : Mem} {k k2 : Nat} (h : k2 ≠ k) : up (cpS x k 6 k2 6 8) k 5 (cpS x k 6 k2 6 8 k2 5) = cpS x k 5 k2 5 9 := by
  rw [cpS_1]
  exact cpS_pre (o := 5) (o2 := 5) (a := 1) (c := 8) h
def stp (sc num : Int32) : Nat → Int32 → Nat → Nat
  | 0, _, _ => 0
  | f + 1, c, i => if nu sc (nx c) = num then i + 1 else stp sc num f (nx c) (i + 1)
/-- how far ahead the number is for a slot -/
def stpS (x : Mem) (k d s : Nat) (num : Int32) (m : Nat) : Nat := if x k (36 + 22 * d + 4 * s) = 0 then 0 else stp (x k (37 + 22 * d + 4 * s)) num m (x k (38 + 22 * d + 4 * s)) 0
def ctr (a st : Int32) : Int32 := (a + st) - (a + st) / 10000 * 10000
/-- whether the one that is meant opens -/
abbrev opnS (last noted st w : Int32) : Prop := st ≤ w ∨ (noted ≠ -1 ∧ ctr last st = nx noted)
abbrev takS (x : Mem) (k d s : Nat) (st w : Int32) : Prop := opnS (x k (38 + 22 * d + 4 * s)) (x k (39 + 22 * d + 4 * s)) st w
def tak1 (x : Mem) (k d s : Nat) (st : Int32) : Mem := up (up x k (38 + 22 * d + 4 * s) (ctr (x k (38 + 22 * d + 4 * s)) st)) k (39 + 22 * d + 4 * s) (-1)
def tak0 (x : Mem) (k d s : Nat) (st : Int32) : Mem := up x k (39 + 22 * d + 4 * s) (ctr (x k (38 + 22 * d + 4 * s)) st)
def lrnD (x : Mem) (k d : Nat) : Int32 := 0 + lookSlot x k d 0 0 + lookSlot x k d 1 0 + lookSlot x k d 2 0 + lookSlot x k d 3 0
def lookDoor (x : Mem) (k d : Nat) (lock w : Int32) : Int32 := if w = 0 then (if x k (30 + 22 * d) = 0 then 0 else 1) else if w = 1 then x k (31 + 22 * d) else if w = 2 then (if lockS lock (x k (31 + 22 * d)) = 0 then 0 else 1) else if w = 3 then lrnD x k d else if w = 4 then x k (32 + 22 * d) else if w = 5 then x k (33 + 22 * d) else if w = 6 then x k (34 + 22 * d) else if w = 7 then x k (35 + 22 * d) else -1
def FLG (x : Mem) (k : Nat) : Prop := ∀ d, d < 3 → isFlag (x k (30 + 22 * d)) ∧ ∀ s, s < 4 → isFlag (x k (36 + 22 * d + 4 * s))
theorem nIj {a b : Nat} (h : a + 1 = b) : nI a + Int32.ofInt 1 = nI b := by rw [← h]; exact nI_1 a
theorem so_7 {cy : Nat → ClassId} {ad : Ads} {x : Mem} {v : Int32} {k i : Nat} (h : k < 7) (hi : i < 8) : SO cy ad x (up x k (6 + i) v) k 7 0 (.inl (cy 0, 8, .inl (upd (fun i => if i < 8 then x k (6 + i) else 0) i v))) := by
  refine so_up (ow_air (by omega) hi) ?_
  show Sum.inl _ = Sum.inl _
  congr 4
  funext n
  by_cases hn : n = i
  · subst hn; simp [up, upd, hi]
  · by_cases h8 : n < 8
    · rw [if_pos h8]; simp [up, upd, hn, h8]
    · rw [if_neg h8]; simp [upd, hn, h8]
theorem stp_n {sc num cv : Int32} {f i : Nat} (h : ¬ nu sc (nx cv) = num) : stp sc num (f + 1) cv i = stp sc num f (nx cv) (i + 1) := by simp [stp, h]
theorem stp_y {sc num cv : Int32} {f i : Nat} (h : nu sc (nx cv) = num) : stp sc num (f + 1) cv i = i + 1 := by simp [stp, h]
end
section
abbrev rm_X0_copyFrom : Room := { frames := 1, cells := 0, slots := 0, locals := 40 }
set_option maxHeartbeats 4000000 in
set_option maxRecDepth 100000 in
theorem c_X0_copyFrom {l : Launch} {D : va_G} {cy : Nat → ClassId} {ad : Ads} (hI : IJ ad) (x : Mem) {k k2 : Nat} (hk : k < 7) (hk2 : k2 < 7) (hkk : k2 ≠ k) : Ctv l yX0_copyFrom cX0_copyFrom 2 none rm_X0_copyFrom D cy ad [.ref (ad k 6 0), .ref (ad k2 6 0)] x (fun y => y = cpS x k 5 k2 5 9) := by
  refine rm_entry (Qc := Qv D cy ad (fun y => y = cpS x k 5 k2 5 9)) hI (by decide) (Nat.le_of_ble_eq_true rfl) ?_
  intro p e s m args below meth c hc
  show RM _ _ _ _ _ _ _ _ _ _ _ _ _ _ _ _ _ [(0, .ref (ad k 6 0)), (1, .ref (ad k2 6 0))] []
  refine rm_aload_n hc dX0_copyFrom_0 rfl rfl ?_
  refine rm_get hc dX0_copyFrom_1 fl_X0_9 (dm_6 (by omega)) rfl rfl ?_
  refine rm_iconst (v := 0) hc dX0_copyFrom_4 (by decide) ?_
  refine rm_aload_n hc dX0_copyFrom_5 rfl rfl ?_
  refine rm_get hc dX0_copyFrom_6 fl_X0_9 (dm_6 (by omega)) rfl rfl ?_
  refine rm_iconst (v := 0) hc dX0_copyFrom_9 (by decide) ?_
  refine rm_bipush (v := 8) hc dX0_copyFrom_10 (by decide) ?_
  refine rm_copy (cn := 8) (dp := 0) (sp := 0) hc dX0_copyFrom_12 kl_copy_X0 (Nat.le_of_ble_eq_true rfl) (Nat.le_of_ble_eq_true rfl) (dm_7 (by omega)) (dm_7 (by omega)) rfl rfl (by omega) (by omega) (so_cp (k2 := k2) (by omega)) (rm_nm (fun x1 ex1 => ?_))
  refine rm_aload_n hc dX0_copyFrom_15 rfl rfl ?_
  refine rm_aload_n hc dX0_copyFrom_16 rfl rfl ?_
  refine rm_geti hc dX0_copyFrom_17 fl_X0_21 (dm_6 (by omega)) rfl rfl (fun v2 e2 => ?_)
  refine rm_put hc dX0_copyFrom_20 fl_X0_21 (dm_6 (by omega)) rfl (Nat.le_of_ble_eq_true rfl) ft_0_1 rfl rfl (so_6_1 (by omega)) (rm_nm (fun x3 ex3 => ?_))
  exact rm_vret hc dX0_copyFrom_23 (by subst_vars; exact cpAir hkk)

abbrev rm_X0_record : Room := { frames := 1, cells := 0, slots := 0, locals := 40 }
set_option maxHeartbeats 4000000 in
set_option maxRecDepth 100000 in
theorem c_X0_record {l : Launch} {D : va_G} {cy : Nat → ClassId} {ad : Ads} (hI : IJ ad) (x : Mem) {k : Nat} (hk : k < 7) (num : Int32) : Ctv l yX0_record cX0_record 2 none rm_X0_record D cy ad [.ref (ad k 6 0), .int num] x (fun y => y = recF x k num) := by
  refine rm_entry (Qc := Qv D cy ad (fun y => y = recF x k num)) hI (by decide) (Nat.le_of_ble_eq_true rfl) ?_
  intro p e s m args below meth c hc
  show RM _ _ _ _ _ _ _ _ _ _ _ _ _ _ _ _ _ [(0, .ref (ad k 6 0)), (1, .int num)] []
  refine rm_aload_n hc dX0_record_0 rfl rfl ?_
  refine rm_get hc dX0_record_1 fl_X0_9 (dm_6 (by omega)) rfl rfl ?_
  refine rm_iconst (v := 0) hc dX0_record_4 (by decide) ?_
  refine rm_aload_n hc dX0_record_5 rfl rfl ?_
  refine rm_get hc dX0_record_6 fl_X0_9 (dm_6 (by omega)) rfl rfl ?_
  refine rm_iconst (v := 1) hc dX0_record_9 (by decide) ?_
  refine rm_bipush (v := 7) hc dX0_record_10 (by decide) ?_
  refine rm_copy (cn := 7) (dp := 1) (sp := 0) hc dX0_record_12 kl_copy_X0 (Nat.le_of_ble_eq_true rfl) (Nat.le_of_ble_eq_true rfl) (dm_7 (by omega)) (dm_7 (by omega)) rfl rfl (by omega) (by omega) (so_sh (by omega)) (rm_nm (fun x1 ex1 => ?_))
  refine rm_aload_n hc dX0_record_15 rfl rfl ?_
  refine rm_get hc dX0_record_16 fl_X0_9 (dm_6 (by omega)) rfl rfl ?_
  refine rm_iconst (v := 0) hc dX0_record_19 (by decide) ?_
  refine rm_iload_n hc dX0_record_20 rfl rfl ?_
  refine rm_iast (i := 0) hc dX0_record_21 (dm_7 (by omega)) rfl (by omega) (by decide) rfl (so_7 (i := 0) (by omega) (by omega)) (rm_nm (fun x2 ex2 => ?_))
  refine rm_aload_n hc dX0_record_22 rfl rfl ?_
  refine rm_aload_n hc dX0_record_23 rfl rfl ?_
  refine rm_geti hc dX0_record_24 fl_X0_21 (dm_6 (by omega)) rfl rfl (fun v3 e3 => ?_)
  refine rm_iconst (v := 1) hc dX0_record_27 (by decide) ?_
  refine rm_iadd hc dX0_record_28 (fun v4 e4 => ?_)
  refine rm_bipush (v := 8) hc dX0_record_29 (by decide) ?_
  refine rm_min hc dX0_record_31 kl_min_X0 (Nat.le_of_ble_eq_true rfl) (Nat.le_of_ble_eq_true rfl) ⟨Nat.zero_le _, Nat.zero_le _⟩ (fun v5 e5 => ?_)
  refine rm_put hc dX0_record_34 fl_X0_21 (dm_6 (by omega)) rfl (Nat.le_of_ble_eq_true rfl) ft_0_1 rfl rfl (so_6_1 (by omega)) (rm_nm (fun x6 ex6 => ?_))
  exact rm_vret hc dX0_record_37 (by subst_vars; simp [recF, up, shA])

abbrev rm_X0_number : Room := { frames := 0, cells := 0, slots := 0, locals := 0 }
set_option maxHeartbeats 4000000 in
set_option maxRecDepth 100000 in
theorem c_X0_number {l : Launch} {D : va_G} {cy : Nat → ClassId} {ad : Ads} (hI : IJ ad) (x : Mem) {k : Nat} (hk : k < 7) (w : Int32) : Cti l yX0_number cX0_number 2 (some .int) rm_X0_number D cy ad [.ref (ad k 6 0), .int w] x (fun r y => r = numA x k w ∧ y = x) := by
  refine rm_entry (Qc := Qi D cy ad (fun r y => r = numA x k w ∧ y = x)) hI (by decide) (Nat.le_of_ble_eq_true rfl) ?_
  intro p e s m args below meth c hc
  show RM _ _ _ _ _ _ _ _ _ _ _ _ _ _ _ _ _ [(0, .ref (ad k 6 0)), (1, .int w)] []
  refine rm_iload_n hc dX0_number_0 rfl rfl ?_
  refine rm_if_lt (tgt := 27) hc dX0_number_1 (by decide) (fun c1 => ?_) (fun c1 => ?_)
  · --T
    refine rm_iconst (v := -1) hc dX0_number_27 (by decide) ?_
    exact rm_iret hc dX0_number_28 ⟨by subst_vars; simp [numA, nI_clamp, *]; try (rw [nI_clamp (by omega)]), rfl⟩
  · --F
    refine rm_iload_n hc dX0_number_4 rfl rfl ?_
    refine rm_aload_n hc dX0_number_5 rfl rfl ?_
    refine rm_geti hc dX0_number_6 fl_X0_21 (dm_6 (by omega)) rfl rfl (fun v2 e2 => ?_)
    refine rm_icmp_ge (tgt := 27) hc dX0_number_9 (by decide) (fun c3 => ?_) (fun c3 => ?_)
    · --T
      refine rm_iconst (v := -1) hc dX0_number_27 (by decide) ?_
      exact rm_iret hc dX0_number_28 ⟨by subst_vars; simp [numA, nI_clamp, *]; try (rw [nI_clamp (by omega)]), rfl⟩
    · --F
      refine rm_iload_n hc dX0_number_12 rfl rfl ?_
      refine rm_bipush (v := 8) hc dX0_number_13 (by decide) ?_
      refine rm_icmp_ge (tgt := 27) hc dX0_number_15 (by decide) (fun c4 => ?_) (fun c4 => ?_)
      · --T
        refine rm_iconst (v := -1) hc dX0_number_27 (by decide) ?_
        exact rm_iret hc dX0_number_28 ⟨by subst_vars; simp [numA, nI_clamp, *]; try (rw [nI_clamp (by omega)]), rfl⟩
      · --F
        refine rm_aload_n hc dX0_number_18 rfl rfl ?_
        refine rm_get hc dX0_number_19 fl_X0_9 (dm_6 (by omega)) rfl rfl ?_
        refine rm_iload_n hc dX0_number_22 rfl rfl ?_
        obtain ⟨i5, hi5, rfl⟩ := irng (n := 8) (mm := 8) rfl (by decide) c1 c4
        refine rm_iald (i := i5) hc dX0_number_23 (dm_7 (by omega)) rfl (by omega) (by decide) rfl (fun v6 e6 => ?_)
        replace e6 : v6 = x k (6 + i5) := e6.trans (if_pos (by omega))
        refine rm_goto (tgt := 28) hc dX0_number_24 (by decide) ?_
        exact rm_iret hc dX0_number_28 ⟨by subst_vars; simp [numA, nI_clamp, *]; try (rw [nI_clamp (by omega)]), rfl⟩

abbrev rm_X4_least : Room := { frames := 0, cells := 0, slots := 0, locals := 0 }
set_option maxHeartbeats 4000000 in
set_option maxRecDepth 100000 in
theorem c_X4_least {l : Launch} {D : va_G} {cy : Nat → ClassId} {ad : Ads} (hI : IJ ad) (x : Mem) (w : Int32) : Cti l yX4_least cX4_least 1 (some .int) rm_X4_least D cy ad [.int w] x (fun r y => r = (if w = 2 then 0 else 1) ∧ y = x) := by
  refine rm_entry (Qc := Qi D cy ad (fun r y => r = (if w = 2 then 0 else 1) ∧ y = x)) hI (by decide) (Nat.le_of_ble_eq_true rfl) ?_
  intro p e s m args below meth c hc
  show RM _ _ _ _ _ _ _ _ _ _ _ _ _ _ _ _ _ [(0, .int w)] []
  refine rm_iload_n hc dX4_least_0 rfl rfl ?_
  refine rm_iconst (v := 2) hc dX4_least_1 (by decide) ?_
  refine rm_icmp_ne (tgt := 9) hc dX4_least_2 (by decide) (fun c1 => ?_) (fun c1 => ?_)
  · --T
    refine rm_iconst (v := 1) hc dX4_least_9 (by decide) ?_
    exact rm_iret hc dX4_least_10 ⟨by subst_vars; simp [*], rfl⟩
  · --F
    refine rm_iconst (v := 0) hc dX4_least_5 (by decide) ?_
    refine rm_goto (tgt := 10) hc dX4_least_6 (by decide) ?_
    exact rm_iret hc dX4_least_10 ⟨by subst_vars; simp [*], rfl⟩

abbrev rm_X4_most : Room := { frames := 0, cells := 0, slots := 0, locals := 0 }
set_option maxHeartbeats 4000000 in
set_option maxRecDepth 100000 in
theorem c_X4_most {l : Launch} {D : va_G} {cy : Nat → ClassId} {ad : Ads} (hI : IJ ad) (x : Mem) (w : Int32) : Cti l yX4_most cX4_most 1 (some .int) rm_X4_most D cy ad [.int w] x (fun r y => r = (if w = 0 then 64 else if w = 1 then 500 else 20) ∧ y = x) := by
  refine rm_entry (Qc := Qi D cy ad (fun r y => r = (if w = 0 then 64 else if w = 1 then 500 else 20) ∧ y = x)) hI (by decide) (Nat.le_of_ble_eq_true rfl) ?_
  intro p e s m args below meth c hc
  show RM _ _ _ _ _ _ _ _ _ _ _ _ _ _ _ _ _ [(0, .int w)] []
  refine rm_iload_n hc dX4_most_0 rfl rfl ?_
  by_cases z1 : w = 0
  · --case 0
    subst z1
    refine rm_lkup (off := 27) (tgt := 28) hc dX4_most_1 (by decide) (by decide) (by decide) ?_
    refine rm_bipush (v := 64) hc dX4_most_28 (by decide) ?_
    exact rm_iret hc dX4_most_30 ⟨by subst_vars; simp [*], rfl⟩
  by_cases z2 : w = 1
  · --case 1
    subst z2
    refine rm_lkup (off := 30) (tgt := 31) hc dX4_most_1 (by decide) (by decide) (by decide) ?_
    refine rm_sipush (v := 500) hc dX4_most_31 (by decide) ?_
    exact rm_iret hc dX4_most_34 ⟨by subst_vars; simp [*], rfl⟩
  refine rm_lkup (off := 34) (tgt := 35) hc dX4_most_1 (by decide) ((lv_osw (k := 0) z1 (by decide)).trans ((lv_osw (k := 1) z2 (by decide)).trans rfl)) (by decide) ?_
  refine rm_bipush (v := 20) hc dX4_most_35 (by decide) ?_
  exact rm_iret hc dX4_most_37 ⟨by subst_vars; simp [*], rfl⟩

abbrev rm_X4_value : Room := { frames := 0, cells := 0, slots := 0, locals := 0 }
set_option maxHeartbeats 4000000 in
set_option maxRecDepth 100000 in
theorem c_X4_value {l : Launch} {D : va_G} {cy : Nat → ClassId} {ad : Ads} (hI : IJ ad) (x : Mem) {k : Nat} (hk : k < 7) (w : Int32) : Cti l yX4_value cX4_value 2 (some .int) rm_X4_value D cy ad [.ref (ad k 8 0), .int w] x (fun r y => r = valS x k w ∧ y = x) := by
  refine rm_entry (Qc := Qi D cy ad (fun r y => r = valS x k w ∧ y = x)) hI (by decide) (Nat.le_of_ble_eq_true rfl) ?_
  intro p e s m args below meth c hc
  show RM _ _ _ _ _ _ _ _ _ _ _ _ _ _ _ _ _ [(0, .ref (ad k 8 0)), (1, .int w)] []
  refine rm_iload_n hc dX4_value_0 rfl rfl ?_
  by_cases z1 : w = 0
  · --case 0
    subst z1
    refine rm_lkup (off := 27) (tgt := 28) hc dX4_value_1 (by decide) (by decide) (by decide) ?_
    refine rm_aload_n hc dX4_value_28 rfl rfl ?_
    refine rm_geti hc dX4_value_29 fl_X4_7 (dm_8 (by omega)) rfl rfl (fun v2 e2 => ?_)
    exact rm_iret hc dX4_value_32 ⟨by subst_vars; simp [valS, *], rfl⟩
  by_cases z3 : w = 1
  · --case 1
    subst z3
    refine rm_lkup (off := 32) (tgt := 33) hc dX4_value_1 (by decide) (by decide) (by decide) ?_
    refine rm_aload_n hc dX4_value_33 rfl rfl ?_
    refine rm_geti hc dX4_value_34 fl_X4_13 (dm_8 (by omega)) rfl rfl (fun v4 e4 => ?_)
    exact rm_iret hc dX4_value_37 ⟨by subst_vars; simp [valS, *], rfl⟩
  refine rm_lkup (off := 37) (tgt := 38) hc dX4_value_1 (by decide) ((lv_osw (k := 0) z1 (by decide)).trans ((lv_osw (k := 1) z3 (by decide)).trans rfl)) (by decide) ?_
  refine rm_aload_n hc dX4_value_38 rfl rfl ?_
  refine rm_geti hc dX4_value_39 fl_X4_16 (dm_8 (by omega)) rfl rfl (fun v5 e5 => ?_)
  exact rm_iret hc dX4_value_42 ⟨by subst_vars; simp [valS, *], rfl⟩

abbrev rm_X4_change : Room := { frames := 0, cells := 0, slots := 0, locals := 0 }
set_option maxHeartbeats 4000000 in
set_option maxRecDepth 100000 in
theorem c_X4_change {l : Launch} {D : va_G} {cy : Nat → ClassId} {ad : Ads} (hI : IJ ad) (x : Mem) {k : Nat} (hk : k < 7) (w v : Int32) : Ctv l yX4_change cX4_change 3 none rm_X4_change D cy ad [.ref (ad k 8 0), .int w, .int v] x (fun y => y = chgS x k w v) := by
  refine rm_entry (Qc := Qv D cy ad (fun y => y = chgS x k w v)) hI (by decide) (Nat.le_of_ble_eq_true rfl) ?_
  intro p e s m args below meth c hc
  show RM _ _ _ _ _ _ _ _ _ _ _ _ _ _ _ _ _ [(0, .ref (ad k 8 0)), (1, .int w), (2, .int v)] []
  refine rm_iload_n hc dX4_change_0 rfl rfl ?_
  by_cases z1 : w = 0
  · --case 0
    subst z1
    refine rm_lkup (off := 27) (tgt := 28) hc dX4_change_1 (by decide) (by decide) (by decide) ?_
    refine rm_aload_n hc dX4_change_28 rfl rfl ?_
    refine rm_iload_n hc dX4_change_29 rfl rfl ?_
    refine rm_put hc dX4_change_30 fl_X4_7 (dm_8 (by omega)) rfl (Nat.le_of_ble_eq_true rfl) ft_4_0 rfl rfl (so_8_0 (by omega)) (rm_nm (fun x2 ex2 => ?_))
    refine rm_goto (tgt := 49) hc dX4_change_33 (by decide) ?_
    exact rm_vret hc dX4_change_49 (by subst_vars; simp [chgS, *])
  by_cases z3 : w = 1
  · --case 1
    subst z3
    refine rm_lkup (off := 35) (tgt := 36) hc dX4_change_1 (by decide) (by decide) (by decide) ?_
    refine rm_aload_n hc dX4_change_36 rfl rfl ?_
    refine rm_iload_n hc dX4_change_37 rfl rfl ?_
    refine rm_put hc dX4_change_38 fl_X4_13 (dm_8 (by omega)) rfl (Nat.le_of_ble_eq_true rfl) ft_4_1 rfl rfl (so_8_1 (by omega)) (rm_nm (fun x4 ex4 => ?_))
    refine rm_goto (tgt := 49) hc dX4_change_41 (by decide) ?_
    exact rm_vret hc dX4_change_49 (by subst_vars; simp [chgS, *])
  refine rm_lkup (off := 43) (tgt := 44) hc dX4_change_1 (by decide) ((lv_osw (k := 0) z1 (by decide)).trans ((lv_osw (k := 1) z3 (by decide)).trans rfl)) (by decide) ?_
  refine rm_aload_n hc dX4_change_44 rfl rfl ?_
  refine rm_iload_n hc dX4_change_45 rfl rfl ?_
  refine rm_put hc dX4_change_46 fl_X4_16 (dm_8 (by omega)) rfl (Nat.le_of_ble_eq_true rfl) ft_4_2 rfl rfl (so_8_2 (by omega)) (rm_nm (fun x5 ex5 => ?_))
  exact rm_vret hc dX4_change_49 (by subst_vars; simp [chgS, *])

abbrev rm_X4_copyFrom : Room := { frames := 0, cells := 0, slots := 0, locals := 0 }
set_option maxHeartbeats 4000000 in
set_option maxRecDepth 100000 in
theorem c_X4_copyFrom {l : Launch} {D : va_G} {cy : Nat → ClassId} {ad : Ads} (hI : IJ ad) (x : Mem) {k k2 : Nat} (hk : k < 7) (hk2 : k2 < 7) (hkk : k2 ≠ k) : Ctv l yX4_copyFrom cX4_copyFrom 2 none rm_X4_copyFrom D cy ad [.ref (ad k 8 0), .ref (ad k2 8 0)] x (fun y => y = cpS x k 0 k2 0 3) := by
  refine rm_entry (Qc := Qv D cy ad (fun y => y = cpS x k 0 k2 0 3)) hI (by decide) (Nat.le_of_ble_eq_true rfl) ?_
  intro p e s m args below meth c hc
  show RM _ _ _ _ _ _ _ _ _ _ _ _ _ _ _ _ _ [(0, .ref (ad k 8 0)), (1, .ref (ad k2 8 0))] []
  refine rm_aload_n hc dX4_copyFrom_0 rfl rfl ?_
  refine rm_aload_n hc dX4_copyFrom_1 rfl rfl ?_
  refine rm_geti hc dX4_copyFrom_2 fl_X4_7 (dm_8 (by omega)) rfl rfl (fun v1 e1 => ?_)
  refine rm_put hc dX4_copyFrom_5 fl_X4_7 (dm_8 (by omega)) rfl (Nat.le_of_ble_eq_true rfl) ft_4_0 rfl rfl (so_8_0 (by omega)) (rm_nm (fun x2 ex2 => ?_))
  refine rm_aload_n hc dX4_copyFrom_8 rfl rfl ?_
  refine rm_aload_n hc dX4_copyFrom_9 rfl rfl ?_
  refine rm_geti hc dX4_copyFrom_10 fl_X4_13 (dm_8 (by omega)) rfl rfl (fun v3 e3 => ?_)
  refine rm_put hc dX4_copyFrom_13 fl_X4_13 (dm_8 (by omega)) rfl (Nat.le_of_ble_eq_true rfl) ft_4_1 rfl rfl (so_8_1 (by omega)) (rm_nm (fun x4 ex4 => ?_))
  refine rm_aload_n hc dX4_copyFrom_16 rfl rfl ?_
  refine rm_aload_n hc dX4_copyFrom_17 rfl rfl ?_
  refine rm_geti hc dX4_copyFrom_18 fl_X4_16 (dm_8 (by omega)) rfl rfl (fun v5 e5 => ?_)
  refine rm_put hc dX4_copyFrom_21 fl_X4_16 (dm_8 (by omega)) rfl (Nat.le_of_ble_eq_true rfl) ft_4_2 rfl rfl (so_8_2 (by omega)) (rm_nm (fun x6 ex6 => ?_))
  exact rm_vret hc dX4_copyFrom_24 (by subst_vars; exact cpn_3 (o := 0) (o2 := 0) hkk)

abbrev rm_X5_stepsTo : Room := { frames := 1, cells := 0, slots := 0, locals := 21 }
set_option maxHeartbeats 4000000 in
set_option maxRecDepth 100000 in
theorem c_X5_stepsTo {l : Launch} {D : va_G} {cy : Nat → ClassId} {ad : Ads} (hI : IJ ad) (x : Mem) {k d s0 : Nat} (hk : k < 8) (hd3 : d < 3) (hs : s0 < 4) (hkd : k = 7 → d = 0) (num : Int32) (mm : Nat) (hmm : mm < 2 ^ 30) : Cti l yX5_stepsTo cX5_stepsTo 5 (some .int) rm_X5_stepsTo D cy ad [.ref (ad k (d + 20) s0), .int num, .int (nI (mm))] x (fun r y => r = nI (stpS x k d s0 num mm) ∧ y = x) := by
  refine rm_entry (Qc := Qi D cy ad (fun r y => r = nI (stpS x k d s0 num mm) ∧ y = x)) hI (by decide) (Nat.le_of_ble_eq_true rfl) ?_
  intro p e s m args below meth c hc
  show RM _ _ _ _ _ _ _ _ _ _ _ _ _ _ _ _ _ [(0, .ref (ad k (d + 20) s0)), (1, .int num), (2, .int (nI (mm)))] []
  refine rm_aload_n hc dX5_stepsTo_0 rfl rfl ?_
  refine rm_geti hc dX5_stepsTo_1 fl_X5_21 (dm_s (d := d) (by omega) (by omega) (by omega) (by omega)) rfl rfl (fun v1 e1 => ?_)
  refine rm_if_ne (tgt := 9) hc dX5_stepsTo_4 (by decide) (fun c2 => ?_) (fun c2 => ?_)
  · --T
    refine rm_aload_n hc dX5_stepsTo_9 rfl rfl ?_
    refine rm_geti hc dX5_stepsTo_10 fl_X5_15 (dm_s (d := d) (by omega) (by omega) (by omega) (by omega)) rfl rfl (fun v3 e3 => ?_)
    refine rm_istore_n (ls' := [(0, .ref (ad k (d + 20) s0)), (1, .int num), (2, .int (nI (mm))), (3, .int v3)]) hc dX5_stepsTo_13 rfl (by decide) rfl ?_
    refine rm_iconst (v := 1) hc dX5_stepsTo_14 (by decide) ?_
    refine rm_istore (ls' := [(0, .ref (ad k (d + 20) s0)), (1, .int num), (2, .int (nI (mm))), (3, .int v3), (4, .int 1)]) hc dX5_stepsTo_15 (by decide) rfl ?_
    have key : ∀ (f i : Nat) (cv : Int32), i + f = mm → stp (x k (37 + 22 * d + 4 * s0)) num f cv i = stpS x k d s0 num mm → RM p l e rm_X5_stepsTo s m args below meth c 5 (AA ad s.heap.size) (GG D cy ad x) 0 0 (QQ (Qi D cy ad (fun r y => r = nI (stpS x k d s0 num mm) ∧ y = x)) below args s ad) 17 [(0, .ref (ad k (d + 20) s0)), (1, .int num), (2, .int (nI (mm))), (3, .int cv), (4, .int (nI (i + 1)))] [] := by
      intro f
      induction f with
      | zero =>
        intro i cv hif hst
        refine rm_iload hc dX5_stepsTo_17 rfl ?_
        refine rm_iload_n hc dX5_stepsTo_19 rfl rfl ?_
        refine rm_icmp_gt (tgt := 49) hc dX5_stepsTo_20 (by decide) (fun _ => ?_) (fun h => absurd (nI_lt (a := mm) (b := i + 1) (by omega) (by omega)) h)
        refine rm_iconst (v := 0) hc dX5_stepsTo_49 (by decide) ?_
        exact rm_iret hc dX5_stepsTo_50 ⟨by rw [← hst]; rfl, rfl⟩
      | succ f ih =>
        intro i cv hif hst
        refine rm_iload hc dX5_stepsTo_17 rfl ?_
        refine rm_iload_n hc dX5_stepsTo_19 rfl rfl ?_
        refine rm_icmp_gt (tgt := 49) hc dX5_stepsTo_20 (by decide) (fun h => absurd h (nI_nlt (a := mm) (b := i + 1) (by omega) (by omega))) (fun _ => ?_)
        refine rm_iload_n hc dX5_stepsTo_23 rfl rfl ?_
        refine rm_calliN (As := [.int cv]) (rest := []) hc dX5_stepsTo_24 (c_X8_counterBehind hI x cv) mn_X5_31 (hn := rfl) (hst := rfl) (hw := Nat.le_of_ble_eq_true rfl) (hR := ⟨⟨rfl, rfl⟩, Nat.le_of_ble_eq_true rfl, Nat.le_of_ble_eq_true rfl⟩) (hnc := ⟨Nat.zero_le _, Nat.zero_le _⟩) (fun r6 y6 h6 => ?_)
        obtain ⟨e6, ey6⟩ := h6
        obtain rfl := ey6.symm
        refine rm_istore_n (ls' := [(0, .ref (ad k (d + 20) s0)), (1, .int num), (2, .int (nI (mm))), (3, .int r6), (4, .int (nI (i + 1)))]) hc dX5_stepsTo_27 rfl (by decide) rfl ?_
        refine rm_aload_n hc dX5_stepsTo_28 rfl rfl ?_
        refine rm_geti hc dX5_stepsTo_29 fl_X5_9 (dm_s (d := d) (by omega) (by omega) (by omega) (by omega)) rfl rfl (fun v7 e7 => ?_)
        refine rm_iload_n hc dX5_stepsTo_32 rfl rfl ?_
        refine rm_calliN (As := [.int v7, .int r6]) (rest := []) hc dX5_stepsTo_33 (c_X8_numberOf hI x v7 r6) mn_X5_35 (hn := rfl) (hst := rfl) (hw := Nat.le_of_ble_eq_true rfl) (hR := ⟨⟨rfl, rfl⟩, Nat.le_of_ble_eq_true rfl, Nat.le_of_ble_eq_true rfl⟩) (hnc := ⟨Nat.zero_le _, Nat.zero_le _⟩) (fun r8 y8 h8 => ?_)
        obtain ⟨e8, ey8⟩ := h8
        obtain rfl := ey8.symm
        refine rm_iload_n hc dX5_stepsTo_36 rfl rfl ?_
        refine rm_icmp_ne (tgt := 43) hc dX5_stepsTo_37 (by decide) (fun c9 => ?_) (fun c9 => ?_)
        · --T
          refine rm_iinc (v := (nI (i + 2))) (ls' := [(0, .ref (ad k (d + 20) s0)), (1, .int num), (2, .int (nI (mm))), (3, .int r6), (4, .int (nI (i + 2)))]) hc dX5_stepsTo_43 rfl (nIj (by omega)) (by decide) rfl ?_
          refine rm_goto (tgt := 17) hc dX5_stepsTo_46 (by decide) ?_
          exact ih (i + 1) _ (by omega) (by rw [← hst, stp_n (by subst_vars; assumption)]; subst_vars; rfl)
        · --F
          refine rm_iload hc dX5_stepsTo_40 rfl ?_
          exact rm_iret hc dX5_stepsTo_42 ⟨by rw [← hst, stp_y (by subst_vars; first | assumption | rfl)], rfl⟩
    exact key mm 0 _ (by omega) (by unfold stpS; rw [if_neg (by subst_vars; assumption)]; subst_vars; rfl)
  · --F
    refine rm_iconst (v := 0) hc dX5_stepsTo_7 (by decide) ?_
    exact rm_iret hc dX5_stepsTo_8 ⟨by unfold stpS; rw [if_pos (by subst_vars; assumption)]; rfl, rfl⟩

abbrev rm_X5_take : Room := { frames := 1, cells := 0, slots := 0, locals := 20 }
set_option maxHeartbeats 4000000 in
set_option maxRecDepth 100000 in
theorem c_X5_take {l : Launch} {D : va_G} {cy : Nat → ClassId} {ad : Ads} (hI : IJ ad) (x : Mem) {k d s0 : Nat} (hk : k < 8) (hd3 : d < 3) (hs : s0 < 4) (hkd : k = 7 → d = 0) (a w : Int32) : Cti l yX5_take cX5_take 4 (some .boolean) rm_X5_take D cy ad [.ref (ad k (d + 20) s0), .int a, .int w] x (fun r y => r = (if takS x k d s0 a w then 1 else 0) ∧ y = (if takS x k d s0 a w then tak1 x k d s0 a else tak0 x k d s0 a)) := by
  refine rm_entry (Qc := Qi D cy ad (fun r y => r = (if takS x k d s0 a w then 1 else 0) ∧ y = (if takS x k d s0 a w then tak1 x k d s0 a else tak0 x k d s0 a))) hI (by decide) (Nat.le_of_ble_eq_true rfl) ?_
  intro p e s m args below meth c hc
  show RM _ _ _ _ _ _ _ _ _ _ _ _ _ _ _ _ _ [(0, .ref (ad k (d + 20) s0)), (1, .int a), (2, .int w)] []
  refine rm_aload_n hc dX5_take_0 rfl rfl ?_
  refine rm_geti hc dX5_take_1 fl_X5_15 (dm_s (d := d) (by omega) (by omega) (by omega) (by omega)) rfl rfl (fun v1 e1 => ?_)
  refine rm_iload_n hc dX5_take_4 rfl rfl ?_
  refine rm_iadd hc dX5_take_5 (fun v2 e2 => ?_)
  refine rm_sipush (v := 10000) hc dX5_take_6 (by decide) ?_
  refine rm_irem hc dX5_take_9 (by decide) (fun v3 e3 => ?_)
  refine rm_istore_n (ls' := [(0, .ref (ad k (d + 20) s0)), (1, .int a), (2, .int w), (3, .int v3)]) hc dX5_take_10 rfl (by decide) rfl ?_
  refine rm_iload_n hc dX5_take_11 rfl rfl ?_
  refine rm_iload_n hc dX5_take_12 rfl rfl ?_
  refine rm_icmp_le (tgt := 35) hc dX5_take_13 (by decide) (fun c4 => ?_) (fun c4 => ?_)
  · --T
    refine rm_aload_n hc dX5_take_35 rfl rfl ?_
    refine rm_iload_n hc dX5_take_36 rfl rfl ?_
    refine rm_put hc dX5_take_37 fl_X5_15 (dm_s (d := d) (by omega) (by omega) (by omega) (by omega)) rfl (Nat.le_of_ble_eq_true rfl) ft_5_2 rfl rfl (so_s_2 (d := d) (by omega) (by omega) (by omega)) (rm_nm (fun x5 ex5 => ?_))
    refine rm_aload_n hc dX5_take_40 rfl rfl ?_
    refine rm_iconst (v := -1) hc dX5_take_41 (by decide) ?_
    refine rm_put hc dX5_take_42 fl_X5_18 (dm_s (d := d) (by omega) (by omega) (by omega) (by omega)) rfl (Nat.le_of_ble_eq_true rfl) ft_5_3 rfl rfl (so_s_3 (d := d) (by omega) (by omega) (by omega)) (rm_nm (fun x6 ex6 => ?_))
    refine rm_iconst (v := 1) hc dX5_take_45 (by decide) ?_
    exact rm_zret hc dX5_take_46 rfl ⟨by rw [if_pos (by unfold takS opnS; subst_vars; first | exact Or.inl (by assumption) | exact Or.inr ⟨by assumption, by assumption⟩)], by rw [if_pos (by unfold takS opnS; subst_vars; first | exact Or.inl (by assumption) | exact Or.inr ⟨by assumption, by assumption⟩)]; subst_vars; simp [tak1, up, ctr]⟩
  · --F
    refine rm_aload_n hc dX5_take_16 rfl rfl ?_
    refine rm_geti hc dX5_take_17 fl_X5_18 (dm_s (d := d) (by omega) (by omega) (by omega) (by omega)) rfl rfl (fun v7 e7 => ?_)
    refine rm_iconst (v := -1) hc dX5_take_20 (by decide) ?_
    refine rm_icmp_eq (tgt := 47) hc dX5_take_21 (by decide) (fun c8 => ?_) (fun c8 => ?_)
    · --T
      refine rm_aload_n hc dX5_take_47 rfl rfl ?_
      refine rm_iload_n hc dX5_take_48 rfl rfl ?_
      refine rm_put hc dX5_take_49 fl_X5_18 (dm_s (d := d) (by omega) (by omega) (by omega) (by omega)) rfl (Nat.le_of_ble_eq_true rfl) ft_5_3 rfl rfl (so_s_3 (d := d) (by omega) (by omega) (by omega)) (rm_nm (fun x9 ex9 => ?_))
      refine rm_iconst (v := 0) hc dX5_take_52 (by decide) ?_
      exact rm_zret hc dX5_take_53 rfl ⟨by rw [if_neg (by unfold takS opnS; subst_vars; rintro (h1 | ⟨h1, h2⟩) <;> first | contradiction | exact absurd (by assumption) h1)], by rw [if_neg (by unfold takS opnS; subst_vars; rintro (h1 | ⟨h1, h2⟩) <;> first | contradiction | exact absurd (by assumption) h1)]; subst_vars; rfl⟩
    · --F
      refine rm_iload_n hc dX5_take_24 rfl rfl ?_
      refine rm_aload_n hc dX5_take_25 rfl rfl ?_
      refine rm_geti hc dX5_take_26 fl_X5_18 (dm_s (d := d) (by omega) (by omega) (by omega) (by omega)) rfl rfl (fun v10 e10 => ?_)
      refine rm_calliN (As := [.int v10]) (rest := [.int v3]) hc dX5_take_29 (c_X8_counterBehind hI x v10) mn_X5_31 (hn := rfl) (hst := rfl) (hw := Nat.le_of_ble_eq_true rfl) (hR := ⟨⟨rfl, rfl⟩, Nat.le_of_ble_eq_true rfl, Nat.le_of_ble_eq_true rfl⟩) (hnc := ⟨Nat.zero_le _, Nat.zero_le _⟩) (fun r11 y11 h11 => ?_)
      obtain ⟨e11, ey11⟩ := h11
      obtain rfl := ey11.symm
      refine rm_icmp_ne (tgt := 47) hc dX5_take_32 (by decide) (fun c12 => ?_) (fun c12 => ?_)
      · --T
        refine rm_aload_n hc dX5_take_47 rfl rfl ?_
        refine rm_iload_n hc dX5_take_48 rfl rfl ?_
        refine rm_put hc dX5_take_49 fl_X5_18 (dm_s (d := d) (by omega) (by omega) (by omega) (by omega)) rfl (Nat.le_of_ble_eq_true rfl) ft_5_3 rfl rfl (so_s_3 (d := d) (by omega) (by omega) (by omega)) (rm_nm (fun x13 ex13 => ?_))
        refine rm_iconst (v := 0) hc dX5_take_52 (by decide) ?_
        exact rm_zret hc dX5_take_53 rfl ⟨by rw [if_neg (by unfold takS opnS; subst_vars; rintro (h1 | ⟨h1, h2⟩) <;> first | contradiction | exact absurd (by assumption) h1)], by rw [if_neg (by unfold takS opnS; subst_vars; rintro (h1 | ⟨h1, h2⟩) <;> first | contradiction | exact absurd (by assumption) h1)]; subst_vars; rfl⟩
      · --F
        refine rm_aload_n hc dX5_take_35 rfl rfl ?_
        refine rm_iload_n hc dX5_take_36 rfl rfl ?_
        refine rm_put hc dX5_take_37 fl_X5_15 (dm_s (d := d) (by omega) (by omega) (by omega) (by omega)) rfl (Nat.le_of_ble_eq_true rfl) ft_5_2 rfl rfl (so_s_2 (d := d) (by omega) (by omega) (by omega)) (rm_nm (fun x14 ex14 => ?_))
        refine rm_aload_n hc dX5_take_40 rfl rfl ?_
        refine rm_iconst (v := -1) hc dX5_take_41 (by decide) ?_
        refine rm_put hc dX5_take_42 fl_X5_18 (dm_s (d := d) (by omega) (by omega) (by omega) (by omega)) rfl (Nat.le_of_ble_eq_true rfl) ft_5_3 rfl rfl (so_s_3 (d := d) (by omega) (by omega) (by omega)) (rm_nm (fun x15 ex15 => ?_))
        refine rm_iconst (v := 1) hc dX5_take_45 (by decide) ?_
        exact rm_zret hc dX5_take_46 rfl ⟨by rw [if_pos (by unfold takS opnS; subst_vars; first | exact Or.inl (by assumption) | exact Or.inr ⟨by assumption, by assumption⟩)], by rw [if_pos (by unfold takS opnS; subst_vars; first | exact Or.inl (by assumption) | exact Or.inr ⟨by assumption, by assumption⟩)]; subst_vars; simp [tak1, up, ctr]⟩
end
section
theorem stp_le {sc num : Int32} : ∀ (f : Nat) (cv : Int32) (i : Nat), stp sc num f cv i ≤ i + f
  | 0, _, _ => Nat.zero_le _
  | f + 1, cv, i => by
    unfold stp
    split
    · omega
    · have := stp_le (sc := sc) (num := num) f (nx cv) (i + 1)
      omega
theorem stpS_le {x : Mem} {k d s : Nat} {num : Int32} {mm : Nat} : stpS x k d s num mm ≤ mm := by
  unfold stpS
  split
  · exact Nat.zero_le _
  · have := stp_le (sc := x k (37 + 22 * d + 4 * s)) (num := num) mm (x k (38 + 22 * d + 4 * s)) 0
    omega
def mt (x : Mem) (k d : Nat) (num : Int32) (mm : Nat) : Nat → Nat → Nat × Nat
  | 0, _ => (4, 0)
  | f + 1, s => if stpS x k d s num mm = 0 then mt x k d num mm f (s + 1) else (s, stpS x k d s num mm)
/-- the slot that is meant (4: none) and how far ahead -/
def mean (x : Mem) (k d : Nat) (num : Int32) (mm : Nat) : Nat × Nat := mt x k d num mm 4 0
theorem mean_0 {x : Mem} {k d : Nat} {num : Int32} {mm : Nat} (h : stpS x k d 0 num mm ≠ 0) : mean x k d num mm = (0, stpS x k d 0 num mm) := by simp [mean, mt, h]
theorem mean_1 {x : Mem} {k d : Nat} {num : Int32} {mm : Nat} (h0 : stpS x k d 0 num mm = 0) (h : stpS x k d 1 num mm ≠ 0) : mean x k d num mm = (1, stpS x k d 1 num mm) := by simp [mean, mt, h0, h]
theorem mean_2 {x : Mem} {k d : Nat} {num : Int32} {mm : Nat} (h0 : stpS x k d 0 num mm = 0) (h1 : stpS x k d 1 num mm = 0) (h : stpS x k d 2 num mm ≠ 0) : mean x k d num mm = (2, stpS x k d 2 num mm) := by simp [mean, mt, h0, h1, h]
theorem mean_3 {x : Mem} {k d : Nat} {num : Int32} {mm : Nat} (h0 : stpS x k d 0 num mm = 0) (h1 : stpS x k d 1 num mm = 0) (h2 : stpS x k d 2 num mm = 0) (h : stpS x k d 3 num mm ≠ 0) : mean x k d num mm = (3, stpS x k d 3 num mm) := by simp [mean, mt, h0, h1, h2, h]
theorem mean_4 {x : Mem} {k d : Nat} {num : Int32} {mm : Nat} (h0 : stpS x k d 0 num mm = 0) (h1 : stpS x k d 1 num mm = 0) (h2 : stpS x k d 2 num mm = 0) (h3 : stpS x k d 3 num mm = 0) : mean x k d num mm = (4, 0) := by simp [mean, mt, h0, h1, h2, h3]
/-- what a door does with a number: 0 it opens, 1 it notes, 2 it is wrong, 3 it is locked -/
def hrR (x : Mem) (k d k2 : Nat) (num : Int32) (mm : Nat) : Int32 :=
  if lockS (x k2 2) (x k (31 + 22 * d)) ≠ 0 then 3 else if (mean x k d num mm).1 = 4 then 2
  else if takS x k d (mean x k d num mm).1 (nI (mean x k d num mm).2) (x k2 0) then 0 else 1
def opnM (z : Mem) (k d : Nat) : Mem := up (up (up z k (30 + 22 * d) 1) k (32 + 22 * d) (z k (32 + 22 * d) + 1)) k (31 + 22 * d) 0
def hrM (x : Mem) (k d k2 : Nat) (num : Int32) (mm : Nat) : Mem :=
  if lockS (x k2 2) (x k (31 + 22 * d)) ≠ 0 then up x k (35 + 22 * d) (x k (35 + 22 * d) + 1)
  else if (mean x k d num mm).1 = 4 then up (up x k (31 + 22 * d) (x k (31 + 22 * d) + 1)) k (34 + 22 * d) (x k (34 + 22 * d) + 1)
  else if takS x k d (mean x k d num mm).1 (nI (mean x k d num mm).2) (x k2 0) then opnM (tak1 x k d (mean x k d num mm).1 (nI (mean x k d num mm).2)) k d
  else up (tak0 x k d (mean x k d num mm).1 (nI (mean x k d num mm).2)) k (33 + 22 * d) (x k (33 + 22 * d) + 1)
theorem hr_3 {x : Mem} {k d k2 : Nat} {num : Int32} {mm : Nat} (hL : ¬ lockS (x k2 2) (x k (31 + 22 * d)) = 0) : hrR x k d k2 num mm = 3 ∧ hrM x k d k2 num mm = up x k (35 + 22 * d) (x k (35 + 22 * d) + 1) := by
  unfold hrR hrM
  rw [if_pos hL, if_pos hL]
  exact ⟨rfl, rfl⟩
theorem hr_2 {x : Mem} {k d k2 : Nat} {num : Int32} {mm : Nat} (hL : lockS (x k2 2) (x k (31 + 22 * d)) = 0) (hM : mean x k d num mm = (4, 0)) : hrR x k d k2 num mm = 2 ∧ hrM x k d k2 num mm = up (up x k (31 + 22 * d) (x k (31 + 22 * d) + 1)) k (34 + 22 * d) (x k (34 + 22 * d) + 1) := by
  refine ⟨?_, ?_⟩
  · unfold hrR
    rw [if_neg (fun h => h hL), hM]
    rfl
  · unfold hrM
    rw [if_neg (fun h => h hL), hM]
    rfl
theorem hr_0 {x : Mem} {k d k2 s t : Nat} {num : Int32} {mm : Nat} (hL : lockS (x k2 2) (x k (31 + 22 * d)) = 0) (hM : mean x k d num mm = (s, t)) (hs : s < 4) (hT : takS x k d s (nI t) (x k2 0)) : hrR x k d k2 num mm = 0 ∧ hrM x k d k2 num mm = opnM (tak1 x k d s (nI t)) k d := by
  have h4 : ¬ (s, t).1 = 4 := (by omega : ¬ s = 4)
  refine ⟨?_, ?_⟩
  · unfold hrR
    rw [if_neg (fun h => h hL), hM, if_neg h4, if_pos hT]
  · unfold hrM
    rw [if_neg (fun h => h hL), hM, if_neg h4, if_pos hT]
theorem hr_1 {x : Mem} {k d k2 s t : Nat} {num : Int32} {mm : Nat} (hL : lockS (x k2 2) (x k (31 + 22 * d)) = 0) (hM : mean x k d num mm = (s, t)) (hs : s < 4) (hT : ¬ takS x k d s (nI t) (x k2 0)) : hrR x k d k2 num mm = 1 ∧ hrM x k d k2 num mm = up (tak0 x k d s (nI t)) k (33 + 22 * d) (x k (33 + 22 * d) + 1) := by
  have h4 : ¬ (s, t).1 = 4 := (by omega : ¬ s = 4)
  refine ⟨?_, ?_⟩
  · unfold hrR
    rw [if_neg (fun h => h hL), hM, if_neg h4, if_neg hT]
  · unfold hrM
    rw [if_neg (fun h => h hL), hM, if_neg h4, if_neg hT]
theorem cpDoor {x : Mem} {k k2 o o2 : Nat} (h : k2 ≠ k) : cpS (cpS (cpS (cpS (cpS x k (o + 6) k2 (o2 + 6) 4) k (o + 10) k2 (o2 + 10) 4) k (o + 14) k2 (o2 + 14) 4) k (o + 18) k2 (o2 + 18) 4) k o k2 o2 6 = cpS x k o k2 o2 22 := by
  have e1 := cpS_app (x := x) (k := k) (o := o + 6) (k2 := k2) (o2 := o2 + 6) (a := 4) (c := 4) h
  have e2 := cpS_app (x := x) (k := k) (o := o + 6) (k2 := k2) (o2 := o2 + 6) (a := 8) (c := 4) h
  have e3 := cpS_app (x := x) (k := k) (o := o + 6) (k2 := k2) (o2 := o2 + 6) (a := 12) (c := 4) h
  have e4 := cpS_pre (x := x) (k := k) (o := o) (k2 := k2) (o2 := o2) (a := 6) (c := 16) h
  rw [show o + 10 = o + 6 + 4 by omega, show o2 + 10 = o2 + 6 + 4 by omega, e1, show o + 14 = o + 6 + 8 by omega, show o2 + 14 = o2 + 6 + 8 by omega, e2, show o + 18 = o + 6 + 12 by omega, show o2 + 18 = o2 + 6 + 12 by omega, e3, e4]
theorem cpState {x : Mem} {k k2 : Nat} (h : k2 ≠ k) : cpS (cpS (cpS (cpS (cpS (cpS (cpS (cpS (cpS x k 14 k2 14 4) k 18 k2 18 4) k 22 k2 22 4) k 26 k2 26 4) k 30 k2 30 22) k 52 k2 52 22) k 74 k2 74 22) k 5 k2 5 9) k 0 k2 0 5 = cpS x k 0 k2 0 96 := by
  have e1 := cpS_app (x := x) (k := k) (o := 14) (k2 := k2) (o2 := 14) (a := 4) (c := 4) h
  have e2 := cpS_app (x := x) (k := k) (o := 14) (k2 := k2) (o2 := 14) (a := 8) (c := 4) h
  have e3 := cpS_app (x := x) (k := k) (o := 14) (k2 := k2) (o2 := 14) (a := 12) (c := 4) h
  have e4 := cpS_app (x := x) (k := k) (o := 14) (k2 := k2) (o2 := 14) (a := 16) (c := 22) h
  have e5 := cpS_app (x := x) (k := k) (o := 14) (k2 := k2) (o2 := 14) (a := 38) (c := 22) h
  have e6 := cpS_app (x := x) (k := k) (o := 14) (k2 := k2) (o2 := 14) (a := 60) (c := 22) h
  have e7 := cpS_pre (x := x) (k := k) (o := 5) (k2 := k2) (o2 := 5) (a := 9) (c := 82) h
  have e8 := cpS_pre (x := x) (k := k) (o := 0) (k2 := k2) (o2 := 0) (a := 5) (c := 91) h
  simp only [Nat.reduceAdd] at e1 e2 e3 e4 e5 e6 e7 e8
  rw [e1, e2, e3, e4, e5, e6, e7, e8]
theorem cpStateF {x : Mem} {k k2 : Nat} (h : k2 ≠ k) : up (up (cpS (cpS (cpS (cpS (cpS (cpS (cpS (cpS (cpS x k 14 k2 14 4) k 18 k2 18 4) k 22 k2 22 4) k 26 k2 26 4) k 30 k2 30 22) k 52 k2 52 22) k 74 k2 74 22) k 5 k2 5 9) k 0 k2 0 3) k 3 (x k2 3)) k 4 (x k2 4) = cpS x k 0 k2 0 96 := by
  rw [← cpState h]
  obtain ⟨W0, hW⟩ : ∃ W0, W0 = (cpS (cpS (cpS (cpS (cpS (cpS (cpS (cpS x k 14 k2 14 4) k 18 k2 18 4) k 22 k2 22 4) k 26 k2 26 4) k 30 k2 30 22) k 52 k2 52 22) k 74 k2 74 22) k 5 k2 5 9) := ⟨_, rfl⟩
  have w3 : ∀ n, x k2 n = W0 k2 n := fun n => by rw [hW]; simp only [cpS_b h]
  rw [← hW, w3 3, w3 4]
  have e1 := cpS_up (x := W0) (k := k) (o := 0) (k2 := k2) (o2 := 0) (a := 3) h
  have e2 := cpS_up (x := W0) (k := k) (o := 0) (k2 := k2) (o2 := 0) (a := 4) h
  simp only [Nat.zero_add, Nat.reduceAdd] at e1 e2
  rw [e1, e2]
theorem tak0_33 {x : Mem} {k d s : Nat} {st : Int32} : tak0 x k d s st k (33 + 22 * d) = x k (33 + 22 * d) := up_n _ _ (by omega)
end
section
theorem cpn_6 {x : Mem} {k k2 o o2 : Nat} (h : k2 ≠ k) : (up (up (up (up (up (up x k o (x k2 o2)) k (o + 1) ((up x k o (x k2 o2)) k2 (o2 + 1))) k (o + 2) ((up (up x k o (x k2 o2)) k (o + 1) ((up x k o (x k2 o2)) k2 (o2 + 1))) k2 (o2 + 2))) k (o + 3) ((up (up (up x k o (x k2 o2)) k (o + 1) ((up x k o (x k2 o2)) k2 (o2 + 1))) k (o + 2) ((up (up x k o (x k2 o2)) k (o + 1) ((up x k o (x k2 o2)) k2 (o2 + 1))) k2 (o2 + 2))) k2 (o2 + 3))) k (o + 4) ((up (up (up (up x k o (x k2 o2)) k (o + 1) ((up x k o (x k2 o2)) k2 (o2 + 1))) k (o + 2) ((up (up x k o (x k2 o2)) k (o + 1) ((up x k o (x k2 o2)) k2 (o2 + 1))) k2 (o2 + 2))) k (o + 3) ((up (up (up x k o (x k2 o2)) k (o + 1) ((up x k o (x k2 o2)) k2 (o2 + 1))) k (o + 2) ((up (up x k o (x k2 o2)) k (o + 1) ((up x k o (x k2 o2)) k2 (o2 + 1))) k2 (o2 + 2))) k2 (o2 + 3))) k2 (o2 + 4))) k (o + 5) ((up (up (up (up (up x k o (x k2 o2)) k (o + 1) ((up x k o (x k2 o2)) k2 (o2 + 1))) k (o + 2) ((up (up x k o (x k2 o2)) k (o + 1) ((up x k o (x k2 o2)) k2 (o2 + 1))) k2 (o2 + 2))) k (o + 3) ((up (up (up x k o (x k2 o2)) k (o + 1) ((up x k o (x k2 o2)) k2 (o2 + 1))) k (o + 2) ((up (up x k o (x k2 o2)) k (o + 1) ((up x k o (x k2 o2)) k2 (o2 + 1))) k2 (o2 + 2))) k2 (o2 + 3))) k (o + 4) ((up (up (up (up x k o (x k2 o2)) k (o + 1) ((up x k o (x k2 o2)) k2 (o2 + 1))) k (o + 2) ((up (up x k o (x k2 o2)) k (o + 1) ((up x k o (x k2 o2)) k2 (o2 + 1))) k2 (o2 + 2))) k (o + 3) ((up (up (up x k o (x k2 o2)) k (o + 1) ((up x k o (x k2 o2)) k2 (o2 + 1))) k (o + 2) ((up (up x k o (x k2 o2)) k (o + 1) ((up x k o (x k2 o2)) k2 (o2 + 1))) k2 (o2 + 2))) k2 (o2 + 3))) k2 (o2 + 4))) k2 (o2 + 5))) = cpS x k o k2 o2 6 := by
  simp only [up_b _ _ _ h]
  rw [cpS_1]
  rw [cpS_up h]
  rw [cpS_up h]
  rw [cpS_up h]
  rw [cpS_up h]
  rw [cpS_up h]

abbrev rm_X1_copyFrom : Room := { frames := 1, cells := 0, slots := 0, locals := 21 }
set_option maxHeartbeats 4000000 in
set_option maxRecDepth 100000 in
theorem c_X1_copyFrom {l : Launch} {D : va_G} {cy : Nat → ClassId} {ad : Ads} (hI : IJ ad) (x : Mem) {k d k2 d2 : Nat} (hk : k < 8) (hd3 : d < 3) (hkd : k = 7 → d = 0) (hk2 : k2 < 8) (hd2 : d2 < 3) (hkd2 : k2 = 7 → d2 = 0) (hkk : k2 ≠ k) (hfl : ∀ q, q < 4 → isFlag (x k2 (36 + 22 * d2 + 4 * q))) (hfo : isFlag (x k2 (30 + 22 * d2))) : Ctv l yX1_copyFrom cX1_copyFrom 3 none rm_X1_copyFrom D cy ad [.ref (ad k 4 d), .ref (ad k2 4 d2)] x (fun y => y = cpS x k (30 + 22 * d) k2 (30 + 22 * d2) 22) := by
  refine rm_entry (Qc := Qv D cy ad (fun y => y = cpS x k (30 + 22 * d) k2 (30 + 22 * d2) 22)) hI (by decide) (Nat.le_of_ble_eq_true rfl) ?_
  intro p e s m args below meth c hc
  show RM _ _ _ _ _ _ _ _ _ _ _ _ _ _ _ _ _ [(0, .ref (ad k 4 d)), (1, .ref (ad k2 4 d2))] []
  refine rm_iconst (v := 0) hc dX1_copyFrom_0 (by decide) ?_
  refine rm_istore_n (ls' := [(0, .ref (ad k 4 d)), (1, .ref (ad k2 4 d2)), (2, .int 0)]) hc dX1_copyFrom_1 rfl (by decide) rfl ?_
  refine rm_iload_n hc dX1_copyFrom_2 rfl rfl ?_
  refine rm_iconst (v := 4) hc dX1_copyFrom_3 (by decide) ?_
  refine rm_icmp_ge (tgt := 28) hc dX1_copyFrom_4 (by decide) (fun h => absurd h (by decide)) (fun _ => ?_)
  refine rm_aload_n hc dX1_copyFrom_7 rfl rfl ?_
  refine rm_get hc dX1_copyFrom_8 fl_X1_11 (dm_4 (by omega) (by omega) (by omega)) rfl rfl ?_
  refine rm_iload_n hc dX1_copyFrom_11 rfl rfl ?_
  refine rm_aald (t0 := 3) (i := 0) (v := .ref (ad k (d + 20) 0)) hc dX1_copyFrom_12 (dm_5 (by omega) (by omega) (by omega)) rfl rfl (by omega) (by decide) rfl rfl ?_
  refine rm_aload_n hc dX1_copyFrom_13 rfl rfl ?_
  refine rm_get hc dX1_copyFrom_14 fl_X1_11 (dm_4 (by omega) (by omega) (by omega)) rfl rfl ?_
  refine rm_iload_n hc dX1_copyFrom_17 rfl rfl ?_
  refine rm_aald (t0 := 3) (i := 0) (v := .ref (ad k2 (d2 + 20) 0)) hc dX1_copyFrom_18 (dm_5 (by omega) (by omega) (by omega)) rfl rfl (by omega) (by decide) rfl rfl ?_
  refine rm_callvV (As := [.ref (ad k2 (d2 + 20) 0)]) (rest := []) hc dX1_copyFrom_19 (c_X5_copyFrom hI x (k := k) (d := d) (s0 := 0) (k2 := k2) (d2 := d2) (by omega) (by omega) (by omega) (by omega) (by omega) (by omega) (by omega) hkk (by subst_vars; first | exact hfl _ (by omega) | (simp only [cpS_b hkk]; exact hfl _ (by omega)))) mv_X1_18 (dm_s (d := d) (by omega) (by omega) (by omega) (by omega)) rfl rfl (hn := rfl) (hst := rfl) (hw := Nat.le_of_ble_eq_true rfl) (hR := ⟨⟨rfl, rfl⟩, Nat.le_of_ble_eq_true rfl, Nat.le_of_ble_eq_true rfl⟩) (hnc := ⟨Nat.zero_le _, Nat.zero_le _⟩) (fun y2 h2 => ?_)
  refine rm_iinc (v := 1) (ls' := [(0, .ref (ad k 4 d)), (1, .ref (ad k2 4 d2)), (2, .int 1)]) hc dX1_copyFrom_22 rfl (by decide) (by decide) rfl ?_
  refine rm_goto (tgt := 2) hc dX1_copyFrom_25 (by decide) ?_
  refine rm_iload_n hc dX1_copyFrom_2 rfl rfl ?_
  refine rm_iconst (v := 4) hc dX1_copyFrom_3 (by decide) ?_
  refine rm_icmp_ge (tgt := 28) hc dX1_copyFrom_4 (by decide) (fun h => absurd h (by decide)) (fun _ => ?_)
  refine rm_aload_n hc dX1_copyFrom_7 rfl rfl ?_
  refine rm_get hc dX1_copyFrom_8 fl_X1_11 (dm_4 (by omega) (by omega) (by omega)) rfl rfl ?_
  refine rm_iload_n hc dX1_copyFrom_11 rfl rfl ?_
  refine rm_aald (t0 := 3) (i := 1) (v := .ref (ad k (d + 20) 1)) hc dX1_copyFrom_12 (dm_5 (by omega) (by omega) (by omega)) rfl rfl (by omega) (by decide) rfl rfl ?_
  refine rm_aload_n hc dX1_copyFrom_13 rfl rfl ?_
  refine rm_get hc dX1_copyFrom_14 fl_X1_11 (dm_4 (by omega) (by omega) (by omega)) rfl rfl ?_
  refine rm_iload_n hc dX1_copyFrom_17 rfl rfl ?_
  refine rm_aald (t0 := 3) (i := 1) (v := .ref (ad k2 (d2 + 20) 1)) hc dX1_copyFrom_18 (dm_5 (by omega) (by omega) (by omega)) rfl rfl (by omega) (by decide) rfl rfl ?_
  refine rm_callvV (As := [.ref (ad k2 (d2 + 20) 1)]) (rest := []) hc dX1_copyFrom_19 (c_X5_copyFrom hI y2 (k := k) (d := d) (s0 := 1) (k2 := k2) (d2 := d2) (by omega) (by omega) (by omega) (by omega) (by omega) (by omega) (by omega) hkk (by subst_vars; first | exact hfl _ (by omega) | (simp only [cpS_b hkk]; exact hfl _ (by omega)))) mv_X1_18 (dm_s (d := d) (by omega) (by omega) (by omega) (by omega)) rfl rfl (hn := rfl) (hst := rfl) (hw := Nat.le_of_ble_eq_true rfl) (hR := ⟨⟨rfl, rfl⟩, Nat.le_of_ble_eq_true rfl, Nat.le_of_ble_eq_true rfl⟩) (hnc := ⟨Nat.zero_le _, Nat.zero_le _⟩) (fun y4 h4 => ?_)
  refine rm_iinc (v := 2) (ls' := [(0, .ref (ad k 4 d)), (1, .ref (ad k2 4 d2)), (2, .int 2)]) hc dX1_copyFrom_22 rfl (by decide) (by decide) rfl ?_
  refine rm_goto (tgt := 2) hc dX1_copyFrom_25 (by decide) ?_
  refine rm_iload_n hc dX1_copyFrom_2 rfl rfl ?_
  refine rm_iconst (v := 4) hc dX1_copyFrom_3 (by decide) ?_
  refine rm_icmp_ge (tgt := 28) hc dX1_copyFrom_4 (by decide) (fun h => absurd h (by decide)) (fun _ => ?_)
  refine rm_aload_n hc dX1_copyFrom_7 rfl rfl ?_
  refine rm_get hc dX1_copyFrom_8 fl_X1_11 (dm_4 (by omega) (by omega) (by omega)) rfl rfl ?_
  refine rm_iload_n hc dX1_copyFrom_11 rfl rfl ?_
  refine rm_aald (t0 := 3) (i := 2) (v := .ref (ad k (d + 20) 2)) hc dX1_copyFrom_12 (dm_5 (by omega) (by omega) (by omega)) rfl rfl (by omega) (by decide) rfl rfl ?_
  refine rm_aload_n hc dX1_copyFrom_13 rfl rfl ?_
  refine rm_get hc dX1_copyFrom_14 fl_X1_11 (dm_4 (by omega) (by omega) (by omega)) rfl rfl ?_
  refine rm_iload_n hc dX1_copyFrom_17 rfl rfl ?_
  refine rm_aald (t0 := 3) (i := 2) (v := .ref (ad k2 (d2 + 20) 2)) hc dX1_copyFrom_18 (dm_5 (by omega) (by omega) (by omega)) rfl rfl (by omega) (by decide) rfl rfl ?_
  refine rm_callvV (As := [.ref (ad k2 (d2 + 20) 2)]) (rest := []) hc dX1_copyFrom_19 (c_X5_copyFrom hI y4 (k := k) (d := d) (s0 := 2) (k2 := k2) (d2 := d2) (by omega) (by omega) (by omega) (by omega) (by omega) (by omega) (by omega) hkk (by subst_vars; first | exact hfl _ (by omega) | (simp only [cpS_b hkk]; exact hfl _ (by omega)))) mv_X1_18 (dm_s (d := d) (by omega) (by omega) (by omega) (by omega)) rfl rfl (hn := rfl) (hst := rfl) (hw := Nat.le_of_ble_eq_true rfl) (hR := ⟨⟨rfl, rfl⟩, Nat.le_of_ble_eq_true rfl, Nat.le_of_ble_eq_true rfl⟩) (hnc := ⟨Nat.zero_le _, Nat.zero_le _⟩) (fun y6 h6 => ?_)
  refine rm_iinc (v := 3) (ls' := [(0, .ref (ad k 4 d)), (1, .ref (ad k2 4 d2)), (2, .int 3)]) hc dX1_copyFrom_22 rfl (by decide) (by decide) rfl ?_
  refine rm_goto (tgt := 2) hc dX1_copyFrom_25 (by decide) ?_
  refine rm_iload_n hc dX1_copyFrom_2 rfl rfl ?_
  refine rm_iconst (v := 4) hc dX1_copyFrom_3 (by decide) ?_
  refine rm_icmp_ge (tgt := 28) hc dX1_copyFrom_4 (by decide) (fun h => absurd h (by decide)) (fun _ => ?_)
  refine rm_aload_n hc dX1_copyFrom_7 rfl rfl ?_
  refine rm_get hc dX1_copyFrom_8 fl_X1_11 (dm_4 (by omega) (by omega) (by omega)) rfl rfl ?_
  refine rm_iload_n hc dX1_copyFrom_11 rfl rfl ?_
  refine rm_aald (t0 := 3) (i := 3) (v := .ref (ad k (d + 20) 3)) hc dX1_copyFrom_12 (dm_5 (by omega) (by omega) (by omega)) rfl rfl (by omega) (by decide) rfl rfl ?_
  refine rm_aload_n hc dX1_copyFrom_13 rfl rfl ?_
  refine rm_get hc dX1_copyFrom_14 fl_X1_11 (dm_4 (by omega) (by omega) (by omega)) rfl rfl ?_
  refine rm_iload_n hc dX1_copyFrom_17 rfl rfl ?_
  refine rm_aald (t0 := 3) (i := 3) (v := .ref (ad k2 (d2 + 20) 3)) hc dX1_copyFrom_18 (dm_5 (by omega) (by omega) (by omega)) rfl rfl (by omega) (by decide) rfl rfl ?_
  refine rm_callvV (As := [.ref (ad k2 (d2 + 20) 3)]) (rest := []) hc dX1_copyFrom_19 (c_X5_copyFrom hI y6 (k := k) (d := d) (s0 := 3) (k2 := k2) (d2 := d2) (by omega) (by omega) (by omega) (by omega) (by omega) (by omega) (by omega) hkk (by subst_vars; first | exact hfl _ (by omega) | (simp only [cpS_b hkk]; exact hfl _ (by omega)))) mv_X1_18 (dm_s (d := d) (by omega) (by omega) (by omega) (by omega)) rfl rfl (hn := rfl) (hst := rfl) (hw := Nat.le_of_ble_eq_true rfl) (hR := ⟨⟨rfl, rfl⟩, Nat.le_of_ble_eq_true rfl, Nat.le_of_ble_eq_true rfl⟩) (hnc := ⟨Nat.zero_le _, Nat.zero_le _⟩) (fun y8 h8 => ?_)
  refine rm_iinc (v := 4) (ls' := [(0, .ref (ad k 4 d)), (1, .ref (ad k2 4 d2)), (2, .int 4)]) hc dX1_copyFrom_22 rfl (by decide) (by decide) rfl ?_
  refine rm_goto (tgt := 2) hc dX1_copyFrom_25 (by decide) ?_
  refine rm_iload_n hc dX1_copyFrom_2 rfl rfl ?_
  refine rm_iconst (v := 4) hc dX1_copyFrom_3 (by decide) ?_
  refine rm_icmp_ge (tgt := 28) hc dX1_copyFrom_4 (by decide) (fun _ => ?_) (fun h => absurd (by decide) h)
  refine rm_aload_n hc dX1_copyFrom_28 rfl rfl ?_
  refine rm_aload_n hc dX1_copyFrom_29 rfl rfl ?_
  refine rm_geti hc dX1_copyFrom_30 fl_X1_22 (dm_4 (by omega) (by omega) (by omega)) rfl rfl (fun v10 e10 => ?_)
  refine rm_put hc dX1_copyFrom_33 fl_X1_22 (dm_4 (by omega) (by omega) (by omega)) rfl (Nat.le_of_ble_eq_true rfl) ft_1_1 (nrb (by subst_vars; simp only [cpS_b hkk]; exact hfo)) (ftb (by subst_vars; simp only [cpS_b hkk]; exact hfo)) (so_4_1 (by omega) (by omega)) (rm_nm (fun x11 ex11 => ?_))
  refine rm_aload_n hc dX1_copyFrom_36 rfl rfl ?_
  refine rm_aload_n hc dX1_copyFrom_37 rfl rfl ?_
  refine rm_geti hc dX1_copyFrom_38 fl_X1_26 (dm_4 (by omega) (by omega) (by omega)) rfl rfl (fun v12 e12 => ?_)
  refine rm_put hc dX1_copyFrom_41 fl_X1_26 (dm_4 (by omega) (by omega) (by omega)) rfl (Nat.le_of_ble_eq_true rfl) ft_1_2 rfl rfl (so_4_2 (by omega) (by omega)) (rm_nm (fun x13 ex13 => ?_))
  refine rm_aload_n hc dX1_copyFrom_44 rfl rfl ?_
  refine rm_aload_n hc dX1_copyFrom_45 rfl rfl ?_
  refine rm_geti hc dX1_copyFrom_46 fl_X1_30 (dm_4 (by omega) (by omega) (by omega)) rfl rfl (fun v14 e14 => ?_)
  refine rm_put hc dX1_copyFrom_49 fl_X1_30 (dm_4 (by omega) (by omega) (by omega)) rfl (Nat.le_of_ble_eq_true rfl) ft_1_3 rfl rfl (so_4_3 (by omega) (by omega)) (rm_nm (fun x15 ex15 => ?_))
  refine rm_aload_n hc dX1_copyFrom_52 rfl rfl ?_
  refine rm_aload_n hc dX1_copyFrom_53 rfl rfl ?_
  refine rm_geti hc dX1_copyFrom_54 fl_X1_33 (dm_4 (by omega) (by omega) (by omega)) rfl rfl (fun v16 e16 => ?_)
  refine rm_put hc dX1_copyFrom_57 fl_X1_33 (dm_4 (by omega) (by omega) (by omega)) rfl (Nat.le_of_ble_eq_true rfl) ft_1_4 rfl rfl (so_4_4 (by omega) (by omega)) (rm_nm (fun x17 ex17 => ?_))
  refine rm_aload_n hc dX1_copyFrom_60 rfl rfl ?_
  refine rm_aload_n hc dX1_copyFrom_61 rfl rfl ?_
  refine rm_geti hc dX1_copyFrom_62 fl_X1_36 (dm_4 (by omega) (by omega) (by omega)) rfl rfl (fun v18 e18 => ?_)
  refine rm_put hc dX1_copyFrom_65 fl_X1_36 (dm_4 (by omega) (by omega) (by omega)) rfl (Nat.le_of_ble_eq_true rfl) ft_1_5 rfl rfl (so_4_5 (by omega) (by omega)) (rm_nm (fun x19 ex19 => ?_))
  refine rm_aload_n hc dX1_copyFrom_68 rfl rfl ?_
  refine rm_aload_n hc dX1_copyFrom_69 rfl rfl ?_
  refine rm_geti hc dX1_copyFrom_70 fl_X1_39 (dm_4 (by omega) (by omega) (by omega)) rfl rfl (fun v20 e20 => ?_)
  refine rm_put hc dX1_copyFrom_73 fl_X1_39 (dm_4 (by omega) (by omega) (by omega)) rfl (Nat.le_of_ble_eq_true rfl) ft_1_6 rfl rfl (so_4_6 (by omega) (by omega)) (rm_nm (fun x21 ex21 => ?_))
  exact rm_vret hc dX1_copyFrom_76 (by subst_vars; rw [show 31 + 22 * d = 30 + 22 * d + 1 by omega, show 32 + 22 * d = 30 + 22 * d + 2 by omega, show 33 + 22 * d = 30 + 22 * d + 3 by omega, show 34 + 22 * d = 30 + 22 * d + 4 by omega, show 35 + 22 * d = 30 + 22 * d + 5 by omega, show 36 + 22 * d + 4 * 0 = 30 + 22 * d + 6 by omega, show 36 + 22 * d + 4 * 1 = 30 + 22 * d + 10 by omega, show 36 + 22 * d + 4 * 2 = 30 + 22 * d + 14 by omega, show 36 + 22 * d + 4 * 3 = 30 + 22 * d + 18 by omega, show 31 + 22 * d2 = 30 + 22 * d2 + 1 by omega, show 32 + 22 * d2 = 30 + 22 * d2 + 2 by omega, show 33 + 22 * d2 = 30 + 22 * d2 + 3 by omega, show 34 + 22 * d2 = 30 + 22 * d2 + 4 by omega, show 35 + 22 * d2 = 30 + 22 * d2 + 5 by omega, show 36 + 22 * d2 + 4 * 0 = 30 + 22 * d2 + 6 by omega, show 36 + 22 * d2 + 4 * 1 = 30 + 22 * d2 + 10 by omega, show 36 + 22 * d2 + 4 * 2 = 30 + 22 * d2 + 14 by omega, show 36 + 22 * d2 + 4 * 3 = 30 + 22 * d2 + 18 by omega, cpn_6 hkk, cpDoor hkk])

abbrev rm_X1_learntSlots : Room := { frames := 1, cells := 0, slots := 0, locals := 21 }
set_option maxHeartbeats 4000000 in
set_option maxRecDepth 100000 in
theorem c_X1_learntSlots {l : Launch} {D : va_G} {cy : Nat → ClassId} {ad : Ads} (hI : IJ ad) (x : Mem) {k d : Nat} (hk : k < 8) (hd3 : d < 3) (hkd : k = 7 → d = 0) : Cti l yX1_learntSlots cX1_learntSlots 6 (some .int) rm_X1_learntSlots D cy ad [.ref (ad k 4 d)] x (fun r y => r = lrnD x k d ∧ y = x) := by
  refine rm_entry (Qc := Qi D cy ad (fun r y => r = lrnD x k d ∧ y = x)) hI (by decide) (Nat.le_of_ble_eq_true rfl) ?_
  intro p e s m args below meth c hc
  show RM _ _ _ _ _ _ _ _ _ _ _ _ _ _ _ _ _ [(0, .ref (ad k 4 d))] []
  refine rm_iconst (v := 0) hc dX1_learntSlots_0 (by decide) ?_
  refine rm_istore_n (ls' := [(0, .ref (ad k 4 d)), (1, .int 0)]) hc dX1_learntSlots_1 rfl (by decide) rfl ?_
  refine rm_aload_n hc dX1_learntSlots_2 rfl rfl ?_
  refine rm_get hc dX1_learntSlots_3 fl_X1_11 (dm_4 (by omega) (by omega) (by omega)) rfl rfl ?_
  refine rm_astore_n (ls' := [(0, .ref (ad k 4 d)), (1, .int 0), (2, .ref (ad k 5 d))]) hc dX1_learntSlots_6 rfl (by decide) rfl ?_
  refine rm_aload_n hc dX1_learntSlots_7 rfl rfl ?_
  refine rm_alen (n := 0) (t0 := 3) (v := 4) hc dX1_learntSlots_8 (dm_5 (by omega) (by omega) (by omega)) rfl rfl rfl ?_
  refine rm_istore_n (ls' := [(0, .ref (ad k 4 d)), (1, .int 0), (2, .ref (ad k 5 d)), (3, .int 4)]) hc dX1_learntSlots_9 rfl (by decide) rfl ?_
  refine rm_iconst (v := 0) hc dX1_learntSlots_10 (by decide) ?_
  refine rm_istore (ls' := [(0, .ref (ad k 4 d)), (1, .int 0), (2, .ref (ad k 5 d)), (3, .int 4), (4, .int 0)]) hc dX1_learntSlots_11 (by decide) rfl ?_
  refine rm_iload hc dX1_learntSlots_13 rfl ?_
  refine rm_iload_n hc dX1_learntSlots_15 rfl rfl ?_
  refine rm_icmp_ge (tgt := 40) hc dX1_learntSlots_16 (by decide) (fun h => absurd h (by decide)) (fun _ => ?_)
  refine rm_aload_n hc dX1_learntSlots_19 rfl rfl ?_
  refine rm_iload hc dX1_learntSlots_20 rfl ?_
  refine rm_aald (t0 := 3) (i := 0) (v := .ref (ad k (d + 20) 0)) hc dX1_learntSlots_22 (dm_5 (by omega) (by omega) (by omega)) rfl rfl (by omega) (by decide) rfl rfl ?_
  refine rm_astore (ls' := [(0, .ref (ad k 4 d)), (1, .int 0), (2, .ref (ad k 5 d)), (3, .int 4), (4, .int 0), (5, .ref (ad k (d + 20) 0))]) hc dX1_learntSlots_23 (by decide) rfl ?_
  refine rm_iload_n hc dX1_learntSlots_25 rfl rfl ?_
  refine rm_aload hc dX1_learntSlots_26 rfl ?_
  refine rm_iconst (v := 0) hc dX1_learntSlots_28 (by decide) ?_
  refine rm_calliV (As := [.int 0]) (rest := [.int 0]) hc dX1_learntSlots_29 (c_X5_look hI x (k := k) (d := d) (s0 := 0) (by omega) (by omega) (by omega) (by omega) 0) mv_X1_47 (dm_s (d := d) (by omega) (by omega) (by omega) (by omega)) rfl rfl (hn := rfl) (hst := rfl) (hw := Nat.le_of_ble_eq_true rfl) (hR := ⟨⟨rfl, rfl⟩, Nat.le_of_ble_eq_true rfl, Nat.le_of_ble_eq_true rfl⟩) (hnc := ⟨Nat.zero_le _, Nat.zero_le _⟩) (fun r2 y2 h2 => ?_)
  obtain ⟨e2, ey2⟩ := h2
  obtain rfl := ey2.symm
  refine rm_iadd hc dX1_learntSlots_32 (fun v3 e3 => ?_)
  refine rm_istore_n (ls' := [(0, .ref (ad k 4 d)), (1, .int v3), (2, .ref (ad k 5 d)), (3, .int 4), (4, .int 0), (5, .ref (ad k (d + 20) 0))]) hc dX1_learntSlots_33 rfl (by decide) rfl ?_
  refine rm_iinc (v := 1) (ls' := [(0, .ref (ad k 4 d)), (1, .int v3), (2, .ref (ad k 5 d)), (3, .int 4), (4, .int 1), (5, .ref (ad k (d + 20) 0))]) hc dX1_learntSlots_34 rfl (by decide) (by decide) rfl ?_
  refine rm_goto (tgt := 13) hc dX1_learntSlots_37 (by decide) ?_
  refine rm_iload hc dX1_learntSlots_13 rfl ?_
  refine rm_iload_n hc dX1_learntSlots_15 rfl rfl ?_
  refine rm_icmp_ge (tgt := 40) hc dX1_learntSlots_16 (by decide) (fun h => absurd h (by decide)) (fun _ => ?_)
  refine rm_aload_n hc dX1_learntSlots_19 rfl rfl ?_
  refine rm_iload hc dX1_learntSlots_20 rfl ?_
  refine rm_aald (t0 := 3) (i := 1) (v := .ref (ad k (d + 20) 1)) hc dX1_learntSlots_22 (dm_5 (by omega) (by omega) (by omega)) rfl rfl (by omega) (by decide) rfl rfl ?_
  refine rm_astore (ls' := [(0, .ref (ad k 4 d)), (1, .int v3), (2, .ref (ad k 5 d)), (3, .int 4), (4, .int 1), (5, .ref (ad k (d + 20) 1))]) hc dX1_learntSlots_23 (by decide) rfl ?_
  refine rm_iload_n hc dX1_learntSlots_25 rfl rfl ?_
  refine rm_aload hc dX1_learntSlots_26 rfl ?_
  refine rm_iconst (v := 0) hc dX1_learntSlots_28 (by decide) ?_
  refine rm_calliV (As := [.int 0]) (rest := [.int v3]) hc dX1_learntSlots_29 (c_X5_look hI x (k := k) (d := d) (s0 := 1) (by omega) (by omega) (by omega) (by omega) 0) mv_X1_47 (dm_s (d := d) (by omega) (by omega) (by omega) (by omega)) rfl rfl (hn := rfl) (hst := rfl) (hw := Nat.le_of_ble_eq_true rfl) (hR := ⟨⟨rfl, rfl⟩, Nat.le_of_ble_eq_true rfl, Nat.le_of_ble_eq_true rfl⟩) (hnc := ⟨Nat.zero_le _, Nat.zero_le _⟩) (fun r5 y5 h5 => ?_)
  obtain ⟨e5, ey5⟩ := h5
  obtain rfl := ey5.symm
  refine rm_iadd hc dX1_learntSlots_32 (fun v6 e6 => ?_)
  refine rm_istore_n (ls' := [(0, .ref (ad k 4 d)), (1, .int v6), (2, .ref (ad k 5 d)), (3, .int 4), (4, .int 1), (5, .ref (ad k (d + 20) 1))]) hc dX1_learntSlots_33 rfl (by decide) rfl ?_
  refine rm_iinc (v := 2) (ls' := [(0, .ref (ad k 4 d)), (1, .int v6), (2, .ref (ad k 5 d)), (3, .int 4), (4, .int 2), (5, .ref (ad k (d + 20) 1))]) hc dX1_learntSlots_34 rfl (by decide) (by decide) rfl ?_
  refine rm_goto (tgt := 13) hc dX1_learntSlots_37 (by decide) ?_
  refine rm_iload hc dX1_learntSlots_13 rfl ?_
  refine rm_iload_n hc dX1_learntSlots_15 rfl rfl ?_
  refine rm_icmp_ge (tgt := 40) hc dX1_learntSlots_16 (by decide) (fun h => absurd h (by decide)) (fun _ => ?_)
  refine rm_aload_n hc dX1_learntSlots_19 rfl rfl ?_
  refine rm_iload hc dX1_learntSlots_20 rfl ?_
  refine rm_aald (t0 := 3) (i := 2) (v := .ref (ad k (d + 20) 2)) hc dX1_learntSlots_22 (dm_5 (by omega) (by omega) (by omega)) rfl rfl (by omega) (by decide) rfl rfl ?_
  refine rm_astore (ls' := [(0, .ref (ad k 4 d)), (1, .int v6), (2, .ref (ad k 5 d)), (3, .int 4), (4, .int 2), (5, .ref (ad k (d + 20) 2))]) hc dX1_learntSlots_23 (by decide) rfl ?_
  refine rm_iload_n hc dX1_learntSlots_25 rfl rfl ?_
  refine rm_aload hc dX1_learntSlots_26 rfl ?_
  refine rm_iconst (v := 0) hc dX1_learntSlots_28 (by decide) ?_
  refine rm_calliV (As := [.int 0]) (rest := [.int v6]) hc dX1_learntSlots_29 (c_X5_look hI x (k := k) (d := d) (s0 := 2) (by omega) (by omega) (by omega) (by omega) 0) mv_X1_47 (dm_s (d := d) (by omega) (by omega) (by omega) (by omega)) rfl rfl (hn := rfl) (hst := rfl) (hw := Nat.le_of_ble_eq_true rfl) (hR := ⟨⟨rfl, rfl⟩, Nat.le_of_ble_eq_true rfl, Nat.le_of_ble_eq_true rfl⟩) (hnc := ⟨Nat.zero_le _, Nat.zero_le _⟩) (fun r8 y8 h8 => ?_)
  obtain ⟨e8, ey8⟩ := h8
  obtain rfl := ey8.symm
  refine rm_iadd hc dX1_learntSlots_32 (fun v9 e9 => ?_)
  refine rm_istore_n (ls' := [(0, .ref (ad k 4 d)), (1, .int v9), (2, .ref (ad k 5 d)), (3, .int 4), (4, .int 2), (5, .ref (ad k (d + 20) 2))]) hc dX1_learntSlots_33 rfl (by decide) rfl ?_
  refine rm_iinc (v := 3) (ls' := [(0, .ref (ad k 4 d)), (1, .int v9), (2, .ref (ad k 5 d)), (3, .int 4), (4, .int 3), (5, .ref (ad k (d + 20) 2))]) hc dX1_learntSlots_34 rfl (by decide) (by decide) rfl ?_
  refine rm_goto (tgt := 13) hc dX1_learntSlots_37 (by decide) ?_
  refine rm_iload hc dX1_learntSlots_13 rfl ?_
  refine rm_iload_n hc dX1_learntSlots_15 rfl rfl ?_
  refine rm_icmp_ge (tgt := 40) hc dX1_learntSlots_16 (by decide) (fun h => absurd h (by decide)) (fun _ => ?_)
  refine rm_aload_n hc dX1_learntSlots_19 rfl rfl ?_
  refine rm_iload hc dX1_learntSlots_20 rfl ?_
  refine rm_aald (t0 := 3) (i := 3) (v := .ref (ad k (d + 20) 3)) hc dX1_learntSlots_22 (dm_5 (by omega) (by omega) (by omega)) rfl rfl (by omega) (by decide) rfl rfl ?_
  refine rm_astore (ls' := [(0, .ref (ad k 4 d)), (1, .int v9), (2, .ref (ad k 5 d)), (3, .int 4), (4, .int 3), (5, .ref (ad k (d + 20) 3))]) hc dX1_learntSlots_23 (by decide) rfl ?_
  refine rm_iload_n hc dX1_learntSlots_25 rfl rfl ?_
  refine rm_aload hc dX1_learntSlots_26 rfl ?_
  refine rm_iconst (v := 0) hc dX1_learntSlots_28 (by decide) ?_
  refine rm_calliV (As := [.int 0]) (rest := [.int v9]) hc dX1_learntSlots_29 (c_X5_look hI x (k := k) (d := d) (s0 := 3) (by omega) (by omega) (by omega) (by omega) 0) mv_X1_47 (dm_s (d := d) (by omega) (by omega) (by omega) (by omega)) rfl rfl (hn := rfl) (hst := rfl) (hw := Nat.le_of_ble_eq_true rfl) (hR := ⟨⟨rfl, rfl⟩, Nat.le_of_ble_eq_true rfl, Nat.le_of_ble_eq_true rfl⟩) (hnc := ⟨Nat.zero_le _, Nat.zero_le _⟩) (fun r11 y11 h11 => ?_)
  obtain ⟨e11, ey11⟩ := h11
  obtain rfl := ey11.symm
  refine rm_iadd hc dX1_learntSlots_32 (fun v12 e12 => ?_)
  refine rm_istore_n (ls' := [(0, .ref (ad k 4 d)), (1, .int v12), (2, .ref (ad k 5 d)), (3, .int 4), (4, .int 3), (5, .ref (ad k (d + 20) 3))]) hc dX1_learntSlots_33 rfl (by decide) rfl ?_
  refine rm_iinc (v := 4) (ls' := [(0, .ref (ad k 4 d)), (1, .int v12), (2, .ref (ad k 5 d)), (3, .int 4), (4, .int 4), (5, .ref (ad k (d + 20) 3))]) hc dX1_learntSlots_34 rfl (by decide) (by decide) rfl ?_
  refine rm_goto (tgt := 13) hc dX1_learntSlots_37 (by decide) ?_
  refine rm_iload hc dX1_learntSlots_13 rfl ?_
  refine rm_iload_n hc dX1_learntSlots_15 rfl rfl ?_
  refine rm_icmp_ge (tgt := 40) hc dX1_learntSlots_16 (by decide) (fun _ => ?_) (fun h => absurd (by decide) h)
  refine rm_iload_n hc dX1_learntSlots_40 rfl rfl ?_
  exact rm_iret hc dX1_learntSlots_41 ⟨by subst_vars; rfl, rfl⟩

abbrev rm_X1_look : Room := { frames := 2, cells := 0, slots := 0, locals := 46 }
set_option maxHeartbeats 4000000 in
set_option maxRecDepth 100000 in
theorem c_X1_look {l : Launch} {D : va_G} {cy : Nat → ClassId} {ad : Ads} (hI : IJ ad) (x : Mem) {k d k2 : Nat} (hk : k < 8) (hd3 : d < 3) (hkd : k = 7 → d = 0) (hk2 : k2 < 7) (w : Int32) : Cti l yX1_look cX1_look 3 (some .int) rm_X1_look D cy ad [.ref (ad k 4 d), .int w, .ref (ad k2 8 0)] x (fun r y => r = lookDoor x k d (x k2 2) w ∧ y = x) := by
  refine rm_entry (Qc := Qi D cy ad (fun r y => r = lookDoor x k d (x k2 2) w ∧ y = x)) hI (by decide) (Nat.le_of_ble_eq_true rfl) ?_
  intro p e s m args below meth c hc
  show RM _ _ _ _ _ _ _ _ _ _ _ _ _ _ _ _ _ [(0, .ref (ad k 4 d)), (1, .int w), (2, .ref (ad k2 8 0))] []
  refine rm_iload_n hc dX1_look_0 rfl rfl ?_
  by_cases z1 : w = 0
  · --case 0
    subst z1
    refine rm_tin (off := 47) (tgt := 48) hc dX1_look_1 (by decide) (by decide) (by decide) (by decide) ?_
    refine rm_aload_n hc dX1_look_48 rfl rfl ?_
    refine rm_geti hc dX1_look_49 fl_X1_22 (dm_4 (by omega) (by omega) (by omega)) rfl rfl (fun v2 e2 => ?_)
    refine rm_if_eq (tgt := 59) hc dX1_look_52 (by decide) (fun c3 => ?_) (fun c3 => ?_)
    · --T
      refine rm_iconst (v := 0) hc dX1_look_59 (by decide) ?_
      exact rm_iret hc dX1_look_60 ⟨by subst_vars; simp [lookDoor, *], rfl⟩
    · --F
      refine rm_iconst (v := 1) hc dX1_look_55 (by decide) ?_
      refine rm_goto (tgt := 60) hc dX1_look_56 (by decide) ?_
      exact rm_iret hc dX1_look_60 ⟨by subst_vars; simp [lookDoor, *], rfl⟩
  by_cases z4 : w = 1
  · --case 1
    subst z4
    refine rm_tin (off := 60) (tgt := 61) hc dX1_look_1 (by decide) (by decide) (by decide) (by decide) ?_
    refine rm_aload_n hc dX1_look_61 rfl rfl ?_
    refine rm_geti hc dX1_look_62 fl_X1_26 (dm_4 (by omega) (by omega) (by omega)) rfl rfl (fun v5 e5 => ?_)
    exact rm_iret hc dX1_look_65 ⟨by subst_vars; simp [lookDoor, *], rfl⟩
  by_cases z6 : w = 2
  · --case 2
    subst z6
    refine rm_tin (off := 65) (tgt := 66) hc dX1_look_1 (by decide) (by decide) (by decide) (by decide) ?_
    refine rm_aload_n hc dX1_look_66 rfl rfl ?_
    refine rm_aload_n hc dX1_look_67 rfl rfl ?_
    refine rm_calliV (As := [.ref (ad k2 8 0)]) (rest := []) hc dX1_look_68 (c_X1_isLocked hI x (k := k) (d := d) (k2 := k2) (by omega) (by omega) (by omega) (by omega)) mv_X1_51 (dm_4 (by omega) (by omega) (by omega)) rfl rfl (hn := rfl) (hst := rfl) (hw := Nat.le_of_ble_eq_true rfl) (hR := ⟨⟨rfl, rfl⟩, Nat.le_of_ble_eq_true rfl, Nat.le_of_ble_eq_true rfl⟩) (hnc := ⟨Nat.zero_le _, Nat.zero_le _⟩) (fun r7 y7 h7 => ?_)
    obtain ⟨e7, ey7⟩ := h7
    obtain rfl := ey7.symm
    refine rm_if_eq (tgt := 78) hc dX1_look_71 (by decide) (fun c8 => ?_) (fun c8 => ?_)
    · --T
      refine rm_iconst (v := 0) hc dX1_look_78 (by decide) ?_
      exact rm_iret hc dX1_look_79 ⟨by subst_vars; simp [lookDoor, *], rfl⟩
    · --F
      refine rm_iconst (v := 1) hc dX1_look_74 (by decide) ?_
      refine rm_goto (tgt := 79) hc dX1_look_75 (by decide) ?_
      exact rm_iret hc dX1_look_79 ⟨by subst_vars; simp [lookDoor, *], rfl⟩
  by_cases z9 : w = 3
  · --case 3
    subst z9
    refine rm_tin (off := 79) (tgt := 80) hc dX1_look_1 (by decide) (by decide) (by decide) (by decide) ?_
    refine rm_aload_n hc dX1_look_80 rfl rfl ?_
    refine rm_calliV (As := []) (rest := []) hc dX1_look_81 (c_X1_learntSlots hI x (k := k) (d := d) (by omega) (by omega) (by omega)) mv_X1_69 (dm_4 (by omega) (by omega) (by omega)) rfl rfl (hn := rfl) (hst := rfl) (hw := Nat.le_of_ble_eq_true rfl) (hR := ⟨⟨rfl, rfl⟩, Nat.le_of_ble_eq_true rfl, Nat.le_of_ble_eq_true rfl⟩) (hnc := ⟨Nat.zero_le _, Nat.zero_le _⟩) (fun r10 y10 h10 => ?_)
    obtain ⟨e10, ey10⟩ := h10
    obtain rfl := ey10.symm
    exact rm_iret hc dX1_look_84 ⟨by subst_vars; simp [lookDoor, *], rfl⟩
  by_cases z11 : w = 4
  · --case 4
    subst z11
    refine rm_tin (off := 84) (tgt := 85) hc dX1_look_1 (by decide) (by decide) (by decide) (by decide) ?_
    refine rm_aload_n hc dX1_look_85 rfl rfl ?_
    refine rm_geti hc dX1_look_86 fl_X1_30 (dm_4 (by omega) (by omega) (by omega)) rfl rfl (fun v12 e12 => ?_)
    exact rm_iret hc dX1_look_89 ⟨by subst_vars; simp [lookDoor, *], rfl⟩
  by_cases z13 : w = 5
  · --case 5
    subst z13
    refine rm_tin (off := 89) (tgt := 90) hc dX1_look_1 (by decide) (by decide) (by decide) (by decide) ?_
    refine rm_aload_n hc dX1_look_90 rfl rfl ?_
    refine rm_geti hc dX1_look_91 fl_X1_33 (dm_4 (by omega) (by omega) (by omega)) rfl rfl (fun v14 e14 => ?_)
    exact rm_iret hc dX1_look_94 ⟨by subst_vars; simp [lookDoor, *], rfl⟩
  by_cases z15 : w = 6
  · --case 6
    subst z15
    refine rm_tin (off := 94) (tgt := 95) hc dX1_look_1 (by decide) (by decide) (by decide) (by decide) ?_
    refine rm_aload_n hc dX1_look_95 rfl rfl ?_
    refine rm_geti hc dX1_look_96 fl_X1_36 (dm_4 (by omega) (by omega) (by omega)) rfl rfl (fun v16 e16 => ?_)
    exact rm_iret hc dX1_look_99 ⟨by subst_vars; simp [lookDoor, *], rfl⟩
  by_cases z17 : w = 7
  · --case 7
    subst z17
    refine rm_tin (off := 99) (tgt := 100) hc dX1_look_1 (by decide) (by decide) (by decide) (by decide) ?_
    refine rm_aload_n hc dX1_look_100 rfl rfl ?_
    refine rm_geti hc dX1_look_101 fl_X1_39 (dm_4 (by omega) (by omega) (by omega)) rfl rfl (fun v18 e18 => ?_)
    exact rm_iret hc dX1_look_104 ⟨by subst_vars; simp [lookDoor, *], rfl⟩
  refine rm_tout (tgt := 105) hc dX1_look_1 (by have z0 := lv_neT (k := 0) (a := 0) z1 (by decide); have z1 := lv_neT (k := 1) (a := 1) z4 (by decide); have z2 := lv_neT (k := 2) (a := 2) z6 (by decide); have z3 := lv_neT (k := 3) (a := 3) z9 (by decide); have z4 := lv_neT (k := 4) (a := 4) z11 (by decide); have z5 := lv_neT (k := 5) (a := 5) z13 (by decide); have z6 := lv_neT (k := 6) (a := 6) z15 (by decide); have z7 := lv_neT (k := 7) (a := 7) z17 (by decide); omega) (by decide) ?_
  refine rm_iconst (v := -1) hc dX1_look_105 (by decide) ?_
  exact rm_iret hc dX1_look_106 ⟨by subst_vars; simp [lookDoor, *], rfl⟩

abbrev rm_X1_hear : Room := { frames := 2, cells := 0, slots := 0, locals := 45 }
set_option maxHeartbeats 4000000 in
set_option maxRecDepth 100000 in
theorem c_X1_hear {l : Launch} {D : va_G} {cy : Nat → ClassId} {ad : Ads} (hI : IJ ad) (x : Mem) {k d k2 : Nat} (hk : k < 8) (hd3 : d < 3) (hkd : k = 7 → d = 0) (hk2 : k2 < 7) (num wv : Int32) (mm : Nat) (hmm : mm < 2 ^ 30) (hw : x k2 1 = nI mm) (ew : wv = x k2 0) : Cti l yX1_hear cX1_hear 8 (some .int) rm_X1_hear D cy ad [.ref (ad k 4 d), .int num, .ref (ad k2 8 0)] x (fun r y => r = hrR x k d k2 num mm ∧ y = hrM x k d k2 num mm) := by
  refine rm_entry (Qc := Qi D cy ad (fun r y => r = hrR x k d k2 num mm ∧ y = hrM x k d k2 num mm)) hI (by decide) (Nat.le_of_ble_eq_true rfl) ?_
  intro p e s m args below meth c hc
  show RM _ _ _ _ _ _ _ _ _ _ _ _ _ _ _ _ _ [(0, .ref (ad k 4 d)), (1, .int num), (2, .ref (ad k2 8 0))] []
  refine rm_aload_n hc dX1_hear_0 rfl rfl ?_
  refine rm_aload_n hc dX1_hear_1 rfl rfl ?_
  refine rm_calliV (As := [.ref (ad k2 8 0)]) (rest := []) hc dX1_hear_2 (c_X1_isLocked hI x (k := k) (d := d) (k2 := k2) (by omega) (by omega) (by omega) (by omega)) mv_X1_51 (dm_4 (by omega) (by omega) (by omega)) rfl rfl (hn := rfl) (hst := rfl) (hw := Nat.le_of_ble_eq_true rfl) (hR := ⟨⟨rfl, rfl⟩, Nat.le_of_ble_eq_true rfl, Nat.le_of_ble_eq_true rfl⟩) (hnc := ⟨Nat.zero_le _, Nat.zero_le _⟩) (fun r1 y1 h1 => ?_)
  obtain ⟨e1, ey1⟩ := h1
  obtain rfl := ey1.symm
  refine rm_if_eq (tgt := 20) hc dX1_hear_5 (by decide) (fun c2 => ?_) (fun c2 => ?_)
  · --open
    have hL : lockS (x k2 2) (x k (31 + 22 * d)) = 0 := e1.symm.trans c2
    refine rm_aload_n hc dX1_hear_20 rfl rfl ?_
    refine rm_get hc dX1_hear_21 fl_X1_11 (dm_4 (by omega) (by omega) (by omega)) rfl rfl ?_
    refine rm_astore_n (ls' := [(0, .ref (ad k 4 d)), (1, .int num), (2, .ref (ad k2 8 0)), (3, .ref (ad k 5 d))]) hc dX1_hear_24 rfl (by decide) rfl ?_
    refine rm_aload_n hc dX1_hear_25 rfl rfl ?_
    refine rm_alen (n := 0) (t0 := 3) (v := 4) hc dX1_hear_26 (dm_5 (by omega) (by omega) (by omega)) rfl rfl rfl ?_
    refine rm_istore (ls' := [(0, .ref (ad k 4 d)), (1, .int num), (2, .ref (ad k2 8 0)), (3, .ref (ad k 5 d)), (4, .int 4)]) hc dX1_hear_27 (by decide) rfl ?_
    refine rm_iconst (v := 0) hc dX1_hear_29 (by decide) ?_
    refine rm_istore (ls' := [(0, .ref (ad k 4 d)), (1, .int num), (2, .ref (ad k2 8 0)), (3, .ref (ad k 5 d)), (4, .int 4), (5, .int 0)]) hc dX1_hear_30 (by decide) rfl ?_
    refine rm_iload hc dX1_hear_32 rfl ?_
    refine rm_iload hc dX1_hear_34 rfl ?_
    refine rm_icmp_ge (tgt := 121) hc dX1_hear_36 (by decide) (fun h => absurd h (by decide)) (fun _ => ?_)
    refine rm_aload_n hc dX1_hear_39 rfl rfl ?_
    refine rm_iload hc dX1_hear_40 rfl ?_
    refine rm_aald (t0 := 3) (i := 0) (v := .ref (ad k (d + 20) 0)) hc dX1_hear_42 (dm_5 (by omega) (by omega) (by omega)) rfl rfl (by omega) (by decide) rfl rfl ?_
    refine rm_astore (ls' := [(0, .ref (ad k 4 d)), (1, .int num), (2, .ref (ad k2 8 0)), (3, .ref (ad k 5 d)), (4, .int 4), (5, .int 0), (6, .ref (ad k (d + 20) 0))]) hc dX1_hear_43 (by decide) rfl ?_
    refine rm_aload hc dX1_hear_45 rfl ?_
    refine rm_iload_n hc dX1_hear_47 rfl rfl ?_
    refine rm_aload_n hc dX1_hear_48 rfl rfl ?_
    refine rm_geti hc dX1_hear_49 fl_X1_55 (dm_8 (by omega)) rfl rfl (fun v4 e4 => ?_)
    obtain rfl : v4 = nI mm := e4.trans hw
    refine rm_calliV (As := [.int num, .int (nI (mm))]) (rest := []) hc dX1_hear_52 (c_X5_stepsTo hI x (k := k) (d := d) (s0 := 0) (by omega) (by omega) (by omega) (by omega) num mm (by omega)) mv_X1_58 (dm_s (d := d) (by omega) (by omega) (by omega) (by omega)) rfl rfl (hn := rfl) (hst := rfl) (hw := Nat.le_of_ble_eq_true rfl) (hR := ⟨⟨rfl, rfl⟩, Nat.le_of_ble_eq_true rfl, Nat.le_of_ble_eq_true rfl⟩) (hnc := ⟨Nat.zero_le _, Nat.zero_le _⟩) (fun r5 y5 h5 => ?_)
    obtain ⟨e5, ey5⟩ := h5
    obtain rfl := ey5.symm
    have hb5 := stpS_le (x := x) (k := k) (d := d) (s := 0) (num := num) (mm := mm)
    obtain ⟨t5, ht5⟩ : ∃ t5 : Nat, stpS x k d 0 num mm = t5 := ⟨_, rfl⟩
    rw [ht5] at e5 hb5
    obtain rfl := e5
    refine rm_istore (ls' := [(0, .ref (ad k 4 d)), (1, .int num), (2, .ref (ad k2 8 0)), (3, .ref (ad k 5 d)), (4, .int 4), (5, .int 0), (6, .ref (ad k (d + 20) 0)), (7, .int (nI (t5)))]) hc dX1_hear_55 (by decide) rfl ?_
    refine rm_iload hc dX1_hear_57 rfl ?_
    rcases Nat.eq_zero_or_pos t5 with zt5 | zt5
    · --zero
      refine rm_if_le (tgt := 98) hc dX1_hear_59 (by decide) (fun _ => ?_) (fun h => absurd (by rw [zt5]; decide) h)
      refine rm_iload hc dX1_hear_98 rfl ?_
      refine rm_if_le (tgt := 115) hc dX1_hear_100 (by decide) (fun _ => ?_) (fun h => absurd (by rw [zt5]; decide) h)
      refine rm_iinc (v := 1) (ls' := [(0, .ref (ad k 4 d)), (1, .int num), (2, .ref (ad k2 8 0)), (3, .ref (ad k 5 d)), (4, .int 4), (5, .int 1), (6, .ref (ad k (d + 20) 0)), (7, .int (nI (t5)))]) hc dX1_hear_115 rfl (by decide) (by decide) rfl ?_
      refine rm_goto (tgt := 32) hc dX1_hear_118 (by decide) ?_
      refine rm_iload hc dX1_hear_32 rfl ?_
      refine rm_iload hc dX1_hear_34 rfl ?_
      refine rm_icmp_ge (tgt := 121) hc dX1_hear_36 (by decide) (fun h => absurd h (by decide)) (fun _ => ?_)
      refine rm_aload_n hc dX1_hear_39 rfl rfl ?_
      refine rm_iload hc dX1_hear_40 rfl ?_
      refine rm_aald (t0 := 3) (i := 1) (v := .ref (ad k (d + 20) 1)) hc dX1_hear_42 (dm_5 (by omega) (by omega) (by omega)) rfl rfl (by omega) (by decide) rfl rfl ?_
      refine rm_astore (ls' := [(0, .ref (ad k 4 d)), (1, .int num), (2, .ref (ad k2 8 0)), (3, .ref (ad k 5 d)), (4, .int 4), (5, .int 1), (6, .ref (ad k (d + 20) 1)), (7, .int (nI (t5)))]) hc dX1_hear_43 (by decide) rfl ?_
      refine rm_aload hc dX1_hear_45 rfl ?_
      refine rm_iload_n hc dX1_hear_47 rfl rfl ?_
      refine rm_aload_n hc dX1_hear_48 rfl rfl ?_
      refine rm_geti hc dX1_hear_49 fl_X1_55 (dm_8 (by omega)) rfl rfl (fun v10 e10 => ?_)
      obtain rfl : v10 = nI mm := e10.trans hw
      refine rm_calliV (As := [.int num, .int (nI (mm))]) (rest := []) hc dX1_hear_52 (c_X5_stepsTo hI x (k := k) (d := d) (s0 := 1) (by omega) (by omega) (by omega) (by omega) num mm (by omega)) mv_X1_58 (dm_s (d := d) (by omega) (by omega) (by omega) (by omega)) rfl rfl (hn := rfl) (hst := rfl) (hw := Nat.le_of_ble_eq_true rfl) (hR := ⟨⟨rfl, rfl⟩, Nat.le_of_ble_eq_true rfl, Nat.le_of_ble_eq_true rfl⟩) (hnc := ⟨Nat.zero_le _, Nat.zero_le _⟩) (fun r11 y11 h11 => ?_)
      obtain ⟨e11, ey11⟩ := h11
      obtain rfl := ey11.symm
      have hb11 := stpS_le (x := x) (k := k) (d := d) (s := 1) (num := num) (mm := mm)
      obtain ⟨t11, ht11⟩ : ∃ t11 : Nat, stpS x k d 1 num mm = t11 := ⟨_, rfl⟩
      rw [ht11] at e11 hb11
      obtain rfl := e11
      refine rm_istore (ls' := [(0, .ref (ad k 4 d)), (1, .int num), (2, .ref (ad k2 8 0)), (3, .ref (ad k 5 d)), (4, .int 4), (5, .int 1), (6, .ref (ad k (d + 20) 1)), (7, .int (nI (t11)))]) hc dX1_hear_55 (by decide) rfl ?_
      refine rm_iload hc dX1_hear_57 rfl ?_
      rcases Nat.eq_zero_or_pos t11 with zt11 | zt11
      · --zero
        refine rm_if_le (tgt := 98) hc dX1_hear_59 (by decide) (fun _ => ?_) (fun h => absurd (by rw [zt11]; decide) h)
        refine rm_iload hc dX1_hear_98 rfl ?_
        refine rm_if_le (tgt := 115) hc dX1_hear_100 (by decide) (fun _ => ?_) (fun h => absurd (by rw [zt11]; decide) h)
        refine rm_iinc (v := 2) (ls' := [(0, .ref (ad k 4 d)), (1, .int num), (2, .ref (ad k2 8 0)), (3, .ref (ad k 5 d)), (4, .int 4), (5, .int 2), (6, .ref (ad k (d + 20) 1)), (7, .int (nI (t11)))]) hc dX1_hear_115 rfl (by decide) (by decide) rfl ?_
        refine rm_goto (tgt := 32) hc dX1_hear_118 (by decide) ?_
        refine rm_iload hc dX1_hear_32 rfl ?_
        refine rm_iload hc dX1_hear_34 rfl ?_
        refine rm_icmp_ge (tgt := 121) hc dX1_hear_36 (by decide) (fun h => absurd h (by decide)) (fun _ => ?_)
        refine rm_aload_n hc dX1_hear_39 rfl rfl ?_
        refine rm_iload hc dX1_hear_40 rfl ?_
        refine rm_aald (t0 := 3) (i := 2) (v := .ref (ad k (d + 20) 2)) hc dX1_hear_42 (dm_5 (by omega) (by omega) (by omega)) rfl rfl (by omega) (by decide) rfl rfl ?_
        refine rm_astore (ls' := [(0, .ref (ad k 4 d)), (1, .int num), (2, .ref (ad k2 8 0)), (3, .ref (ad k 5 d)), (4, .int 4), (5, .int 2), (6, .ref (ad k (d + 20) 2)), (7, .int (nI (t11)))]) hc dX1_hear_43 (by decide) rfl ?_
        refine rm_aload hc dX1_hear_45 rfl ?_
        refine rm_iload_n hc dX1_hear_47 rfl rfl ?_
        refine rm_aload_n hc dX1_hear_48 rfl rfl ?_
        refine rm_geti hc dX1_hear_49 fl_X1_55 (dm_8 (by omega)) rfl rfl (fun v16 e16 => ?_)
        obtain rfl : v16 = nI mm := e16.trans hw
        refine rm_calliV (As := [.int num, .int (nI (mm))]) (rest := []) hc dX1_hear_52 (c_X5_stepsTo hI x (k := k) (d := d) (s0 := 2) (by omega) (by omega) (by omega) (by omega) num mm (by omega)) mv_X1_58 (dm_s (d := d) (by omega) (by omega) (by omega) (by omega)) rfl rfl (hn := rfl) (hst := rfl) (hw := Nat.le_of_ble_eq_true rfl) (hR := ⟨⟨rfl, rfl⟩, Nat.le_of_ble_eq_true rfl, Nat.le_of_ble_eq_true rfl⟩) (hnc := ⟨Nat.zero_le _, Nat.zero_le _⟩) (fun r17 y17 h17 => ?_)
        obtain ⟨e17, ey17⟩ := h17
        obtain rfl := ey17.symm
        have hb17 := stpS_le (x := x) (k := k) (d := d) (s := 2) (num := num) (mm := mm)
        obtain ⟨t17, ht17⟩ : ∃ t17 : Nat, stpS x k d 2 num mm = t17 := ⟨_, rfl⟩
        rw [ht17] at e17 hb17
        obtain rfl := e17
        refine rm_istore (ls' := [(0, .ref (ad k 4 d)), (1, .int num), (2, .ref (ad k2 8 0)), (3, .ref (ad k 5 d)), (4, .int 4), (5, .int 2), (6, .ref (ad k (d + 20) 2)), (7, .int (nI (t17)))]) hc dX1_hear_55 (by decide) rfl ?_
        refine rm_iload hc dX1_hear_57 rfl ?_
        rcases Nat.eq_zero_or_pos t17 with zt17 | zt17
        · --zero
          refine rm_if_le (tgt := 98) hc dX1_hear_59 (by decide) (fun _ => ?_) (fun h => absurd (by rw [zt17]; decide) h)
          refine rm_iload hc dX1_hear_98 rfl ?_
          refine rm_if_le (tgt := 115) hc dX1_hear_100 (by decide) (fun _ => ?_) (fun h => absurd (by rw [zt17]; decide) h)
          refine rm_iinc (v := 3) (ls' := [(0, .ref (ad k 4 d)), (1, .int num), (2, .ref (ad k2 8 0)), (3, .ref (ad k 5 d)), (4, .int 4), (5, .int 3), (6, .ref (ad k (d + 20) 2)), (7, .int (nI (t17)))]) hc dX1_hear_115 rfl (by decide) (by decide) rfl ?_
          refine rm_goto (tgt := 32) hc dX1_hear_118 (by decide) ?_
          refine rm_iload hc dX1_hear_32 rfl ?_
          refine rm_iload hc dX1_hear_34 rfl ?_
          refine rm_icmp_ge (tgt := 121) hc dX1_hear_36 (by decide) (fun h => absurd h (by decide)) (fun _ => ?_)
          refine rm_aload_n hc dX1_hear_39 rfl rfl ?_
          refine rm_iload hc dX1_hear_40 rfl ?_
          refine rm_aald (t0 := 3) (i := 3) (v := .ref (ad k (d + 20) 3)) hc dX1_hear_42 (dm_5 (by omega) (by omega) (by omega)) rfl rfl (by omega) (by decide) rfl rfl ?_
          refine rm_astore (ls' := [(0, .ref (ad k 4 d)), (1, .int num), (2, .ref (ad k2 8 0)), (3, .ref (ad k 5 d)), (4, .int 4), (5, .int 3), (6, .ref (ad k (d + 20) 3)), (7, .int (nI (t17)))]) hc dX1_hear_43 (by decide) rfl ?_
          refine rm_aload hc dX1_hear_45 rfl ?_
          refine rm_iload_n hc dX1_hear_47 rfl rfl ?_
          refine rm_aload_n hc dX1_hear_48 rfl rfl ?_
          refine rm_geti hc dX1_hear_49 fl_X1_55 (dm_8 (by omega)) rfl rfl (fun v22 e22 => ?_)
          obtain rfl : v22 = nI mm := e22.trans hw
          refine rm_calliV (As := [.int num, .int (nI (mm))]) (rest := []) hc dX1_hear_52 (c_X5_stepsTo hI x (k := k) (d := d) (s0 := 3) (by omega) (by omega) (by omega) (by omega) num mm (by omega)) mv_X1_58 (dm_s (d := d) (by omega) (by omega) (by omega) (by omega)) rfl rfl (hn := rfl) (hst := rfl) (hw := Nat.le_of_ble_eq_true rfl) (hR := ⟨⟨rfl, rfl⟩, Nat.le_of_ble_eq_true rfl, Nat.le_of_ble_eq_true rfl⟩) (hnc := ⟨Nat.zero_le _, Nat.zero_le _⟩) (fun r23 y23 h23 => ?_)
          obtain ⟨e23, ey23⟩ := h23
          obtain rfl := ey23.symm
          have hb23 := stpS_le (x := x) (k := k) (d := d) (s := 3) (num := num) (mm := mm)
          obtain ⟨t23, ht23⟩ : ∃ t23 : Nat, stpS x k d 3 num mm = t23 := ⟨_, rfl⟩
          rw [ht23] at e23 hb23
          obtain rfl := e23
          refine rm_istore (ls' := [(0, .ref (ad k 4 d)), (1, .int num), (2, .ref (ad k2 8 0)), (3, .ref (ad k 5 d)), (4, .int 4), (5, .int 3), (6, .ref (ad k (d + 20) 3)), (7, .int (nI (t23)))]) hc dX1_hear_55 (by decide) rfl ?_
          refine rm_iload hc dX1_hear_57 rfl ?_
          rcases Nat.eq_zero_or_pos t23 with zt23 | zt23
          · --zero
            refine rm_if_le (tgt := 98) hc dX1_hear_59 (by decide) (fun _ => ?_) (fun h => absurd (by rw [zt23]; decide) h)
            refine rm_iload hc dX1_hear_98 rfl ?_
            refine rm_if_le (tgt := 115) hc dX1_hear_100 (by decide) (fun _ => ?_) (fun h => absurd (by rw [zt23]; decide) h)
            refine rm_iinc (v := 4) (ls' := [(0, .ref (ad k 4 d)), (1, .int num), (2, .ref (ad k2 8 0)), (3, .ref (ad k 5 d)), (4, .int 4), (5, .int 4), (6, .ref (ad k (d + 20) 3)), (7, .int (nI (t23)))]) hc dX1_hear_115 rfl (by decide) (by decide) rfl ?_
            refine rm_goto (tgt := 32) hc dX1_hear_118 (by decide) ?_
            refine rm_iload hc dX1_hear_32 rfl ?_
            refine rm_iload hc dX1_hear_34 rfl ?_
            refine rm_icmp_ge (tgt := 121) hc dX1_hear_36 (by decide) (fun _ => ?_) (fun h => absurd (by decide) h)
            refine rm_aload_n hc dX1_hear_121 rfl rfl ?_
            refine rm_dup hc dX1_hear_122 rfl ?_
            refine rm_geti hc dX1_hear_123 fl_X1_26 (dm_4 (by omega) (by omega) (by omega)) rfl rfl (fun v28 e28 => ?_)
            refine rm_iconst (v := 1) hc dX1_hear_126 (by decide) ?_
            refine rm_iadd hc dX1_hear_127 (fun v29 e29 => ?_)
            refine rm_put hc dX1_hear_128 fl_X1_26 (dm_4 (by omega) (by omega) (by omega)) rfl (Nat.le_of_ble_eq_true rfl) ft_1_2 rfl rfl (so_4_2 (by omega) (by omega)) (rm_nm (fun x30 ex30 => ?_))
            refine rm_aload_n hc dX1_hear_131 rfl rfl ?_
            refine rm_dup hc dX1_hear_132 rfl ?_
            refine rm_geti hc dX1_hear_133 fl_X1_36 (dm_4 (by omega) (by omega) (by omega)) rfl rfl (fun v31 e31 => ?_)
            refine rm_iconst (v := 1) hc dX1_hear_136 (by decide) ?_
            refine rm_iadd hc dX1_hear_137 (fun v32 e32 => ?_)
            refine rm_put hc dX1_hear_138 fl_X1_36 (dm_4 (by omega) (by omega) (by omega)) rfl (Nat.le_of_ble_eq_true rfl) ft_1_5 rfl rfl (so_4_5 (by omega) (by omega)) (rm_nm (fun x33 ex33 => ?_))
            refine rm_iconst (v := 2) hc dX1_hear_141 (by decide) ?_
            exact rm_iret hc dX1_hear_142 ⟨(hr_2 (k2 := k2) hL (mean_4 (by rw [ht5]; exact zt5) (by rw [ht11]; exact zt11) (by rw [ht17]; exact zt17) (by rw [ht23]; exact zt23))).1.symm, by rw [(hr_2 (k2 := k2) hL (mean_4 (by rw [ht5]; exact zt5) (by rw [ht11]; exact zt11) (by rw [ht17]; exact zt17) (by rw [ht23]; exact zt23))).2]; subst_vars; simp [up]⟩
          · --pos
            refine rm_if_le (tgt := 98) hc dX1_hear_59 (by decide) (fun h => absurd h (nI_nle (n := t23) (by omega) (by omega))) (fun _ => ?_)
            refine rm_aload hc dX1_hear_62 rfl ?_
            refine rm_iload hc dX1_hear_64 rfl ?_
            refine rm_aload_n hc dX1_hear_66 rfl rfl ?_
            refine rm_geti hc dX1_hear_67 fl_X1_62 (dm_8 (by omega)) rfl rfl (fun v35 e35 => ?_)
            obtain rfl : wv = v35 := (e35.trans ew.symm).symm
            refine rm_calliV (As := [.int (nI (t23)), .int wv]) (rest := []) hc dX1_hear_70 (c_X5_take hI x (k := k) (d := d) (s0 := 3) (by omega) (by omega) (by omega) (by omega) (nI (t23)) wv) mv_X1_65 (dm_s (d := d) (by omega) (by omega) (by omega) (by omega)) rfl rfl (hn := rfl) (hst := rfl) (hw := Nat.le_of_ble_eq_true rfl) (hR := ⟨⟨rfl, rfl⟩, Nat.le_of_ble_eq_true rfl, Nat.le_of_ble_eq_true rfl⟩) (hnc := ⟨Nat.zero_le _, Nat.zero_le _⟩) (fun r36 y36 h36 => ?_)
            obtain ⟨e36, ey36⟩ := h36
            by_cases hT : takS x k d 3 (nI (t23)) wv
            · --take 1
              rw [if_pos hT] at e36 ey36
              obtain rfl := e36
              refine rm_if_eq (tgt := 98) hc dX1_hear_73 (by decide) (fun h => absurd h (by decide)) (fun _ => ?_)
              refine rm_aload_n hc dX1_hear_76 rfl rfl ?_
              refine rm_iconst (v := 1) hc dX1_hear_77 (by decide) ?_
              refine rm_put hc dX1_hear_78 fl_X1_22 (dm_4 (by omega) (by omega) (by omega)) rfl (Nat.le_of_ble_eq_true rfl) ft_1_1 rfl rfl (so_4_1 (by omega) (by omega)) (rm_nm (fun x38 ex38 => ?_))
              refine rm_aload_n hc dX1_hear_81 rfl rfl ?_
              refine rm_dup hc dX1_hear_82 rfl ?_
              refine rm_geti hc dX1_hear_83 fl_X1_30 (dm_4 (by omega) (by omega) (by omega)) rfl rfl (fun v39 e39 => ?_)
              refine rm_iconst (v := 1) hc dX1_hear_86 (by decide) ?_
              refine rm_iadd hc dX1_hear_87 (fun v40 e40 => ?_)
              refine rm_put hc dX1_hear_88 fl_X1_30 (dm_4 (by omega) (by omega) (by omega)) rfl (Nat.le_of_ble_eq_true rfl) ft_1_3 rfl rfl (so_4_3 (by omega) (by omega)) (rm_nm (fun x41 ex41 => ?_))
              refine rm_aload_n hc dX1_hear_91 rfl rfl ?_
              refine rm_iconst (v := 0) hc dX1_hear_92 (by decide) ?_
              refine rm_put hc dX1_hear_93 fl_X1_26 (dm_4 (by omega) (by omega) (by omega)) rfl (Nat.le_of_ble_eq_true rfl) ft_1_2 rfl rfl (so_4_2 (by omega) (by omega)) (rm_nm (fun x42 ex42 => ?_))
              refine rm_iconst (v := 0) hc dX1_hear_96 (by decide) ?_
              exact rm_iret hc dX1_hear_97 ⟨(hr_0 (k2 := k2) hL ((mean_3 (by rw [ht5]; exact zt5) (by rw [ht11]; exact zt11) (by rw [ht17]; exact zt17) (by rw [ht23]; omega)).trans (by rw [ht23])) (by omega) (by rw [← ew]; exact hT)).1.symm, by rw [(hr_0 (k2 := k2) hL ((mean_3 (by rw [ht5]; exact zt5) (by rw [ht11]; exact zt11) (by rw [ht17]; exact zt17) (by rw [ht23]; omega)).trans (by rw [ht23])) (by omega) (by rw [← ew]; exact hT)).2]; subst_vars; simp [opnM, up]⟩
            · --take 0
              rw [if_neg hT] at e36 ey36
              obtain rfl := e36
              refine rm_if_eq (tgt := 98) hc dX1_hear_73 (by decide) (fun _ => ?_) (fun h => absurd (by decide) h)
              refine rm_iload hc dX1_hear_98 rfl ?_
              refine rm_if_le (tgt := 115) hc dX1_hear_100 (by decide) (fun h => absurd h (nI_nle (n := t23) (by omega) (by omega))) (fun _ => ?_)
              refine rm_aload_n hc dX1_hear_103 rfl rfl ?_
              refine rm_dup hc dX1_hear_104 rfl ?_
              refine rm_geti hc dX1_hear_105 fl_X1_33 (dm_4 (by omega) (by omega) (by omega)) rfl rfl (fun v45 e45 => ?_)
              refine rm_iconst (v := 1) hc dX1_hear_108 (by decide) ?_
              refine rm_iadd hc dX1_hear_109 (fun v46 e46 => ?_)
              refine rm_put hc dX1_hear_110 fl_X1_33 (dm_4 (by omega) (by omega) (by omega)) rfl (Nat.le_of_ble_eq_true rfl) ft_1_4 rfl rfl (so_4_4 (by omega) (by omega)) (rm_nm (fun x47 ex47 => ?_))
              refine rm_iconst (v := 1) hc dX1_hear_113 (by decide) ?_
              exact rm_iret hc dX1_hear_114 ⟨(hr_1 (k2 := k2) hL ((mean_3 (by rw [ht5]; exact zt5) (by rw [ht11]; exact zt11) (by rw [ht17]; exact zt17) (by rw [ht23]; omega)).trans (by rw [ht23])) (by omega) (by rw [← ew]; exact hT)).1.symm, by rw [(hr_1 (k2 := k2) hL ((mean_3 (by rw [ht5]; exact zt5) (by rw [ht11]; exact zt11) (by rw [ht17]; exact zt17) (by rw [ht23]; omega)).trans (by rw [ht23])) (by omega) (by rw [← ew]; exact hT)).2]; subst_vars; rw [tak0_33]⟩
        · --pos
          refine rm_if_le (tgt := 98) hc dX1_hear_59 (by decide) (fun h => absurd h (nI_nle (n := t17) (by omega) (by omega))) (fun _ => ?_)
          refine rm_aload hc dX1_hear_62 rfl ?_
          refine rm_iload hc dX1_hear_64 rfl ?_
          refine rm_aload_n hc dX1_hear_66 rfl rfl ?_
          refine rm_geti hc dX1_hear_67 fl_X1_62 (dm_8 (by omega)) rfl rfl (fun v49 e49 => ?_)
          obtain rfl : wv = v49 := (e49.trans ew.symm).symm
          refine rm_calliV (As := [.int (nI (t17)), .int wv]) (rest := []) hc dX1_hear_70 (c_X5_take hI x (k := k) (d := d) (s0 := 2) (by omega) (by omega) (by omega) (by omega) (nI (t17)) wv) mv_X1_65 (dm_s (d := d) (by omega) (by omega) (by omega) (by omega)) rfl rfl (hn := rfl) (hst := rfl) (hw := Nat.le_of_ble_eq_true rfl) (hR := ⟨⟨rfl, rfl⟩, Nat.le_of_ble_eq_true rfl, Nat.le_of_ble_eq_true rfl⟩) (hnc := ⟨Nat.zero_le _, Nat.zero_le _⟩) (fun r50 y50 h50 => ?_)
          obtain ⟨e50, ey50⟩ := h50
          by_cases hT : takS x k d 2 (nI (t17)) wv
          · --take 1
            rw [if_pos hT] at e50 ey50
            obtain rfl := e50
            refine rm_if_eq (tgt := 98) hc dX1_hear_73 (by decide) (fun h => absurd h (by decide)) (fun _ => ?_)
            refine rm_aload_n hc dX1_hear_76 rfl rfl ?_
            refine rm_iconst (v := 1) hc dX1_hear_77 (by decide) ?_
            refine rm_put hc dX1_hear_78 fl_X1_22 (dm_4 (by omega) (by omega) (by omega)) rfl (Nat.le_of_ble_eq_true rfl) ft_1_1 rfl rfl (so_4_1 (by omega) (by omega)) (rm_nm (fun x52 ex52 => ?_))
            refine rm_aload_n hc dX1_hear_81 rfl rfl ?_
            refine rm_dup hc dX1_hear_82 rfl ?_
            refine rm_geti hc dX1_hear_83 fl_X1_30 (dm_4 (by omega) (by omega) (by omega)) rfl rfl (fun v53 e53 => ?_)
            refine rm_iconst (v := 1) hc dX1_hear_86 (by decide) ?_
            refine rm_iadd hc dX1_hear_87 (fun v54 e54 => ?_)
            refine rm_put hc dX1_hear_88 fl_X1_30 (dm_4 (by omega) (by omega) (by omega)) rfl (Nat.le_of_ble_eq_true rfl) ft_1_3 rfl rfl (so_4_3 (by omega) (by omega)) (rm_nm (fun x55 ex55 => ?_))
            refine rm_aload_n hc dX1_hear_91 rfl rfl ?_
            refine rm_iconst (v := 0) hc dX1_hear_92 (by decide) ?_
            refine rm_put hc dX1_hear_93 fl_X1_26 (dm_4 (by omega) (by omega) (by omega)) rfl (Nat.le_of_ble_eq_true rfl) ft_1_2 rfl rfl (so_4_2 (by omega) (by omega)) (rm_nm (fun x56 ex56 => ?_))
            refine rm_iconst (v := 0) hc dX1_hear_96 (by decide) ?_
            exact rm_iret hc dX1_hear_97 ⟨(hr_0 (k2 := k2) hL ((mean_2 (by rw [ht5]; exact zt5) (by rw [ht11]; exact zt11) (by rw [ht17]; omega)).trans (by rw [ht17])) (by omega) (by rw [← ew]; exact hT)).1.symm, by rw [(hr_0 (k2 := k2) hL ((mean_2 (by rw [ht5]; exact zt5) (by rw [ht11]; exact zt11) (by rw [ht17]; omega)).trans (by rw [ht17])) (by omega) (by rw [← ew]; exact hT)).2]; subst_vars; simp [opnM, up]⟩
          · --take 0
            rw [if_neg hT] at e50 ey50
            obtain rfl := e50
            refine rm_if_eq (tgt := 98) hc dX1_hear_73 (by decide) (fun _ => ?_) (fun h => absurd (by decide) h)
            refine rm_iload hc dX1_hear_98 rfl ?_
            refine rm_if_le (tgt := 115) hc dX1_hear_100 (by decide) (fun h => absurd h (nI_nle (n := t17) (by omega) (by omega))) (fun _ => ?_)
            refine rm_aload_n hc dX1_hear_103 rfl rfl ?_
            refine rm_dup hc dX1_hear_104 rfl ?_
            refine rm_geti hc dX1_hear_105 fl_X1_33 (dm_4 (by omega) (by omega) (by omega)) rfl rfl (fun v59 e59 => ?_)
            refine rm_iconst (v := 1) hc dX1_hear_108 (by decide) ?_
            refine rm_iadd hc dX1_hear_109 (fun v60 e60 => ?_)
            refine rm_put hc dX1_hear_110 fl_X1_33 (dm_4 (by omega) (by omega) (by omega)) rfl (Nat.le_of_ble_eq_true rfl) ft_1_4 rfl rfl (so_4_4 (by omega) (by omega)) (rm_nm (fun x61 ex61 => ?_))
            refine rm_iconst (v := 1) hc dX1_hear_113 (by decide) ?_
            exact rm_iret hc dX1_hear_114 ⟨(hr_1 (k2 := k2) hL ((mean_2 (by rw [ht5]; exact zt5) (by rw [ht11]; exact zt11) (by rw [ht17]; omega)).trans (by rw [ht17])) (by omega) (by rw [← ew]; exact hT)).1.symm, by rw [(hr_1 (k2 := k2) hL ((mean_2 (by rw [ht5]; exact zt5) (by rw [ht11]; exact zt11) (by rw [ht17]; omega)).trans (by rw [ht17])) (by omega) (by rw [← ew]; exact hT)).2]; subst_vars; rw [tak0_33]⟩
      · --pos
        refine rm_if_le (tgt := 98) hc dX1_hear_59 (by decide) (fun h => absurd h (nI_nle (n := t11) (by omega) (by omega))) (fun _ => ?_)
        refine rm_aload hc dX1_hear_62 rfl ?_
        refine rm_iload hc dX1_hear_64 rfl ?_
        refine rm_aload_n hc dX1_hear_66 rfl rfl ?_
        refine rm_geti hc dX1_hear_67 fl_X1_62 (dm_8 (by omega)) rfl rfl (fun v63 e63 => ?_)
        obtain rfl : wv = v63 := (e63.trans ew.symm).symm
        refine rm_calliV (As := [.int (nI (t11)), .int wv]) (rest := []) hc dX1_hear_70 (c_X5_take hI x (k := k) (d := d) (s0 := 1) (by omega) (by omega) (by omega) (by omega) (nI (t11)) wv) mv_X1_65 (dm_s (d := d) (by omega) (by omega) (by omega) (by omega)) rfl rfl (hn := rfl) (hst := rfl) (hw := Nat.le_of_ble_eq_true rfl) (hR := ⟨⟨rfl, rfl⟩, Nat.le_of_ble_eq_true rfl, Nat.le_of_ble_eq_true rfl⟩) (hnc := ⟨Nat.zero_le _, Nat.zero_le _⟩) (fun r64 y64 h64 => ?_)
        obtain ⟨e64, ey64⟩ := h64
        by_cases hT : takS x k d 1 (nI (t11)) wv
        · --take 1
          rw [if_pos hT] at e64 ey64
          obtain rfl := e64
          refine rm_if_eq (tgt := 98) hc dX1_hear_73 (by decide) (fun h => absurd h (by decide)) (fun _ => ?_)
          refine rm_aload_n hc dX1_hear_76 rfl rfl ?_
          refine rm_iconst (v := 1) hc dX1_hear_77 (by decide) ?_
          refine rm_put hc dX1_hear_78 fl_X1_22 (dm_4 (by omega) (by omega) (by omega)) rfl (Nat.le_of_ble_eq_true rfl) ft_1_1 rfl rfl (so_4_1 (by omega) (by omega)) (rm_nm (fun x66 ex66 => ?_))
          refine rm_aload_n hc dX1_hear_81 rfl rfl ?_
          refine rm_dup hc dX1_hear_82 rfl ?_
          refine rm_geti hc dX1_hear_83 fl_X1_30 (dm_4 (by omega) (by omega) (by omega)) rfl rfl (fun v67 e67 => ?_)
          refine rm_iconst (v := 1) hc dX1_hear_86 (by decide) ?_
          refine rm_iadd hc dX1_hear_87 (fun v68 e68 => ?_)
          refine rm_put hc dX1_hear_88 fl_X1_30 (dm_4 (by omega) (by omega) (by omega)) rfl (Nat.le_of_ble_eq_true rfl) ft_1_3 rfl rfl (so_4_3 (by omega) (by omega)) (rm_nm (fun x69 ex69 => ?_))
          refine rm_aload_n hc dX1_hear_91 rfl rfl ?_
          refine rm_iconst (v := 0) hc dX1_hear_92 (by decide) ?_
          refine rm_put hc dX1_hear_93 fl_X1_26 (dm_4 (by omega) (by omega) (by omega)) rfl (Nat.le_of_ble_eq_true rfl) ft_1_2 rfl rfl (so_4_2 (by omega) (by omega)) (rm_nm (fun x70 ex70 => ?_))
          refine rm_iconst (v := 0) hc dX1_hear_96 (by decide) ?_
          exact rm_iret hc dX1_hear_97 ⟨(hr_0 (k2 := k2) hL ((mean_1 (by rw [ht5]; exact zt5) (by rw [ht11]; omega)).trans (by rw [ht11])) (by omega) (by rw [← ew]; exact hT)).1.symm, by rw [(hr_0 (k2 := k2) hL ((mean_1 (by rw [ht5]; exact zt5) (by rw [ht11]; omega)).trans (by rw [ht11])) (by omega) (by rw [← ew]; exact hT)).2]; subst_vars; simp [opnM, up]⟩
        · --take 0
          rw [if_neg hT] at e64 ey64
          obtain rfl := e64
          refine rm_if_eq (tgt := 98) hc dX1_hear_73 (by decide) (fun _ => ?_) (fun h => absurd (by decide) h)
          refine rm_iload hc dX1_hear_98 rfl ?_
          refine rm_if_le (tgt := 115) hc dX1_hear_100 (by decide) (fun h => absurd h (nI_nle (n := t11) (by omega) (by omega))) (fun _ => ?_)
          refine rm_aload_n hc dX1_hear_103 rfl rfl ?_
          refine rm_dup hc dX1_hear_104 rfl ?_
          refine rm_geti hc dX1_hear_105 fl_X1_33 (dm_4 (by omega) (by omega) (by omega)) rfl rfl (fun v73 e73 => ?_)
          refine rm_iconst (v := 1) hc dX1_hear_108 (by decide) ?_
          refine rm_iadd hc dX1_hear_109 (fun v74 e74 => ?_)
          refine rm_put hc dX1_hear_110 fl_X1_33 (dm_4 (by omega) (by omega) (by omega)) rfl (Nat.le_of_ble_eq_true rfl) ft_1_4 rfl rfl (so_4_4 (by omega) (by omega)) (rm_nm (fun x75 ex75 => ?_))
          refine rm_iconst (v := 1) hc dX1_hear_113 (by decide) ?_
          exact rm_iret hc dX1_hear_114 ⟨(hr_1 (k2 := k2) hL ((mean_1 (by rw [ht5]; exact zt5) (by rw [ht11]; omega)).trans (by rw [ht11])) (by omega) (by rw [← ew]; exact hT)).1.symm, by rw [(hr_1 (k2 := k2) hL ((mean_1 (by rw [ht5]; exact zt5) (by rw [ht11]; omega)).trans (by rw [ht11])) (by omega) (by rw [← ew]; exact hT)).2]; subst_vars; rw [tak0_33]⟩
    · --pos
      refine rm_if_le (tgt := 98) hc dX1_hear_59 (by decide) (fun h => absurd h (nI_nle (n := t5) (by omega) (by omega))) (fun _ => ?_)
      refine rm_aload hc dX1_hear_62 rfl ?_
      refine rm_iload hc dX1_hear_64 rfl ?_
      refine rm_aload_n hc dX1_hear_66 rfl rfl ?_
      refine rm_geti hc dX1_hear_67 fl_X1_62 (dm_8 (by omega)) rfl rfl (fun v77 e77 => ?_)
      obtain rfl : wv = v77 := (e77.trans ew.symm).symm
      refine rm_calliV (As := [.int (nI (t5)), .int wv]) (rest := []) hc dX1_hear_70 (c_X5_take hI x (k := k) (d := d) (s0 := 0) (by omega) (by omega) (by omega) (by omega) (nI (t5)) wv) mv_X1_65 (dm_s (d := d) (by omega) (by omega) (by omega) (by omega)) rfl rfl (hn := rfl) (hst := rfl) (hw := Nat.le_of_ble_eq_true rfl) (hR := ⟨⟨rfl, rfl⟩, Nat.le_of_ble_eq_true rfl, Nat.le_of_ble_eq_true rfl⟩) (hnc := ⟨Nat.zero_le _, Nat.zero_le _⟩) (fun r78 y78 h78 => ?_)
      obtain ⟨e78, ey78⟩ := h78
      by_cases hT : takS x k d 0 (nI (t5)) wv
      · --take 1
        rw [if_pos hT] at e78 ey78
        obtain rfl := e78
        refine rm_if_eq (tgt := 98) hc dX1_hear_73 (by decide) (fun h => absurd h (by decide)) (fun _ => ?_)
        refine rm_aload_n hc dX1_hear_76 rfl rfl ?_
        refine rm_iconst (v := 1) hc dX1_hear_77 (by decide) ?_
        refine rm_put hc dX1_hear_78 fl_X1_22 (dm_4 (by omega) (by omega) (by omega)) rfl (Nat.le_of_ble_eq_true rfl) ft_1_1 rfl rfl (so_4_1 (by omega) (by omega)) (rm_nm (fun x80 ex80 => ?_))
        refine rm_aload_n hc dX1_hear_81 rfl rfl ?_
        refine rm_dup hc dX1_hear_82 rfl ?_
        refine rm_geti hc dX1_hear_83 fl_X1_30 (dm_4 (by omega) (by omega) (by omega)) rfl rfl (fun v81 e81 => ?_)
        refine rm_iconst (v := 1) hc dX1_hear_86 (by decide) ?_
        refine rm_iadd hc dX1_hear_87 (fun v82 e82 => ?_)
        refine rm_put hc dX1_hear_88 fl_X1_30 (dm_4 (by omega) (by omega) (by omega)) rfl (Nat.le_of_ble_eq_true rfl) ft_1_3 rfl rfl (so_4_3 (by omega) (by omega)) (rm_nm (fun x83 ex83 => ?_))
        refine rm_aload_n hc dX1_hear_91 rfl rfl ?_
        refine rm_iconst (v := 0) hc dX1_hear_92 (by decide) ?_
        refine rm_put hc dX1_hear_93 fl_X1_26 (dm_4 (by omega) (by omega) (by omega)) rfl (Nat.le_of_ble_eq_true rfl) ft_1_2 rfl rfl (so_4_2 (by omega) (by omega)) (rm_nm (fun x84 ex84 => ?_))
        refine rm_iconst (v := 0) hc dX1_hear_96 (by decide) ?_
        exact rm_iret hc dX1_hear_97 ⟨(hr_0 (k2 := k2) hL ((mean_0  (by rw [ht5]; omega)).trans (by rw [ht5])) (by omega) (by rw [← ew]; exact hT)).1.symm, by rw [(hr_0 (k2 := k2) hL ((mean_0  (by rw [ht5]; omega)).trans (by rw [ht5])) (by omega) (by rw [← ew]; exact hT)).2]; subst_vars; simp [opnM, up]⟩
      · --take 0
        rw [if_neg hT] at e78 ey78
        obtain rfl := e78
        refine rm_if_eq (tgt := 98) hc dX1_hear_73 (by decide) (fun _ => ?_) (fun h => absurd (by decide) h)
        refine rm_iload hc dX1_hear_98 rfl ?_
        refine rm_if_le (tgt := 115) hc dX1_hear_100 (by decide) (fun h => absurd h (nI_nle (n := t5) (by omega) (by omega))) (fun _ => ?_)
        refine rm_aload_n hc dX1_hear_103 rfl rfl ?_
        refine rm_dup hc dX1_hear_104 rfl ?_
        refine rm_geti hc dX1_hear_105 fl_X1_33 (dm_4 (by omega) (by omega) (by omega)) rfl rfl (fun v87 e87 => ?_)
        refine rm_iconst (v := 1) hc dX1_hear_108 (by decide) ?_
        refine rm_iadd hc dX1_hear_109 (fun v88 e88 => ?_)
        refine rm_put hc dX1_hear_110 fl_X1_33 (dm_4 (by omega) (by omega) (by omega)) rfl (Nat.le_of_ble_eq_true rfl) ft_1_4 rfl rfl (so_4_4 (by omega) (by omega)) (rm_nm (fun x89 ex89 => ?_))
        refine rm_iconst (v := 1) hc dX1_hear_113 (by decide) ?_
        exact rm_iret hc dX1_hear_114 ⟨(hr_1 (k2 := k2) hL ((mean_0  (by rw [ht5]; omega)).trans (by rw [ht5])) (by omega) (by rw [← ew]; exact hT)).1.symm, by rw [(hr_1 (k2 := k2) hL ((mean_0  (by rw [ht5]; omega)).trans (by rw [ht5])) (by omega) (by rw [← ew]; exact hT)).2]; subst_vars; rw [tak0_33]⟩
  · --locked
    refine rm_aload_n hc dX1_hear_8 rfl rfl ?_
    refine rm_dup hc dX1_hear_9 rfl ?_
    refine rm_geti hc dX1_hear_10 fl_X1_39 (dm_4 (by omega) (by omega) (by omega)) rfl rfl (fun v90 e90 => ?_)
    refine rm_iconst (v := 1) hc dX1_hear_13 (by decide) ?_
    refine rm_iadd hc dX1_hear_14 (fun v91 e91 => ?_)
    refine rm_put hc dX1_hear_15 fl_X1_39 (dm_4 (by omega) (by omega) (by omega)) rfl (Nat.le_of_ble_eq_true rfl) ft_1_6 rfl rfl (so_4_6 (by omega) (by omega)) (rm_nm (fun x92 ex92 => ?_))
    refine rm_iconst (v := 3) hc dX1_hear_18 (by decide) ?_
    exact rm_iret hc dX1_hear_19 ⟨by subst_vars; exact (hr_3 (by assumption)).1.symm, by subst_vars; exact (hr_3 (by assumption)).2.symm⟩

abbrev rm_X6_copyFrom : Room := { frames := 2, cells := 0, slots := 0, locals := 61 }
set_option maxHeartbeats 4000000 in
set_option maxRecDepth 100000 in
theorem c_X6_copyFrom {l : Launch} {D : va_G} {cy : Nat → ClassId} {ad : Ads} (hI : IJ ad) (x : Mem) {k k2 : Nat} (hk : k < 7) (hk2 : k2 < 7) (hkk : k2 ≠ k) (hF : FLG x k2) : Ctv l yX6_copyFrom cX6_copyFrom 3 none rm_X6_copyFrom D cy ad [.ref (ad k 0 0), .ref (ad k2 0 0)] x (fun y => y = cpS x k 0 k2 0 96) := by
  refine rm_entry (Qc := Qv D cy ad (fun y => y = cpS x k 0 k2 0 96)) hI (by decide) (Nat.le_of_ble_eq_true rfl) ?_
  intro p e s m args below meth c hc
  show RM _ _ _ _ _ _ _ _ _ _ _ _ _ _ _ _ _ [(0, .ref (ad k 0 0)), (1, .ref (ad k2 0 0))] []
  refine rm_iconst (v := 0) hc dX6_copyFrom_0 (by decide) ?_
  refine rm_istore_n (ls' := [(0, .ref (ad k 0 0)), (1, .ref (ad k2 0 0)), (2, .int 0)]) hc dX6_copyFrom_1 rfl (by decide) rfl ?_
  refine rm_iload_n hc dX6_copyFrom_2 rfl rfl ?_
  refine rm_iconst (v := 4) hc dX6_copyFrom_3 (by decide) ?_
  refine rm_icmp_ge (tgt := 28) hc dX6_copyFrom_4 (by decide) (fun h => absurd h (by decide)) (fun _ => ?_)
  refine rm_aload_n hc dX6_copyFrom_7 rfl rfl ?_
  refine rm_get hc dX6_copyFrom_8 fl_X6_11 (dm_0 (by omega)) rfl rfl ?_
  refine rm_iload_n hc dX6_copyFrom_11 rfl rfl ?_
  refine rm_aald (t0 := 1) (i := 0) (v := .ref (ad k 2 0)) hc dX6_copyFrom_12 (dm_1 (by omega)) rfl rfl (by omega) (by decide) rfl rfl ?_
  refine rm_aload_n hc dX6_copyFrom_13 rfl rfl ?_
  refine rm_get hc dX6_copyFrom_14 fl_X6_11 (dm_0 (by omega)) rfl rfl ?_
  refine rm_iload_n hc dX6_copyFrom_17 rfl rfl ?_
  refine rm_aald (t0 := 1) (i := 0) (v := .ref (ad k2 2 0)) hc dX6_copyFrom_18 (dm_1 (by omega)) rfl rfl (by omega) (by decide) rfl rfl ?_
  refine rm_callvV (As := [.ref (ad k2 2 0)]) (rest := []) hc dX6_copyFrom_19 (c_X2_copyFrom hI x (k := k) (j := 0) (k2 := k2) (by omega) (by omega) (by omega) hkk) mv_X6_41 (dm_2 (by omega) (by omega)) rfl rfl (hn := rfl) (hst := rfl) (hw := Nat.le_of_ble_eq_true rfl) (hR := ⟨⟨rfl, rfl⟩, Nat.le_of_ble_eq_true rfl, Nat.le_of_ble_eq_true rfl⟩) (hnc := ⟨Nat.zero_le _, Nat.zero_le _⟩) (fun y2 h2 => ?_)
  refine rm_iinc (v := 1) (ls' := [(0, .ref (ad k 0 0)), (1, .ref (ad k2 0 0)), (2, .int 1)]) hc dX6_copyFrom_22 rfl (by decide) (by decide) rfl ?_
  refine rm_goto (tgt := 2) hc dX6_copyFrom_25 (by decide) ?_
  refine rm_iload_n hc dX6_copyFrom_2 rfl rfl ?_
  refine rm_iconst (v := 4) hc dX6_copyFrom_3 (by decide) ?_
  refine rm_icmp_ge (tgt := 28) hc dX6_copyFrom_4 (by decide) (fun h => absurd h (by decide)) (fun _ => ?_)
  refine rm_aload_n hc dX6_copyFrom_7 rfl rfl ?_
  refine rm_get hc dX6_copyFrom_8 fl_X6_11 (dm_0 (by omega)) rfl rfl ?_
  refine rm_iload_n hc dX6_copyFrom_11 rfl rfl ?_
  refine rm_aald (t0 := 1) (i := 1) (v := .ref (ad k 2 1)) hc dX6_copyFrom_12 (dm_1 (by omega)) rfl rfl (by omega) (by decide) rfl rfl ?_
  refine rm_aload_n hc dX6_copyFrom_13 rfl rfl ?_
  refine rm_get hc dX6_copyFrom_14 fl_X6_11 (dm_0 (by omega)) rfl rfl ?_
  refine rm_iload_n hc dX6_copyFrom_17 rfl rfl ?_
  refine rm_aald (t0 := 1) (i := 1) (v := .ref (ad k2 2 1)) hc dX6_copyFrom_18 (dm_1 (by omega)) rfl rfl (by omega) (by decide) rfl rfl ?_
  refine rm_callvV (As := [.ref (ad k2 2 1)]) (rest := []) hc dX6_copyFrom_19 (c_X2_copyFrom hI y2 (k := k) (j := 1) (k2 := k2) (by omega) (by omega) (by omega) hkk) mv_X6_41 (dm_2 (by omega) (by omega)) rfl rfl (hn := rfl) (hst := rfl) (hw := Nat.le_of_ble_eq_true rfl) (hR := ⟨⟨rfl, rfl⟩, Nat.le_of_ble_eq_true rfl, Nat.le_of_ble_eq_true rfl⟩) (hnc := ⟨Nat.zero_le _, Nat.zero_le _⟩) (fun y4 h4 => ?_)
  refine rm_iinc (v := 2) (ls' := [(0, .ref (ad k 0 0)), (1, .ref (ad k2 0 0)), (2, .int 2)]) hc dX6_copyFrom_22 rfl (by decide) (by decide) rfl ?_
  refine rm_goto (tgt := 2) hc dX6_copyFrom_25 (by decide) ?_
  refine rm_iload_n hc dX6_copyFrom_2 rfl rfl ?_
  refine rm_iconst (v := 4) hc dX6_copyFrom_3 (by decide) ?_
  refine rm_icmp_ge (tgt := 28) hc dX6_copyFrom_4 (by decide) (fun h => absurd h (by decide)) (fun _ => ?_)
  refine rm_aload_n hc dX6_copyFrom_7 rfl rfl ?_
  refine rm_get hc dX6_copyFrom_8 fl_X6_11 (dm_0 (by omega)) rfl rfl ?_
  refine rm_iload_n hc dX6_copyFrom_11 rfl rfl ?_
  refine rm_aald (t0 := 1) (i := 2) (v := .ref (ad k 2 2)) hc dX6_copyFrom_12 (dm_1 (by omega)) rfl rfl (by omega) (by decide) rfl rfl ?_
  refine rm_aload_n hc dX6_copyFrom_13 rfl rfl ?_
  refine rm_get hc dX6_copyFrom_14 fl_X6_11 (dm_0 (by omega)) rfl rfl ?_
  refine rm_iload_n hc dX6_copyFrom_17 rfl rfl ?_
  refine rm_aald (t0 := 1) (i := 2) (v := .ref (ad k2 2 2)) hc dX6_copyFrom_18 (dm_1 (by omega)) rfl rfl (by omega) (by decide) rfl rfl ?_
  refine rm_callvV (As := [.ref (ad k2 2 2)]) (rest := []) hc dX6_copyFrom_19 (c_X2_copyFrom hI y4 (k := k) (j := 2) (k2 := k2) (by omega) (by omega) (by omega) hkk) mv_X6_41 (dm_2 (by omega) (by omega)) rfl rfl (hn := rfl) (hst := rfl) (hw := Nat.le_of_ble_eq_true rfl) (hR := ⟨⟨rfl, rfl⟩, Nat.le_of_ble_eq_true rfl, Nat.le_of_ble_eq_true rfl⟩) (hnc := ⟨Nat.zero_le _, Nat.zero_le _⟩) (fun y6 h6 => ?_)
  refine rm_iinc (v := 3) (ls' := [(0, .ref (ad k 0 0)), (1, .ref (ad k2 0 0)), (2, .int 3)]) hc dX6_copyFrom_22 rfl (by decide) (by decide) rfl ?_
  refine rm_goto (tgt := 2) hc dX6_copyFrom_25 (by decide) ?_
  refine rm_iload_n hc dX6_copyFrom_2 rfl rfl ?_
  refine rm_iconst (v := 4) hc dX6_copyFrom_3 (by decide) ?_
  refine rm_icmp_ge (tgt := 28) hc dX6_copyFrom_4 (by decide) (fun h => absurd h (by decide)) (fun _ => ?_)
  refine rm_aload_n hc dX6_copyFrom_7 rfl rfl ?_
  refine rm_get hc dX6_copyFrom_8 fl_X6_11 (dm_0 (by omega)) rfl rfl ?_
  refine rm_iload_n hc dX6_copyFrom_11 rfl rfl ?_
  refine rm_aald (t0 := 1) (i := 3) (v := .ref (ad k 2 3)) hc dX6_copyFrom_12 (dm_1 (by omega)) rfl rfl (by omega) (by decide) rfl rfl ?_
  refine rm_aload_n hc dX6_copyFrom_13 rfl rfl ?_
  refine rm_get hc dX6_copyFrom_14 fl_X6_11 (dm_0 (by omega)) rfl rfl ?_
  refine rm_iload_n hc dX6_copyFrom_17 rfl rfl ?_
  refine rm_aald (t0 := 1) (i := 3) (v := .ref (ad k2 2 3)) hc dX6_copyFrom_18 (dm_1 (by omega)) rfl rfl (by omega) (by decide) rfl rfl ?_
  refine rm_callvV (As := [.ref (ad k2 2 3)]) (rest := []) hc dX6_copyFrom_19 (c_X2_copyFrom hI y6 (k := k) (j := 3) (k2 := k2) (by omega) (by omega) (by omega) hkk) mv_X6_41 (dm_2 (by omega) (by omega)) rfl rfl (hn := rfl) (hst := rfl) (hw := Nat.le_of_ble_eq_true rfl) (hR := ⟨⟨rfl, rfl⟩, Nat.le_of_ble_eq_true rfl, Nat.le_of_ble_eq_true rfl⟩) (hnc := ⟨Nat.zero_le _, Nat.zero_le _⟩) (fun y8 h8 => ?_)
  refine rm_iinc (v := 4) (ls' := [(0, .ref (ad k 0 0)), (1, .ref (ad k2 0 0)), (2, .int 4)]) hc dX6_copyFrom_22 rfl (by decide) (by decide) rfl ?_
  refine rm_goto (tgt := 2) hc dX6_copyFrom_25 (by decide) ?_
  refine rm_iload_n hc dX6_copyFrom_2 rfl rfl ?_
  refine rm_iconst (v := 4) hc dX6_copyFrom_3 (by decide) ?_
  refine rm_icmp_ge (tgt := 28) hc dX6_copyFrom_4 (by decide) (fun _ => ?_) (fun h => absurd (by decide) h)
  refine rm_iconst (v := 0) hc dX6_copyFrom_28 (by decide) ?_
  refine rm_istore_n (ls' := [(0, .ref (ad k 0 0)), (1, .ref (ad k2 0 0)), (2, .int 0)]) hc dX6_copyFrom_29 rfl (by decide) rfl ?_
  refine rm_iload_n hc dX6_copyFrom_30 rfl rfl ?_
  refine rm_iconst (v := 3) hc dX6_copyFrom_31 (by decide) ?_
  refine rm_icmp_ge (tgt := 56) hc dX6_copyFrom_32 (by decide) (fun h => absurd h (by decide)) (fun _ => ?_)
  refine rm_aload_n hc dX6_copyFrom_35 rfl rfl ?_
  refine rm_get hc dX6_copyFrom_36 fl_X6_22 (dm_0 (by omega)) rfl rfl ?_
  refine rm_iload_n hc dX6_copyFrom_39 rfl rfl ?_
  refine rm_aald (t0 := 2) (i := 0) (v := .ref (ad k 4 0)) hc dX6_copyFrom_40 (dm_3 (by omega)) rfl rfl (by omega) (by decide) rfl rfl ?_
  refine rm_aload_n hc dX6_copyFrom_41 rfl rfl ?_
  refine rm_get hc dX6_copyFrom_42 fl_X6_22 (dm_0 (by omega)) rfl rfl ?_
  refine rm_iload_n hc dX6_copyFrom_45 rfl rfl ?_
  refine rm_aald (t0 := 2) (i := 0) (v := .ref (ad k2 4 0)) hc dX6_copyFrom_46 (dm_3 (by omega)) rfl rfl (by omega) (by decide) rfl rfl ?_
  refine rm_callvV (As := [.ref (ad k2 4 0)]) (rest := []) hc dX6_copyFrom_47 (c_X1_copyFrom hI y8 (k := k) (d := 0) (k2 := k2) (d2 := 0) (by omega) (by omega) (by omega) (by omega) (by omega) (by omega) hkk (fun q hq => by subst_vars; first | exact (hF 0 (by omega)).2 q hq | (simp only [cpS_b hkk]; exact (hF 0 (by omega)).2 q hq)) (by subst_vars; first | exact (hF 0 (by omega)).1 | (simp only [cpS_b hkk]; exact (hF 0 (by omega)).1))) mv_X6_45 (dm_4 (by omega) (by omega) (by omega)) rfl rfl (hn := rfl) (hst := rfl) (hw := Nat.le_of_ble_eq_true rfl) (hR := ⟨⟨rfl, rfl⟩, Nat.le_of_ble_eq_true rfl, Nat.le_of_ble_eq_true rfl⟩) (hnc := ⟨Nat.zero_le _, Nat.zero_le _⟩) (fun y11 h11 => ?_)
  refine rm_iinc (v := 1) (ls' := [(0, .ref (ad k 0 0)), (1, .ref (ad k2 0 0)), (2, .int 1)]) hc dX6_copyFrom_50 rfl (by decide) (by decide) rfl ?_
  refine rm_goto (tgt := 30) hc dX6_copyFrom_53 (by decide) ?_
  refine rm_iload_n hc dX6_copyFrom_30 rfl rfl ?_
  refine rm_iconst (v := 3) hc dX6_copyFrom_31 (by decide) ?_
  refine rm_icmp_ge (tgt := 56) hc dX6_copyFrom_32 (by decide) (fun h => absurd h (by decide)) (fun _ => ?_)
  refine rm_aload_n hc dX6_copyFrom_35 rfl rfl ?_
  refine rm_get hc dX6_copyFrom_36 fl_X6_22 (dm_0 (by omega)) rfl rfl ?_
  refine rm_iload_n hc dX6_copyFrom_39 rfl rfl ?_
  refine rm_aald (t0 := 2) (i := 1) (v := .ref (ad k 4 1)) hc dX6_copyFrom_40 (dm_3 (by omega)) rfl rfl (by omega) (by decide) rfl rfl ?_
  refine rm_aload_n hc dX6_copyFrom_41 rfl rfl ?_
  refine rm_get hc dX6_copyFrom_42 fl_X6_22 (dm_0 (by omega)) rfl rfl ?_
  refine rm_iload_n hc dX6_copyFrom_45 rfl rfl ?_
  refine rm_aald (t0 := 2) (i := 1) (v := .ref (ad k2 4 1)) hc dX6_copyFrom_46 (dm_3 (by omega)) rfl rfl (by omega) (by decide) rfl rfl ?_
  refine rm_callvV (As := [.ref (ad k2 4 1)]) (rest := []) hc dX6_copyFrom_47 (c_X1_copyFrom hI y11 (k := k) (d := 1) (k2 := k2) (d2 := 1) (by omega) (by omega) (by omega) (by omega) (by omega) (by omega) hkk (fun q hq => by subst_vars; first | exact (hF 1 (by omega)).2 q hq | (simp only [cpS_b hkk]; exact (hF 1 (by omega)).2 q hq)) (by subst_vars; first | exact (hF 1 (by omega)).1 | (simp only [cpS_b hkk]; exact (hF 1 (by omega)).1))) mv_X6_45 (dm_4 (by omega) (by omega) (by omega)) rfl rfl (hn := rfl) (hst := rfl) (hw := Nat.le_of_ble_eq_true rfl) (hR := ⟨⟨rfl, rfl⟩, Nat.le_of_ble_eq_true rfl, Nat.le_of_ble_eq_true rfl⟩) (hnc := ⟨Nat.zero_le _, Nat.zero_le _⟩) (fun y13 h13 => ?_)
  refine rm_iinc (v := 2) (ls' := [(0, .ref (ad k 0 0)), (1, .ref (ad k2 0 0)), (2, .int 2)]) hc dX6_copyFrom_50 rfl (by decide) (by decide) rfl ?_
  refine rm_goto (tgt := 30) hc dX6_copyFrom_53 (by decide) ?_
  refine rm_iload_n hc dX6_copyFrom_30 rfl rfl ?_
  refine rm_iconst (v := 3) hc dX6_copyFrom_31 (by decide) ?_
  refine rm_icmp_ge (tgt := 56) hc dX6_copyFrom_32 (by decide) (fun h => absurd h (by decide)) (fun _ => ?_)
  refine rm_aload_n hc dX6_copyFrom_35 rfl rfl ?_
  refine rm_get hc dX6_copyFrom_36 fl_X6_22 (dm_0 (by omega)) rfl rfl ?_
  refine rm_iload_n hc dX6_copyFrom_39 rfl rfl ?_
  refine rm_aald (t0 := 2) (i := 2) (v := .ref (ad k 4 2)) hc dX6_copyFrom_40 (dm_3 (by omega)) rfl rfl (by omega) (by decide) rfl rfl ?_
  refine rm_aload_n hc dX6_copyFrom_41 rfl rfl ?_
  refine rm_get hc dX6_copyFrom_42 fl_X6_22 (dm_0 (by omega)) rfl rfl ?_
  refine rm_iload_n hc dX6_copyFrom_45 rfl rfl ?_
  refine rm_aald (t0 := 2) (i := 2) (v := .ref (ad k2 4 2)) hc dX6_copyFrom_46 (dm_3 (by omega)) rfl rfl (by omega) (by decide) rfl rfl ?_
  refine rm_callvV (As := [.ref (ad k2 4 2)]) (rest := []) hc dX6_copyFrom_47 (c_X1_copyFrom hI y13 (k := k) (d := 2) (k2 := k2) (d2 := 2) (by omega) (by omega) (by omega) (by omega) (by omega) (by omega) hkk (fun q hq => by subst_vars; first | exact (hF 2 (by omega)).2 q hq | (simp only [cpS_b hkk]; exact (hF 2 (by omega)).2 q hq)) (by subst_vars; first | exact (hF 2 (by omega)).1 | (simp only [cpS_b hkk]; exact (hF 2 (by omega)).1))) mv_X6_45 (dm_4 (by omega) (by omega) (by omega)) rfl rfl (hn := rfl) (hst := rfl) (hw := Nat.le_of_ble_eq_true rfl) (hR := ⟨⟨rfl, rfl⟩, Nat.le_of_ble_eq_true rfl, Nat.le_of_ble_eq_true rfl⟩) (hnc := ⟨Nat.zero_le _, Nat.zero_le _⟩) (fun y15 h15 => ?_)
  refine rm_iinc (v := 3) (ls' := [(0, .ref (ad k 0 0)), (1, .ref (ad k2 0 0)), (2, .int 3)]) hc dX6_copyFrom_50 rfl (by decide) (by decide) rfl ?_
  refine rm_goto (tgt := 30) hc dX6_copyFrom_53 (by decide) ?_
  refine rm_iload_n hc dX6_copyFrom_30 rfl rfl ?_
  refine rm_iconst (v := 3) hc dX6_copyFrom_31 (by decide) ?_
  refine rm_icmp_ge (tgt := 56) hc dX6_copyFrom_32 (by decide) (fun _ => ?_) (fun h => absurd (by decide) h)
  refine rm_aload_n hc dX6_copyFrom_56 rfl rfl ?_
  refine rm_get hc dX6_copyFrom_57 fl_X6_30 (dm_0 (by omega)) rfl rfl ?_
  refine rm_aload_n hc dX6_copyFrom_60 rfl rfl ?_
  refine rm_get hc dX6_copyFrom_61 fl_X6_30 (dm_0 (by omega)) rfl rfl ?_
  refine rm_callvV (As := [.ref (ad k2 6 0)]) (rest := []) hc dX6_copyFrom_64 (c_X0_copyFrom hI y15 (k := k) (k2 := k2) (by omega) (by omega) hkk) mv_X6_48 (dm_6 (by omega)) rfl rfl (hn := rfl) (hst := rfl) (hw := Nat.le_of_ble_eq_true rfl) (hR := ⟨⟨rfl, rfl⟩, Nat.le_of_ble_eq_true rfl, Nat.le_of_ble_eq_true rfl⟩) (hnc := ⟨Nat.zero_le _, Nat.zero_le _⟩) (fun y17 h17 => ?_)
  refine rm_aload_n hc dX6_copyFrom_67 rfl rfl ?_
  refine rm_get hc dX6_copyFrom_68 fl_X6_37 (dm_0 (by omega)) rfl rfl ?_
  refine rm_aload_n hc dX6_copyFrom_71 rfl rfl ?_
  refine rm_get hc dX6_copyFrom_72 fl_X6_37 (dm_0 (by omega)) rfl rfl ?_
  refine rm_callvV (As := [.ref (ad k2 8 0)]) (rest := []) hc dX6_copyFrom_75 (c_X4_copyFrom hI y17 (k := k) (k2 := k2) (by omega) (by omega) hkk) mv_X6_51 (dm_8 (by omega)) rfl rfl (hn := rfl) (hst := rfl) (hw := Nat.le_of_ble_eq_true rfl) (hR := ⟨⟨rfl, rfl⟩, Nat.le_of_ble_eq_true rfl, Nat.le_of_ble_eq_true rfl⟩) (hnc := ⟨Nat.zero_le _, Nat.zero_le _⟩) (fun y18 h18 => ?_)
  refine rm_aload_n hc dX6_copyFrom_78 rfl rfl ?_
  refine rm_aload_n hc dX6_copyFrom_79 rfl rfl ?_
  refine rm_geti hc dX6_copyFrom_80 fl_X6_54 (dm_0 (by omega)) rfl rfl (fun v19 e19 => ?_)
  refine rm_put hc dX6_copyFrom_83 fl_X6_54 (dm_0 (by omega)) rfl (Nat.le_of_ble_eq_true rfl) ft_6_4 rfl rfl (so_0_4 (by omega)) (rm_nm (fun x20 ex20 => ?_))
  refine rm_aload_n hc dX6_copyFrom_86 rfl rfl ?_
  refine rm_aload_n hc dX6_copyFrom_87 rfl rfl ?_
  refine rm_geti hc dX6_copyFrom_88 fl_X6_58 (dm_0 (by omega)) rfl rfl (fun v21 e21 => ?_)
  refine rm_put hc dX6_copyFrom_91 fl_X6_58 (dm_0 (by omega)) rfl (Nat.le_of_ble_eq_true rfl) ft_6_5 rfl rfl (so_0_5 (by omega)) (rm_nm (fun x22 ex22 => ?_))
  exact rm_vret hc dX6_copyFrom_94 (by subst_vars; simp only [Nat.reduceMul, Nat.reduceAdd, cpS_b hkk, up_b _ _ _ hkk]; exact cpStateF hkk)
end
