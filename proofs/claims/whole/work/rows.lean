section
-- ===== PART A: goes FIRST, ahead of the names: the tables' words, and 'selects' of the private methods out of them =====
/-- a private method of a class that the tables say can be made, by its rows of tables_1 -/
def lw_okq (q : MethodName × Nat) : Prop := (q.1.cls ≠ "java/lang/invoke/MethodHandle" ∧ q.1.cls ≠ "java/lang/invoke/VarHandle") ∧ Cond.instantiable q.1.cls q.2 ∈ tables_1 ∧ Cond.privateMethod q.1 ∈ tables_1 ∧ Cond.instanceMethod q.1 ∈ tables_1
theorem lw_p0 : lw_okq (⟨"RollingFob", "counted", "(I)I"⟩, 4) := ⟨⟨by decide +kernel, by decide +kernel⟩, List.mem_of_getElem? (i := 22) (by decide +kernel), List.mem_of_getElem? (i := 270) (by decide +kernel), List.mem_of_getElem? (i := 271) (by decide +kernel)⟩
theorem lw_p1 : lw_okq (⟨"RollingFob", "mixedDoor", "(JLRollingFob$Door;)J"⟩, 4) := ⟨⟨by decide +kernel, by decide +kernel⟩, List.mem_of_getElem? (i := 22) (by decide +kernel), List.mem_of_getElem? (i := 310) (by decide +kernel), List.mem_of_getElem? (i := 311) (by decide +kernel)⟩
theorem lw_p2 : lw_okq (⟨"RollingFob", "firstUseful", "(LRollingFob$Door;)I"⟩, 4) := ⟨⟨by decide +kernel, by decide +kernel⟩, List.mem_of_getElem? (i := 22) (by decide +kernel), List.mem_of_getElem? (i := 328) (by decide +kernel), List.mem_of_getElem? (i := 329) (by decide +kernel)⟩
theorem lw_p3 : lw_okq (⟨"RollingFob", "tryNumber", "(LRollingFob$Door;I)I"⟩, 4) := ⟨⟨by decide +kernel, by decide +kernel⟩, List.mem_of_getElem? (i := 22) (by decide +kernel), List.mem_of_getElem? (i := 336) (by decide +kernel), List.mem_of_getElem? (i := 337) (by decide +kernel)⟩
theorem lw_p4 : lw_okq (⟨"RollingFob", "pressesToOpen", "(LRollingFob$Fob;LRollingFob$Door;)I"⟩, 4) := ⟨⟨by decide +kernel, by decide +kernel⟩, List.mem_of_getElem? (i := 22) (by decide +kernel), List.mem_of_getElem? (i := 362) (by decide +kernel), List.mem_of_getElem? (i := 363) (by decide +kernel)⟩
theorem lw_p5 : lw_okq (⟨"RollingFob", "mostUnheard", "(LRollingFob$Fob;LRollingFob$Door;)I"⟩, 4) := ⟨⟨by decide +kernel, by decide +kernel⟩, List.mem_of_getElem? (i := 22) (by decide +kernel), List.mem_of_getElem? (i := 371) (by decide +kernel), List.mem_of_getElem? (i := 372) (by decide +kernel)⟩
theorem lw_p6 : lw_okq (⟨"java/lang/Throwable", "fillInStackTrace", "(I)Ljava/lang/Throwable;"⟩, 6) := ⟨⟨by decide +kernel, by decide +kernel⟩, List.mem_of_getElem? (i := 433) (by decide +kernel), List.mem_of_getElem? (i := 431) (by decide +kernel), List.mem_of_getElem? (i := 432) (by decide +kernel)⟩
theorem lw_p7 : lw_okq (⟨"RollingFob$State", "send", "(II)I"⟩, 6) := ⟨⟨by decide +kernel, by decide +kernel⟩, List.mem_of_getElem? (i := 30) (by decide +kernel), List.mem_of_getElem? (i := 555) (by decide +kernel), List.mem_of_getElem? (i := 556) (by decide +kernel)⟩
theorem lw_p8 : lw_okq (⟨"RollingFob", "playPart", "(II)Z"⟩, 4) := ⟨⟨by decide +kernel, by decide +kernel⟩, List.mem_of_getElem? (i := 22) (by decide +kernel), List.mem_of_getElem? (i := 662) (by decide +kernel), List.mem_of_getElem? (i := 663) (by decide +kernel)⟩
theorem lw_p9 : lw_okq (⟨"RollingFobModel", "fails", "(I)I"⟩, 13) := ⟨⟨by decide +kernel, by decide +kernel⟩, List.mem_of_getElem? (i := 761) (by decide +kernel), List.mem_of_getElem? (i := 815) (by decide +kernel), List.mem_of_getElem? (i := 816) (by decide +kernel)⟩
theorem lw_p10 : lw_okq (⟨"RollingFobModel", "saves", "()V"⟩, 13) := ⟨⟨by decide +kernel, by decide +kernel⟩, List.mem_of_getElem? (i := 761) (by decide +kernel), List.mem_of_getElem? (i := 832) (by decide +kernel), List.mem_of_getElem? (i := 833) (by decide +kernel)⟩
theorem lw_p11 : lw_okq (⟨"RollingFobModel", "changes", "(II)I"⟩, 13) := ⟨⟨by decide +kernel, by decide +kernel⟩, List.mem_of_getElem? (i := 761) (by decide +kernel), List.mem_of_getElem? (i := 836) (by decide +kernel), List.mem_of_getElem? (i := 837) (by decide +kernel)⟩
theorem lw_p12 : lw_okq (⟨"RollingFobModel", "presses", "([III)I"⟩, 13) := ⟨⟨by decide +kernel, by decide +kernel⟩, List.mem_of_getElem? (i := 761) (by decide +kernel), List.mem_of_getElem? (i := 848) (by decide +kernel), List.mem_of_getElem? (i := 849) (by decide +kernel)⟩
theorem lw_p13 : lw_okq (⟨"RollingFobModel", "heard", "([III)I"⟩, 13) := ⟨⟨by decide +kernel, by decide +kernel⟩, List.mem_of_getElem? (i := 761) (by decide +kernel), List.mem_of_getElem? (i := 863) (by decide +kernel), List.mem_of_getElem? (i := 864) (by decide +kernel)⟩
theorem lw_p14 : lw_okq (⟨"RollingFobModel", "hears", "([III)Z"⟩, 13) := ⟨⟨by decide +kernel, by decide +kernel⟩, List.mem_of_getElem? (i := 761) (by decide +kernel), List.mem_of_getElem? (i := 867) (by decide +kernel), List.mem_of_getElem? (i := 868) (by decide +kernel)⟩
theorem lw_p15 : lw_okq (⟨"RollingFobModel", "would", "([III)I"⟩, 13) := ⟨⟨by decide +kernel, by decide +kernel⟩, List.mem_of_getElem? (i := 761) (by decide +kernel), List.mem_of_getElem? (i := 871) (by decide +kernel), List.mem_of_getElem? (i := 872) (by decide +kernel)⟩
def lw_privs_1 : List (MethodName × Nat) := [(⟨"RollingFob", "counted", "(I)I"⟩, 4), (⟨"RollingFob", "mixedDoor", "(JLRollingFob$Door;)J"⟩, 4), (⟨"RollingFob", "firstUseful", "(LRollingFob$Door;)I"⟩, 4), (⟨"RollingFob", "tryNumber", "(LRollingFob$Door;I)I"⟩, 4), (⟨"RollingFob", "pressesToOpen", "(LRollingFob$Fob;LRollingFob$Door;)I"⟩, 4), (⟨"RollingFob", "mostUnheard", "(LRollingFob$Fob;LRollingFob$Door;)I"⟩, 4), (⟨"java/lang/Throwable", "fillInStackTrace", "(I)Ljava/lang/Throwable;"⟩, 6), (⟨"RollingFob$State", "send", "(II)I"⟩, 6), (⟨"RollingFob", "playPart", "(II)Z"⟩, 4), (⟨"RollingFobModel", "fails", "(I)I"⟩, 13), (⟨"RollingFobModel", "saves", "()V"⟩, 13), (⟨"RollingFobModel", "changes", "(II)I"⟩, 13), (⟨"RollingFobModel", "presses", "([III)I"⟩, 13), (⟨"RollingFobModel", "heard", "([III)I"⟩, 13), (⟨"RollingFobModel", "hears", "([III)Z"⟩, 13), (⟨"RollingFobModel", "would", "([III)I"⟩, 13)]
theorem lw_r1 : ∀ q ∈ lw_privs_1, lw_okq q := List.forall_mem_cons.mpr ⟨lw_p0, List.forall_mem_cons.mpr ⟨lw_p1, List.forall_mem_cons.mpr ⟨lw_p2, List.forall_mem_cons.mpr ⟨lw_p3, List.forall_mem_cons.mpr ⟨lw_p4, List.forall_mem_cons.mpr ⟨lw_p5, List.forall_mem_cons.mpr ⟨lw_p6, List.forall_mem_cons.mpr ⟨lw_p7, List.forall_mem_cons.mpr ⟨lw_p8, List.forall_mem_cons.mpr ⟨lw_p9, List.forall_mem_cons.mpr ⟨lw_p10, List.forall_mem_cons.mpr ⟨lw_p11, List.forall_mem_cons.mpr ⟨lw_p12, List.forall_mem_cons.mpr ⟨lw_p13, List.forall_mem_cons.mpr ⟨lw_p14, List.forall_mem_cons.mpr ⟨lw_p15, fun _ h => absurd h List.not_mem_nil⟩⟩⟩⟩⟩⟩⟩⟩⟩⟩⟩⟩⟩⟩⟩⟩
theorem lw_p16 : lw_okq (⟨"RollingFobModel", "looks", "([III)V"⟩, 13) := ⟨⟨by decide +kernel, by decide +kernel⟩, List.mem_of_getElem? (i := 761) (by decide +kernel), List.mem_of_getElem? (i := 878) (by decide +kernel), List.mem_of_getElem? (i := 879) (by decide +kernel)⟩
theorem lw_p17 : lw_okq (⟨"RollingFobModel", "sends", "(II)I"⟩, 13) := ⟨⟨by decide +kernel, by decide +kernel⟩, List.mem_of_getElem? (i := 761) (by decide +kernel), List.mem_of_getElem? (i := 889) (by decide +kernel), List.mem_of_getElem? (i := 890) (by decide +kernel)⟩
theorem lw_p18 : lw_okq (⟨"RollingFobModel", "learnt", "(I)I"⟩, 13) := ⟨⟨by decide +kernel, by decide +kernel⟩, List.mem_of_getElem? (i := 761) (by decide +kernel), List.mem_of_getElem? (i := 906) (by decide +kernel), List.mem_of_getElem? (i := 907) (by decide +kernel)⟩
theorem lw_p19 : lw_okq (⟨"RollingFobModel", "isText", "()Z"⟩, 13) := ⟨⟨by decide +kernel, by decide +kernel⟩, List.mem_of_getElem? (i := 761) (by decide +kernel), List.mem_of_getElem? (i := 938) (by decide +kernel), List.mem_of_getElem? (i := 939) (by decide +kernel)⟩
theorem lw_p20 : lw_okq (⟨"RollingFobModel", "isPart", "()Z"⟩, 13) := ⟨⟨by decide +kernel, by decide +kernel⟩, List.mem_of_getElem? (i := 761) (by decide +kernel), List.mem_of_getElem? (i := 942) (by decide +kernel), List.mem_of_getElem? (i := 943) (by decide +kernel)⟩
theorem lw_p21 : lw_okq (⟨"RollingFobModel", "stops", "()Z"⟩, 13) := ⟨⟨by decide +kernel, by decide +kernel⟩, List.mem_of_getElem? (i := 761) (by decide +kernel), List.mem_of_getElem? (i := 946) (by decide +kernel), List.mem_of_getElem? (i := 947) (by decide +kernel)⟩
theorem lw_p22 : lw_okq (⟨"RollingFobModel", "isDigit", "(I)Z"⟩, 13) := ⟨⟨by decide +kernel, by decide +kernel⟩, List.mem_of_getElem? (i := 761) (by decide +kernel), List.mem_of_getElem? (i := 950) (by decide +kernel), List.mem_of_getElem? (i := 951) (by decide +kernel)⟩
theorem lw_p23 : lw_okq (⟨"RollingFobModel", "isAt", "(II)Z"⟩, 13) := ⟨⟨by decide +kernel, by decide +kernel⟩, List.mem_of_getElem? (i := 761) (by decide +kernel), List.mem_of_getElem? (i := 954) (by decide +kernel), List.mem_of_getElem? (i := 955) (by decide +kernel)⟩
theorem lw_p24 : lw_okq (⟨"RollingFobModel", "areDoors", "()Z"⟩, 13) := ⟨⟨by decide +kernel, by decide +kernel⟩, List.mem_of_getElem? (i := 761) (by decide +kernel), List.mem_of_getElem? (i := 958) (by decide +kernel), List.mem_of_getElem? (i := 959) (by decide +kernel)⟩
theorem lw_p25 : lw_okq (⟨"RollingFobModel", "does", "(I)Z"⟩, 13) := ⟨⟨by decide +kernel, by decide +kernel⟩, List.mem_of_getElem? (i := 761) (by decide +kernel), List.mem_of_getElem? (i := 966) (by decide +kernel), List.mem_of_getElem? (i := 967) (by decide +kernel)⟩
theorem lw_p26 : lw_okq (⟨"RollingFobModel", "ofFob", "(II)I"⟩, 13) := ⟨⟨by decide +kernel, by decide +kernel⟩, List.mem_of_getElem? (i := 761) (by decide +kernel), List.mem_of_getElem? (i := 974) (by decide +kernel), List.mem_of_getElem? (i := 975) (by decide +kernel)⟩
theorem lw_p27 : lw_okq (⟨"RollingFobModel", "ofSlot", "(III)I"⟩, 13) := ⟨⟨by decide +kernel, by decide +kernel⟩, List.mem_of_getElem? (i := 761) (by decide +kernel), List.mem_of_getElem? (i := 982) (by decide +kernel), List.mem_of_getElem? (i := 983) (by decide +kernel)⟩
theorem lw_p28 : lw_okq (⟨"RollingFobModel", "ofDoor", "(II)I"⟩, 13) := ⟨⟨by decide +kernel, by decide +kernel⟩, List.mem_of_getElem? (i := 761) (by decide +kernel), List.mem_of_getElem? (i := 990) (by decide +kernel), List.mem_of_getElem? (i := 991) (by decide +kernel)⟩
theorem lw_p29 : lw_okq (⟨"RollingFobModel", "counted", "(I)I"⟩, 13) := ⟨⟨by decide +kernel, by decide +kernel⟩, List.mem_of_getElem? (i := 761) (by decide +kernel), List.mem_of_getElem? (i := 1002) (by decide +kernel), List.mem_of_getElem? (i := 1003) (by decide +kernel)⟩
theorem lw_p30 : lw_okq (⟨"RollingFobModel", "ofDoors", "(I)I"⟩, 13) := ⟨⟨by decide +kernel, by decide +kernel⟩, List.mem_of_getElem? (i := 761) (by decide +kernel), List.mem_of_getElem? (i := 1006) (by decide +kernel), List.mem_of_getElem? (i := 1007) (by decide +kernel)⟩
theorem lw_p31 : lw_okq (⟨"RollingFobModel", "opens", "(II)I"⟩, 13) := ⟨⟨by decide +kernel, by decide +kernel⟩, List.mem_of_getElem? (i := 761) (by decide +kernel), List.mem_of_getElem? (i := 1023) (by decide +kernel), List.mem_of_getElem? (i := 1024) (by decide +kernel)⟩
def lw_privs_2 : List (MethodName × Nat) := [(⟨"RollingFobModel", "looks", "([III)V"⟩, 13), (⟨"RollingFobModel", "sends", "(II)I"⟩, 13), (⟨"RollingFobModel", "learnt", "(I)I"⟩, 13), (⟨"RollingFobModel", "isText", "()Z"⟩, 13), (⟨"RollingFobModel", "isPart", "()Z"⟩, 13), (⟨"RollingFobModel", "stops", "()Z"⟩, 13), (⟨"RollingFobModel", "isDigit", "(I)Z"⟩, 13), (⟨"RollingFobModel", "isAt", "(II)Z"⟩, 13), (⟨"RollingFobModel", "areDoors", "()Z"⟩, 13), (⟨"RollingFobModel", "does", "(I)Z"⟩, 13), (⟨"RollingFobModel", "ofFob", "(II)I"⟩, 13), (⟨"RollingFobModel", "ofSlot", "(III)I"⟩, 13), (⟨"RollingFobModel", "ofDoor", "(II)I"⟩, 13), (⟨"RollingFobModel", "counted", "(I)I"⟩, 13), (⟨"RollingFobModel", "ofDoors", "(I)I"⟩, 13), (⟨"RollingFobModel", "opens", "(II)I"⟩, 13)]
theorem lw_r2 : ∀ q ∈ lw_privs_2, lw_okq q := List.forall_mem_cons.mpr ⟨lw_p16, List.forall_mem_cons.mpr ⟨lw_p17, List.forall_mem_cons.mpr ⟨lw_p18, List.forall_mem_cons.mpr ⟨lw_p19, List.forall_mem_cons.mpr ⟨lw_p20, List.forall_mem_cons.mpr ⟨lw_p21, List.forall_mem_cons.mpr ⟨lw_p22, List.forall_mem_cons.mpr ⟨lw_p23, List.forall_mem_cons.mpr ⟨lw_p24, List.forall_mem_cons.mpr ⟨lw_p25, List.forall_mem_cons.mpr ⟨lw_p26, List.forall_mem_cons.mpr ⟨lw_p27, List.forall_mem_cons.mpr ⟨lw_p28, List.forall_mem_cons.mpr ⟨lw_p29, List.forall_mem_cons.mpr ⟨lw_p30, List.forall_mem_cons.mpr ⟨lw_p31, fun _ h => absurd h List.not_mem_nil⟩⟩⟩⟩⟩⟩⟩⟩⟩⟩⟩⟩⟩⟩⟩⟩
theorem lw_p32 : lw_okq (⟨"RollingFobModel", "misses", "(II)I"⟩, 13) := ⟨⟨by decide +kernel, by decide +kernel⟩, List.mem_of_getElem? (i := 761) (by decide +kernel), List.mem_of_getElem? (i := 1031) (by decide +kernel), List.mem_of_getElem? (i := 1032) (by decide +kernel)⟩
theorem lw_p33 : lw_okq (⟨"RollingFobModel", "first", "(I)I"⟩, 13) := ⟨⟨by decide +kernel, by decide +kernel⟩, List.mem_of_getElem? (i := 761) (by decide +kernel), List.mem_of_getElem? (i := 1039) (by decide +kernel), List.mem_of_getElem? (i := 1040) (by decide +kernel)⟩
theorem lw_p34 : lw_okq (⟨"RollingFobModel", "share", "()D"⟩, 13) := ⟨⟨by decide +kernel, by decide +kernel⟩, List.mem_of_getElem? (i := 761) (by decide +kernel), List.mem_of_getElem? (i := 1047) (by decide +kernel), List.mem_of_getElem? (i := 1048) (by decide +kernel)⟩
def lw_privs_3 : List (MethodName × Nat) := [(⟨"RollingFobModel", "misses", "(II)I"⟩, 13), (⟨"RollingFobModel", "first", "(I)I"⟩, 13), (⟨"RollingFobModel", "share", "()D"⟩, 13)]
theorem lw_r3 : ∀ q ∈ lw_privs_3, lw_okq q := List.forall_mem_cons.mpr ⟨lw_p32, List.forall_mem_cons.mpr ⟨lw_p33, List.forall_mem_cons.mpr ⟨lw_p34, fun _ h => absurd h List.not_mem_nil⟩⟩⟩
def lw_privs : List (MethodName × Nat) := lw_privs_1 ++ (lw_privs_2 ++ (lw_privs_3))
def lw_tbl : List Cond := k2_sels lw_privs ++ tables_1
theorem lw_privs_ok : ∀ q ∈ lw_privs, lw_okq q := by
  show ∀ q ∈ lw_privs_1 ++ (lw_privs_2 ++ (lw_privs_3)), lw_okq q
  exact List.forall_mem_append.mpr ⟨lw_r1, List.forall_mem_append.mpr ⟨lw_r2, lw_r3⟩⟩
/-- the streams that the claim lets the run draw from -/
abbrev lw_cs : List Choice := [Jvm.Choice.named "NaN.bits"]
theorem lw_bits : nanBits ∈ lw_cs := by first | decide | exact List.mem_cons_self | simp [lw_cs, nanBits]
def RX0 : String := "RollingFob$Air"
def TX0 : u_T := fun k => match k with
  | 0 => ("RollingFob$Air", "numbers", "[I", true)
  | _ => ("RollingFob$Air", "length", "I", false)
def tyX0 : Nat → FieldType := fun k => match k with
  | 0 => .array .int
  | _ => .int
abbrev wsX00 : List Cond := u_ws RX0 TX0 2
theorem nmX0 : ∀ a, a < 2 → ∀ b, b < 2 → a ≠ b → (TX0 a).2.1 ≠ (TX0 b).2.1 := by decide +kernel
theorem tyX0_ok : ∀ k, k < 2 → parseFieldDescriptor (TX0 k).2.2.1 = some (tyX0 k) := by decide +kernel
abbrev cX0_init : ByteArray := prog_2_method_1_code
def yX0_init : MethodName := ⟨RX0, "<init>", "()V"⟩
abbrev cX0_copyFrom : ByteArray := prog_2_method_2_code
def yX0_copyFrom : MethodName := ⟨RX0, "copyFrom", "(LRollingFob$Air;)V"⟩
abbrev cX0_record : ByteArray := prog_2_method_3_code
def yX0_record : MethodName := ⟨RX0, "record", "(I)V"⟩
abbrev cX0_number : ByteArray := prog_2_method_4_code
def yX0_number : MethodName := ⟨RX0, "number", "(I)I"⟩
def RX1 : String := "RollingFob$Door"
def TX1 : u_T := fun k => match k with
  | 0 => ("RollingFob$Door", "slots", "[LRollingFob$Slot;", true)
  | 1 => ("RollingFob$Door", "open", "Z", false)
  | 2 => ("RollingFob$Door", "wrongInRow", "I", false)
  | 3 => ("RollingFob$Door", "opened", "I", false)
  | 4 => ("RollingFob$Door", "notes", "I", false)
  | 5 => ("RollingFob$Door", "wrongs", "I", false)
  | _ => ("RollingFob$Door", "heardLocked", "I", false)
def tyX1 : Nat → FieldType := fun k => match k with
  | 0 => .array (.object "RollingFob$Slot")
  | 1 => .boolean
  | 2 => .int
  | 3 => .int
  | 4 => .int
  | 5 => .int
  | _ => .int
abbrev wsX10 : List Cond := u_ws RX1 TX1 7
theorem nmX1 : ∀ a, a < 7 → ∀ b, b < 7 → a ≠ b → (TX1 a).2.1 ≠ (TX1 b).2.1 := by decide +kernel
theorem tyX1_ok : ∀ k, k < 7 → parseFieldDescriptor (TX1 k).2.2.1 = some (tyX1 k) := by decide +kernel
abbrev cX1_init : ByteArray := prog_3_method_1_code
def yX1_init : MethodName := ⟨RX1, "<init>", "()V"⟩
abbrev cX1_copyFrom : ByteArray := prog_3_method_2_code
def yX1_copyFrom : MethodName := ⟨RX1, "copyFrom", "(LRollingFob$Door;)V"⟩
abbrev cX1_isLocked : ByteArray := prog_3_method_3_code
def yX1_isLocked : MethodName := ⟨RX1, "isLocked", "(LRollingFob$Settings;)Z"⟩
abbrev cX1_learntSlots : ByteArray := prog_3_method_4_code
def yX1_learntSlots : MethodName := ⟨RX1, "learntSlots", "()I"⟩
abbrev cX1_hear : ByteArray := prog_3_method_5_code
def yX1_hear : MethodName := ⟨RX1, "hear", "(ILRollingFob$Settings;)I"⟩
abbrev cX1_look : ByteArray := prog_3_method_6_code
def yX1_look : MethodName := ⟨RX1, "look", "(ILRollingFob$Settings;)I"⟩
def RX2 : String := "RollingFob$Fob"
def TX2 : u_T := fun k => match k with
  | 0 => ("RollingFob$Fob", "secret", "I", false)
  | 1 => ("RollingFob$Fob", "counter", "I", false)
  | 2 => ("RollingFob$Fob", "battery", "I", false)
  | _ => ("RollingFob$Fob", "presses", "I", false)
def tyX2 : Nat → FieldType := fun k => match k with
  | 0 => .int
  | 1 => .int
  | 2 => .int
  | _ => .int
abbrev wsX20 : List Cond := u_ws RX2 TX2 4
theorem nmX2 : ∀ a, a < 4 → ∀ b, b < 4 → a ≠ b → (TX2 a).2.1 ≠ (TX2 b).2.1 := by decide +kernel
theorem tyX2_ok : ∀ k, k < 4 → parseFieldDescriptor (TX2 k).2.2.1 = some (tyX2 k) := by decide +kernel
abbrev cX2_init : ByteArray := prog_4_method_1_code
def yX2_init : MethodName := ⟨RX2, "<init>", "(I)V"⟩
abbrev cX2_copyFrom : ByteArray := prog_4_method_2_code
def yX2_copyFrom : MethodName := ⟨RX2, "copyFrom", "(LRollingFob$Fob;)V"⟩
abbrev cX2_sendNext : ByteArray := prog_4_method_3_code
def yX2_sendNext : MethodName := ⟨RX2, "sendNext", "()I"⟩
abbrev cX2_look : ByteArray := prog_4_method_4_code
def yX2_look : MethodName := ⟨RX2, "look", "(I)I"⟩
def RX3 : String := "RollingFob$History"
def TX3 : u_T := fun k => match k with
  | 0 => ("RollingFob$History", "saved", "[LRollingFob$State;", true)
  | 1 => ("RollingFob$History", "next", "I", false)
  | _ => ("RollingFob$History", "length", "I", false)
def tyX3 : Nat → FieldType := fun k => match k with
  | 0 => .array (.object "RollingFob$State")
  | 1 => .int
  | _ => .int
abbrev wsX30 : List Cond := u_ws RX3 TX3 3
theorem nmX3 : ∀ a, a < 3 → ∀ b, b < 3 → a ≠ b → (TX3 a).2.1 ≠ (TX3 b).2.1 := by decide +kernel
theorem tyX3_ok : ∀ k, k < 3 → parseFieldDescriptor (TX3 k).2.2.1 = some (tyX3 k) := by decide +kernel
abbrev cX3_init : ByteArray := prog_5_method_1_code
def yX3_init : MethodName := ⟨RX3, "<init>", "()V"⟩
abbrev cX3_keep : ByteArray := prog_5_method_2_code
def yX3_keep : MethodName := ⟨RX3, "keep", "(LRollingFob$State;)V"⟩
abbrev cX3_restore : ByteArray := prog_5_method_3_code
def yX3_restore : MethodName := ⟨RX3, "restore", "(LRollingFob$State;)V"⟩
def RX4 : String := "RollingFob$Settings"
def TX4 : u_T := fun k => match k with
  | 0 => ("RollingFob$Settings", "window", "I", false)
  | 1 => ("RollingFob$Settings", "wide", "I", false)
  | _ => ("RollingFob$Settings", "lock", "I", false)
def tyX4 : Nat → FieldType := fun k => match k with
  | 0 => .int
  | 1 => .int
  | _ => .int
abbrev wsX40 : List Cond := u_ws RX4 TX4 3
theorem nmX4 : ∀ a, a < 3 → ∀ b, b < 3 → a ≠ b → (TX4 a).2.1 ≠ (TX4 b).2.1 := by decide +kernel
theorem tyX4_ok : ∀ k, k < 3 → parseFieldDescriptor (TX4 k).2.2.1 = some (tyX4 k) := by decide +kernel
abbrev cX4_init : ByteArray := prog_6_method_1_code
def yX4_init : MethodName := ⟨RX4, "<init>", "()V"⟩
abbrev cX4_least : ByteArray := prog_6_method_2_code
def yX4_least : MethodName := ⟨RX4, "least", "(I)I"⟩
abbrev cX4_most : ByteArray := prog_6_method_3_code
def yX4_most : MethodName := ⟨RX4, "most", "(I)I"⟩
abbrev cX4_copyFrom : ByteArray := prog_6_method_4_code
def yX4_copyFrom : MethodName := ⟨RX4, "copyFrom", "(LRollingFob$Settings;)V"⟩
abbrev cX4_value : ByteArray := prog_6_method_5_code
def yX4_value : MethodName := ⟨RX4, "value", "(I)I"⟩
abbrev cX4_change : ByteArray := prog_6_method_6_code
def yX4_change : MethodName := ⟨RX4, "change", "(II)V"⟩
def RX5 : String := "RollingFob$Slot"
def TX5 : u_T := fun k => match k with
  | 0 => ("RollingFob$Slot", "learnt", "Z", false)
  | 1 => ("RollingFob$Slot", "secret", "I", false)
  | 2 => ("RollingFob$Slot", "last", "I", false)
  | _ => ("RollingFob$Slot", "noted", "I", false)
def tyX5 : Nat → FieldType := fun k => match k with
  | 0 => .boolean
  | 1 => .int
  | 2 => .int
  | _ => .int
abbrev wsX50 : List Cond := u_ws RX5 TX5 4
theorem nmX5 : ∀ a, a < 4 → ∀ b, b < 4 → a ≠ b → (TX5 a).2.1 ≠ (TX5 b).2.1 := by decide +kernel
theorem tyX5_ok : ∀ k, k < 4 → parseFieldDescriptor (TX5 k).2.2.1 = some (tyX5 k) := by decide +kernel
abbrev cX5_init : ByteArray := prog_7_method_1_code
def yX5_init : MethodName := ⟨RX5, "<init>", "()V"⟩
abbrev cX5_copyFrom : ByteArray := prog_7_method_2_code
def yX5_copyFrom : MethodName := ⟨RX5, "copyFrom", "(LRollingFob$Slot;)V"⟩
abbrev cX5_learnFrom : ByteArray := prog_7_method_3_code
def yX5_learnFrom : MethodName := ⟨RX5, "learnFrom", "(LRollingFob$Fob;)V"⟩
abbrev cX5_empty : ByteArray := prog_7_method_4_code
def yX5_empty : MethodName := ⟨RX5, "empty", "()V"⟩
abbrev cX5_stepsTo : ByteArray := prog_7_method_5_code
def yX5_stepsTo : MethodName := ⟨RX5, "stepsTo", "(II)I"⟩
abbrev cX5_take : ByteArray := prog_7_method_6_code
def yX5_take : MethodName := ⟨RX5, "take", "(II)Z"⟩
abbrev cX5_look : ByteArray := prog_7_method_7_code
def yX5_look : MethodName := ⟨RX5, "look", "(I)I"⟩
def RX6 : String := "RollingFob$State"
def TX6 : u_T := fun k => match k with
  | 0 => ("RollingFob$State", "fobs", "[LRollingFob$Fob;", true)
  | 1 => ("RollingFob$State", "doors", "[LRollingFob$Door;", true)
  | 2 => ("RollingFob$State", "air", "LRollingFob$Air;", true)
  | 3 => ("RollingFob$State", "settings", "LRollingFob$Settings;", true)
  | 4 => ("RollingFob$State", "sentAgain", "I", false)
  | _ => ("RollingFob$State", "openedAgain", "I", false)
def tyX6 : Nat → FieldType := fun k => match k with
  | 0 => .array (.object "RollingFob$Fob")
  | 1 => .array (.object "RollingFob$Door")
  | 2 => .object "RollingFob$Air"
  | 3 => .object "RollingFob$Settings"
  | 4 => .int
  | _ => .int
abbrev wsX60 : List Cond := u_ws RX6 TX6 6
theorem nmX6 : ∀ a, a < 6 → ∀ b, b < 6 → a ≠ b → (TX6 a).2.1 ≠ (TX6 b).2.1 := by decide +kernel
theorem tyX6_ok : ∀ k, k < 6 → parseFieldDescriptor (TX6 k).2.2.1 = some (tyX6 k) := by decide +kernel
abbrev cX6_init : ByteArray := prog_8_method_1_code
def yX6_init : MethodName := ⟨RX6, "<init>", "()V"⟩
abbrev cX6_copyFrom : ByteArray := prog_8_method_2_code
def yX6_copyFrom : MethodName := ⟨RX6, "copyFrom", "(LRollingFob$State;)V"⟩
abbrev cX6_canPress : ByteArray := prog_8_method_3_code
def yX6_canPress : MethodName := ⟨RX6, "canPress", "(I)Z"⟩
abbrev cX6_canSendAgain : ByteArray := prog_8_method_4_code
def yX6_canSendAgain : MethodName := ⟨RX6, "canSendAgain", "(I)Z"⟩
abbrev cX6_pressFob : ByteArray := prog_8_method_5_code
def yX6_pressFob : MethodName := ⟨RX6, "pressFob", "(II)I"⟩
abbrev cX6_sendAgain : ByteArray := prog_8_method_6_code
def yX6_sendAgain : MethodName := ⟨RX6, "sendAgain", "(II)I"⟩
abbrev cX6_send : ByteArray := prog_8_method_7_code
def yX6_send : MethodName := ⟨RX6, "send", "(II)I"⟩
abbrev cX6_shutDoor : ByteArray := prog_8_method_8_code
def yX6_shutDoor : MethodName := ⟨RX6, "shutDoor", "(I)Z"⟩
abbrev cX6_presses : ByteArray := prog_8_method_9_code
def yX6_presses : MethodName := ⟨RX6, "presses", "()I"⟩
abbrev cX6_timesOpened : ByteArray := prog_8_method_10_code
def yX6_timesOpened : MethodName := ⟨RX6, "timesOpened", "()I"⟩
abbrev cX6_wrongNumbers : ByteArray := prog_8_method_11_code
def yX6_wrongNumbers : MethodName := ⟨RX6, "wrongNumbers", "()I"⟩
abbrev cX6_openDoors : ByteArray := prog_8_method_12_code
def yX6_openDoors : MethodName := ⟨RX6, "openDoors", "()I"⟩
abbrev cX6_lockedDoors : ByteArray := prog_8_method_13_code
def yX6_lockedDoors : MethodName := ⟨RX6, "lockedDoors", "()I"⟩
def RX7 : String := "RollingFob$Text"
def TX7 : u_T := fun k => match k with
  | 0 => ("RollingFob$Text", "codes", "[I", true)
  | _ => ("RollingFob$Text", "length", "I", false)
def tyX7 : Nat → FieldType := fun k => match k with
  | 0 => .array .int
  | _ => .int
abbrev wsX70 : List Cond := u_ws RX7 TX7 2
theorem nmX7 : ∀ a, a < 2 → ∀ b, b < 2 → a ≠ b → (TX7 a).2.1 ≠ (TX7 b).2.1 := by decide +kernel
theorem tyX7_ok : ∀ k, k < 2 → parseFieldDescriptor (TX7 k).2.2.1 = some (tyX7 k) := by decide +kernel
abbrev cX7_init : ByteArray := prog_9_method_1_code
def yX7_init : MethodName := ⟨RX7, "<init>", "()V"⟩
abbrev cX7_add : ByteArray := prog_9_method_2_code
def yX7_add : MethodName := ⟨RX7, "add", "(I)V"⟩
abbrev cX7_code : ByteArray := prog_9_method_3_code
def yX7_code : MethodName := ⟨RX7, "code", "(I)I"⟩
abbrev cX7_digit : ByteArray := prog_9_method_4_code
def yX7_digit : MethodName := ⟨RX7, "digit", "(I)I"⟩
abbrev cX7_goodLength : ByteArray := prog_9_method_5_code
def yX7_goodLength : MethodName := ⟨RX7, "goodLength", "()I"⟩
abbrev cX7_isComplete : ByteArray := prog_9_method_6_code
def yX7_isComplete : MethodName := ⟨RX7, "isComplete", "()Z"⟩
abbrev cX7_endsPart : ByteArray := prog_9_method_7_code
def yX7_endsPart : MethodName := ⟨RX7, "endsPart", "(I)Z"⟩
abbrev cX7_mask : ByteArray := prog_9_method_8_code
def yX7_mask : MethodName := ⟨RX7, "mask", "(II)I"⟩
abbrev cX7_expectedBehind : ByteArray := prog_9_method_9_code
def yX7_expectedBehind : MethodName := ⟨RX7, "expectedBehind", "(II)I"⟩
abbrev cX7_expectedInPart : ByteArray := prog_9_method_10_code
def yX7_expectedInPart : MethodName := ⟨RX7, "expectedInPart", "(I)I"⟩
abbrev cX7_expectedInSet : ByteArray := prog_9_method_11_code
def yX7_expectedInSet : MethodName := ⟨RX7, "expectedInSet", "(II)I"⟩
def RX8 : String := "RollingFob"
def TX8 : u_T := fun k => match k with
  | 0 => ("RollingFob", "state", "LRollingFob$State;", true)
  | 1 => ("RollingFob", "history", "LRollingFob$History;", true)
  | 2 => ("RollingFob", "text", "LRollingFob$Text;", true)
  | _ => ("RollingFob", "trial", "LRollingFob$Door;", true)
def tyX8 : Nat → FieldType := fun k => match k with
  | 0 => .object "RollingFob$State"
  | 1 => .object "RollingFob$History"
  | 2 => .object "RollingFob$Text"
  | _ => .object "RollingFob$Door"
abbrev wsX80 : List Cond := u_ws RX8 TX8 4
theorem nmX8 : ∀ a, a < 4 → ∀ b, b < 4 → a ≠ b → (TX8 a).2.1 ≠ (TX8 b).2.1 := by decide +kernel
theorem tyX8_ok : ∀ k, k < 4 → parseFieldDescriptor (TX8 k).2.2.1 = some (tyX8 k) := by decide +kernel
abbrev cX8_init : ByteArray := prog_1_method_1_code
def yX8_init : MethodName := ⟨RX8, "<init>", "()V"⟩
abbrev cX8_make : ByteArray := prog_1_method_2_code
def yX8_make : MethodName := ⟨RX8, "make", "(III)I"⟩
abbrev cX8_battery : ByteArray := prog_1_method_3_code
def yX8_battery : MethodName := ⟨RX8, "battery", "(II)I"⟩
abbrev cX8_press : ByteArray := prog_1_method_4_code
def yX8_press : MethodName := ⟨RX8, "press", "(II)I"⟩
abbrev cX8_again : ByteArray := prog_1_method_5_code
def yX8_again : MethodName := ⟨RX8, "again", "(II)I"⟩
abbrev cX8_learn : ByteArray := prog_1_method_6_code
def yX8_learn : MethodName := ⟨RX8, "learn", "(III)I"⟩
abbrev cX8_forget : ByteArray := prog_1_method_7_code
def yX8_forget : MethodName := ⟨RX8, "forget", "(II)I"⟩
abbrev cX8_shut : ByteArray := prog_1_method_8_code
def yX8_shut : MethodName := ⟨RX8, "shut", "(I)I"⟩
abbrev cX8_unlock : ByteArray := prog_1_method_9_code
def yX8_unlock : MethodName := ⟨RX8, "unlock", "(I)I"⟩
abbrev cX8_set : ByteArray := prog_1_method_10_code
def yX8_set : MethodName := ⟨RX8, "set", "(II)I"⟩
abbrev cX8_append : ByteArray := prog_1_method_11_code
def yX8_append : MethodName := ⟨RX8, "append", "(I)I"⟩
abbrev cX8_clearBuffer : ByteArray := prog_1_method_12_code
def yX8_clearBuffer : MethodName := ⟨RX8, "clearBuffer", "()I"⟩
abbrev cX8_firstError : ByteArray := prog_1_method_13_code
def yX8_firstError : MethodName := ⟨RX8, "firstError", "()I"⟩
abbrev cX8_play : ByteArray := prog_1_method_14_code
def yX8_play : MethodName := ⟨RX8, "play", "()I"⟩
abbrev cX8_undo : ByteArray := prog_1_method_15_code
def yX8_undo : MethodName := ⟨RX8, "undo", "()I"⟩
abbrev cX8_fob : ByteArray := prog_1_method_16_code
def yX8_fob : MethodName := ⟨RX8, "fob", "(II)I"⟩
abbrev cX8_slot : ByteArray := prog_1_method_17_code
def yX8_slot : MethodName := ⟨RX8, "slot", "(III)I"⟩
abbrev cX8_door : ByteArray := prog_1_method_18_code
def yX8_door : MethodName := ⟨RX8, "door", "(II)I"⟩
abbrev cX8_air : ByteArray := prog_1_method_19_code
def yX8_air : MethodName := ⟨RX8, "air", "(I)I"⟩
abbrev cX8_count : ByteArray := prog_1_method_20_code
def yX8_count : MethodName := ⟨RX8, "count", "(I)I"⟩
abbrev cX8_setting : ByteArray := prog_1_method_21_code
def yX8_setting : MethodName := ⟨RX8, "setting", "(I)I"⟩
abbrev cX8_ifHeard : ByteArray := prog_1_method_22_code
def yX8_ifHeard : MethodName := ⟨RX8, "ifHeard", "(II)I"⟩
abbrev cX8_opensIn : ByteArray := prog_1_method_23_code
def yX8_opensIn : MethodName := ⟨RX8, "opensIn", "(II)I"⟩
abbrev cX8_unheard : ByteArray := prog_1_method_24_code
def yX8_unheard : MethodName := ⟨RX8, "unheard", "(II)I"⟩
abbrev cX8_useful : ByteArray := prog_1_method_25_code
def yX8_useful : MethodName := ⟨RX8, "useful", "(I)I"⟩
abbrev cX8_openShare : ByteArray := prog_1_method_26_code
def yX8_openShare : MethodName := ⟨RX8, "openShare", "()D"⟩
abbrev cX8_digest : ByteArray := prog_1_method_27_code
def yX8_digest : MethodName := ⟨RX8, "digest", "()J"⟩
abbrev cX8_needIndex : ByteArray := prog_1_method_28_code
def yX8_needIndex : MethodName := ⟨RX8, "needIndex", "(II)V"⟩
abbrev cX8_needRange : ByteArray := prog_1_method_29_code
def yX8_needRange : MethodName := ⟨RX8, "needRange", "(III)V"⟩
abbrev cX8_needArgument : ByteArray := prog_1_method_30_code
def yX8_needArgument : MethodName := ⟨RX8, "needArgument", "(Z)V"⟩
abbrev cX8_needState : ByteArray := prog_1_method_31_code
def yX8_needState : MethodName := ⟨RX8, "needState", "(Z)V"⟩
abbrev cX8_numberOf : ByteArray := prog_1_method_32_code
def yX8_numberOf : MethodName := ⟨RX8, "numberOf", "(II)I"⟩
abbrev cX8_counterBehind : ByteArray := prog_1_method_33_code
def yX8_counterBehind : MethodName := ⟨RX8, "counterBehind", "(I)I"⟩
abbrev cX8_playPart : ByteArray := prog_1_method_34_code
def yX8_playPart : MethodName := ⟨RX8, "playPart", "(II)Z"⟩
abbrev cX8_counted : ByteArray := prog_1_method_35_code
def yX8_counted : MethodName := ⟨RX8, "counted", "(I)I"⟩
abbrev cX8_tryNumber : ByteArray := prog_1_method_36_code
def yX8_tryNumber : MethodName := ⟨RX8, "tryNumber", "(LRollingFob$Door;I)I"⟩
abbrev cX8_pressesToOpen : ByteArray := prog_1_method_37_code
def yX8_pressesToOpen : MethodName := ⟨RX8, "pressesToOpen", "(LRollingFob$Fob;LRollingFob$Door;)I"⟩
abbrev cX8_mostUnheard : ByteArray := prog_1_method_38_code
def yX8_mostUnheard : MethodName := ⟨RX8, "mostUnheard", "(LRollingFob$Fob;LRollingFob$Door;)I"⟩
abbrev cX8_firstUseful : ByteArray := prog_1_method_39_code
def yX8_firstUseful : MethodName := ⟨RX8, "firstUseful", "(LRollingFob$Door;)I"⟩
abbrev cX8_mixed : ByteArray := prog_1_method_40_code
def yX8_mixed : MethodName := ⟨RX8, "mixed", "(JJ)J"⟩
abbrev cX8_mixedDoor : ByteArray := prog_1_method_41_code
def yX8_mixedDoor : MethodName := ⟨RX8, "mixedDoor", "(JLRollingFob$Door;)J"⟩
abbrev cX8_shareBits : ByteArray := prog_1_method_42_code
def yX8_shareBits : MethodName := ⟨RX8, "shareBits", "(D)J"⟩
def RX9 : String := "RollingFobModel"
def TX9 : u_T := fun k => match k with
  | 0 => ("RollingFobModel", "now", "[I", true)
  | 1 => ("RollingFobModel", "then", "[I", true)
  | 2 => ("RollingFobModel", "past", "[I", true)
  | 3 => ("RollingFobModel", "kept", "I", false)
  | 4 => ("RollingFobModel", "text", "[I", true)
  | 5 => ("RollingFobModel", "typed", "I", false)
  | 6 => ("RollingFobModel", "thrown", "I", false)
  | 7 => ("RollingFobModel", "at", "I", false)
  | 8 => ("RollingFobModel", "isFault", "Z", false)
  | 9 => ("RollingFobModel", "told", "[I", true)
  | 10 => ("RollingFobModel", "tolds", "I", false)
  | 11 => ("RollingFobModel", "meant", "I", false)
  | _ => ("RollingFobModel", "far", "I", false)
def tyX9 : Nat → FieldType := fun k => match k with
  | 0 => .array .int
  | 1 => .array .int
  | 2 => .array .int
  | 3 => .int
  | 4 => .array .int
  | 5 => .int
  | 6 => .int
  | 7 => .int
  | 8 => .boolean
  | 9 => .array .int
  | 10 => .int
  | 11 => .int
  | _ => .int
abbrev wsX90 : List Cond := u_ws RX9 TX9 13
theorem nmX9 : ∀ a, a < 13 → ∀ b, b < 13 → a ≠ b → (TX9 a).2.1 ≠ (TX9 b).2.1 := by decide +kernel
theorem tyX9_ok : ∀ k, k < 13 → parseFieldDescriptor (TX9 k).2.2.1 = some (tyX9 k) := by decide +kernel
abbrev cX9_init : ByteArray := prog_11_method_1_code
def yX9_init : MethodName := ⟨RX9, "<init>", "()V"⟩
abbrev cX9_thrown : ByteArray := prog_11_method_2_code
def yX9_thrown : MethodName := ⟨RX9, "thrown", "()I"⟩
abbrev cX9_fails : ByteArray := prog_11_method_3_code
def yX9_fails : MethodName := ⟨RX9, "fails", "(I)I"⟩
abbrev cX9_in : ByteArray := prog_11_method_4_code
def yX9_in : MethodName := ⟨RX9, "in", "(III)Z"⟩
abbrev cX9_isFob : ByteArray := prog_11_method_5_code
def yX9_isFob : MethodName := ⟨RX9, "isFob", "(I)Z"⟩
abbrev cX9_isDoor : ByteArray := prog_11_method_6_code
def yX9_isDoor : MethodName := ⟨RX9, "isDoor", "(I)Z"⟩
abbrev cX9_isSlot : ByteArray := prog_11_method_7_code
def yX9_isSlot : MethodName := ⟨RX9, "isSlot", "(II)Z"⟩
abbrev cX9_slotAt : ByteArray := prog_11_method_8_code
def yX9_slotAt : MethodName := ⟨RX9, "slotAt", "(II)I"⟩
abbrev cX9_copies : ByteArray := prog_11_method_9_code
def yX9_copies : MethodName := ⟨RX9, "copies", "([II[II)V"⟩
abbrev cX9_saves : ByteArray := prog_11_method_10_code
def yX9_saves : MethodName := ⟨RX9, "saves", "()V"⟩
abbrev cX9_undo : ByteArray := prog_11_method_11_code
def yX9_undo : MethodName := ⟨RX9, "undo", "()I"⟩
abbrev cX9_numberOf : ByteArray := prog_11_method_12_code
def yX9_numberOf : MethodName := ⟨RX9, "numberOf", "(II)I"⟩
abbrev cX9_ahead : ByteArray := prog_11_method_13_code
def yX9_ahead : MethodName := ⟨RX9, "ahead", "(II)I"⟩
abbrev cX9_isLocked : ByteArray := prog_11_method_14_code
def yX9_isLocked : MethodName := ⟨RX9, "isLocked", "([II)Z"⟩
abbrev cX9_looks : ByteArray := prog_11_method_15_code
def yX9_looks : MethodName := ⟨RX9, "looks", "([III)V"⟩
abbrev cX9_would : ByteArray := prog_11_method_16_code
def yX9_would : MethodName := ⟨RX9, "would", "([III)I"⟩
abbrev cX9_hears : ByteArray := prog_11_method_17_code
def yX9_hears : MethodName := ⟨RX9, "hears", "([III)Z"⟩
abbrev cX9_heard : ByteArray := prog_11_method_18_code
def yX9_heard : MethodName := ⟨RX9, "heard", "([III)I"⟩
abbrev cX9_next : ByteArray := prog_11_method_19_code
def yX9_next : MethodName := ⟨RX9, "next", "([II)I"⟩
abbrev cX9_presses : ByteArray := prog_11_method_20_code
def yX9_presses : MethodName := ⟨RX9, "presses", "([III)I"⟩
abbrev cX9_ones : ByteArray := prog_11_method_21_code
def yX9_ones : MethodName := ⟨RX9, "ones", "(I)I"⟩
abbrev cX9_sends : ByteArray := prog_11_method_22_code
def yX9_sends : MethodName := ⟨RX9, "sends", "(II)I"⟩
abbrev cX9_changes : ByteArray := prog_11_method_23_code
def yX9_changes : MethodName := ⟨RX9, "changes", "(II)I"⟩
abbrev cX9_make : ByteArray := prog_11_method_24_code
def yX9_make : MethodName := ⟨RX9, "make", "(III)I"⟩
abbrev cX9_battery : ByteArray := prog_11_method_25_code
def yX9_battery : MethodName := ⟨RX9, "battery", "(II)I"⟩
abbrev cX9_press : ByteArray := prog_11_method_26_code
def yX9_press : MethodName := ⟨RX9, "press", "(II)I"⟩
abbrev cX9_again : ByteArray := prog_11_method_27_code
def yX9_again : MethodName := ⟨RX9, "again", "(II)I"⟩
abbrev cX9_learnt : ByteArray := prog_11_method_28_code
def yX9_learnt : MethodName := ⟨RX9, "learnt", "(I)I"⟩
abbrev cX9_learn : ByteArray := prog_11_method_29_code
def yX9_learn : MethodName := ⟨RX9, "learn", "(III)I"⟩
abbrev cX9_forget : ByteArray := prog_11_method_30_code
def yX9_forget : MethodName := ⟨RX9, "forget", "(II)I"⟩
abbrev cX9_shut : ByteArray := prog_11_method_31_code
def yX9_shut : MethodName := ⟨RX9, "shut", "(I)I"⟩
abbrev cX9_unlock : ByteArray := prog_11_method_32_code
def yX9_unlock : MethodName := ⟨RX9, "unlock", "(I)I"⟩
abbrev cX9_set : ByteArray := prog_11_method_33_code
def yX9_set : MethodName := ⟨RX9, "set", "(II)I"⟩
abbrev cX9_append : ByteArray := prog_11_method_34_code
def yX9_append : MethodName := ⟨RX9, "append", "(I)I"⟩
abbrev cX9_clearBuffer : ByteArray := prog_11_method_35_code
def yX9_clearBuffer : MethodName := ⟨RX9, "clearBuffer", "()I"⟩
abbrev cX9_isAt : ByteArray := prog_11_method_36_code
def yX9_isAt : MethodName := ⟨RX9, "isAt", "(II)Z"⟩
abbrev cX9_stops : ByteArray := prog_11_method_37_code
def yX9_stops : MethodName := ⟨RX9, "stops", "()Z"⟩
abbrev cX9_isDigit : ByteArray := prog_11_method_38_code
def yX9_isDigit : MethodName := ⟨RX9, "isDigit", "(I)Z"⟩
abbrev cX9_areDoors : ByteArray := prog_11_method_39_code
def yX9_areDoors : MethodName := ⟨RX9, "areDoors", "()Z"⟩
abbrev cX9_isPart : ByteArray := prog_11_method_40_code
def yX9_isPart : MethodName := ⟨RX9, "isPart", "()Z"⟩
abbrev cX9_isText : ByteArray := prog_11_method_41_code
def yX9_isText : MethodName := ⟨RX9, "isText", "()Z"⟩
abbrev cX9_firstError : ByteArray := prog_11_method_42_code
def yX9_firstError : MethodName := ⟨RX9, "firstError", "()I"⟩
abbrev cX9_does : ByteArray := prog_11_method_43_code
def yX9_does : MethodName := ⟨RX9, "does", "(I)Z"⟩
abbrev cX9_play : ByteArray := prog_11_method_44_code
def yX9_play : MethodName := ⟨RX9, "play", "()I"⟩
abbrev cX9_ofFob : ByteArray := prog_11_method_45_code
def yX9_ofFob : MethodName := ⟨RX9, "ofFob", "(II)I"⟩
abbrev cX9_fob : ByteArray := prog_11_method_46_code
def yX9_fob : MethodName := ⟨RX9, "fob", "(II)I"⟩
abbrev cX9_ofSlot : ByteArray := prog_11_method_47_code
def yX9_ofSlot : MethodName := ⟨RX9, "ofSlot", "(III)I"⟩
abbrev cX9_slot : ByteArray := prog_11_method_48_code
def yX9_slot : MethodName := ⟨RX9, "slot", "(III)I"⟩
abbrev cX9_ofDoor : ByteArray := prog_11_method_49_code
def yX9_ofDoor : MethodName := ⟨RX9, "ofDoor", "(II)I"⟩
abbrev cX9_door : ByteArray := prog_11_method_50_code
def yX9_door : MethodName := ⟨RX9, "door", "(II)I"⟩
abbrev cX9_air : ByteArray := prog_11_method_51_code
def yX9_air : MethodName := ⟨RX9, "air", "(I)I"⟩
abbrev cX9_ofDoors : ByteArray := prog_11_method_52_code
def yX9_ofDoors : MethodName := ⟨RX9, "ofDoors", "(I)I"⟩
abbrev cX9_counted : ByteArray := prog_11_method_53_code
def yX9_counted : MethodName := ⟨RX9, "counted", "(I)I"⟩
abbrev cX9_count : ByteArray := prog_11_method_54_code
def yX9_count : MethodName := ⟨RX9, "count", "(I)I"⟩
abbrev cX9_setting : ByteArray := prog_11_method_55_code
def yX9_setting : MethodName := ⟨RX9, "setting", "(I)I"⟩
abbrev cX9_ifHeard : ByteArray := prog_11_method_56_code
def yX9_ifHeard : MethodName := ⟨RX9, "ifHeard", "(II)I"⟩
abbrev cX9_opens : ByteArray := prog_11_method_57_code
def yX9_opens : MethodName := ⟨RX9, "opens", "(II)I"⟩
abbrev cX9_opensIn : ByteArray := prog_11_method_58_code
def yX9_opensIn : MethodName := ⟨RX9, "opensIn", "(II)I"⟩
abbrev cX9_misses : ByteArray := prog_11_method_59_code
def yX9_misses : MethodName := ⟨RX9, "misses", "(II)I"⟩
abbrev cX9_unheard : ByteArray := prog_11_method_60_code
def yX9_unheard : MethodName := ⟨RX9, "unheard", "(II)I"⟩
abbrev cX9_first : ByteArray := prog_11_method_61_code
def yX9_first : MethodName := ⟨RX9, "first", "(I)I"⟩
abbrev cX9_useful : ByteArray := prog_11_method_62_code
def yX9_useful : MethodName := ⟨RX9, "useful", "(I)I"⟩
abbrev cX9_share : ByteArray := prog_11_method_63_code
def yX9_share : MethodName := ⟨RX9, "share", "()D"⟩
abbrev cX9_openShare : ByteArray := prog_11_method_64_code
def yX9_openShare : MethodName := ⟨RX9, "openShare", "()D"⟩
abbrev cX9_digest : ByteArray := prog_11_method_65_code
def yX9_digest : MethodName := ⟨RX9, "digest", "()J"⟩
def RJxe99ae : String := "java/lang/Double"
def TJxe99ae : u_T := fun k => match k with
  | _ => ("", "", "", false)
def tyJxe99ae : Nat → FieldType := fun k => match k with
  | _ => .int
abbrev wsJxe99ae0 : List Cond := u_ws RJxe99ae TJxe99ae 0
theorem nmJxe99ae : ∀ a, a < 0 → ∀ b, b < 0 → a ≠ b → (TJxe99ae a).2.1 ≠ (TJxe99ae b).2.1 := by decide +kernel
theorem tyJxe99ae_ok : ∀ k, k < 0 → parseFieldDescriptor (TJxe99ae k).2.2.1 = some (tyJxe99ae k) := by decide +kernel
abbrev cJxe99ae_isNaN_b9ae7 : ByteArray := prog_12_method_6_code
def yJxe99ae_isNaN_b9ae7 : MethodName := ⟨RJxe99ae, "isNaN", "(D)Z"⟩
abbrev cJxe99ae_doubleToLongBits_ccdee : ByteArray := prog_12_method_23_code
def yJxe99ae_doubleToLongBits_ccdee : MethodName := ⟨RJxe99ae, "doubleToLongBits", "(D)J"⟩
def RJ6 : String := "java/lang/Integer"
def TJ6 : u_T := fun k => match k with
  | _ => ("", "", "", false)
def tyJ6 : Nat → FieldType := fun k => match k with
  | _ => .int
abbrev wsJ60 : List Cond := u_ws RJ6 TJ6 0
theorem nmJ6 : ∀ a, a < 0 → ∀ b, b < 0 → a ≠ b → (TJ6 a).2.1 ≠ (TJ6 b).2.1 := by decide +kernel
theorem tyJ6_ok : ∀ k, k < 0 → parseFieldDescriptor (TJ6 k).2.2.1 = some (tyJ6 k) := by decide +kernel
abbrev cJ6_bitCount_0f7a4 : ByteArray := prog_17_method_49_code
def yJ6_bitCount_0f7a4 : MethodName := ⟨RJ6, "bitCount", "(I)I"⟩
def RJ9 : String := "java/lang/Math"
def TJ9 : u_T := fun k => match k with
  | _ => ("", "", "", false)
def tyJ9 : Nat → FieldType := fun k => match k with
  | _ => .int
abbrev wsJ90 : List Cond := u_ws RJ9 TJ9 0
theorem nmJ9 : ∀ a, a < 0 → ∀ b, b < 0 → a ≠ b → (TJ9 a).2.1 ≠ (TJ9 b).2.1 := by decide +kernel
theorem tyJ9_ok : ∀ k, k < 0 → parseFieldDescriptor (TJ9 k).2.2.1 = some (tyJ9 k) := by decide +kernel
abbrev cJ9_min_7cf53 : ByteArray := prog_18_method_69_code
def yJ9_min_7cf53 : MethodName := ⟨RJ9, "min", "(II)I"⟩
def RJ10 : String := "java/lang/System"
def TJ10 : u_T := fun k => match k with
  | _ => ("", "", "", false)
def tyJ10 : Nat → FieldType := fun k => match k with
  | _ => .int
abbrev wsJ100 : List Cond := u_ws RJ10 TJ10 0
theorem nmJ10 : ∀ a, a < 0 → ∀ b, b < 0 → a ≠ b → (TJ10 a).2.1 ≠ (TJ10 b).2.1 := by decide +kernel
theorem tyJ10_ok : ∀ k, k < 0 → parseFieldDescriptor (TJ10 k).2.2.1 = some (tyJ10 k) := by decide +kernel
def RL : String := "RollingFobLaw"
abbrev cL_make : ByteArray := method_3_code
def yL_make : MethodName := ⟨RL, "make", "(LRollingFob;III[J)I"⟩
abbrev cL_battery : ByteArray := method_4_code
def yL_battery : MethodName := ⟨RL, "battery", "(LRollingFob;II[J)I"⟩
abbrev cL_press : ByteArray := method_5_code
def yL_press : MethodName := ⟨RL, "press", "(LRollingFob;II[J)I"⟩
abbrev cL_again : ByteArray := method_6_code
def yL_again : MethodName := ⟨RL, "again", "(LRollingFob;II[J)I"⟩
abbrev cL_learn : ByteArray := method_7_code
def yL_learn : MethodName := ⟨RL, "learn", "(LRollingFob;III[J)I"⟩
abbrev cL_forget : ByteArray := method_8_code
def yL_forget : MethodName := ⟨RL, "forget", "(LRollingFob;II[J)I"⟩
abbrev cL_shut : ByteArray := method_9_code
def yL_shut : MethodName := ⟨RL, "shut", "(LRollingFob;I[J)I"⟩
abbrev cL_unlock : ByteArray := method_10_code
def yL_unlock : MethodName := ⟨RL, "unlock", "(LRollingFob;I[J)I"⟩
abbrev cL_set : ByteArray := method_11_code
def yL_set : MethodName := ⟨RL, "set", "(LRollingFob;II[J)I"⟩
abbrev cL_append : ByteArray := method_12_code
def yL_append : MethodName := ⟨RL, "append", "(LRollingFob;I[J)I"⟩
abbrev cL_play : ByteArray := method_13_code
def yL_play : MethodName := ⟨RL, "play", "(LRollingFob;[J)I"⟩
abbrev cL_undo : ByteArray := method_14_code
def yL_undo : MethodName := ⟨RL, "undo", "(LRollingFob;[J)I"⟩
abbrev cL_fob : ByteArray := method_15_code
def yL_fob : MethodName := ⟨RL, "fob", "(LRollingFob;II[J)I"⟩
abbrev cL_slot : ByteArray := method_16_code
def yL_slot : MethodName := ⟨RL, "slot", "(LRollingFob;III[J)I"⟩
abbrev cL_door : ByteArray := method_17_code
def yL_door : MethodName := ⟨RL, "door", "(LRollingFob;II[J)I"⟩
abbrev cL_air : ByteArray := method_18_code
def yL_air : MethodName := ⟨RL, "air", "(LRollingFob;I[J)I"⟩
abbrev cL_count : ByteArray := method_19_code
def yL_count : MethodName := ⟨RL, "count", "(LRollingFob;I[J)I"⟩
abbrev cL_setting : ByteArray := method_20_code
def yL_setting : MethodName := ⟨RL, "setting", "(LRollingFob;I[J)I"⟩
abbrev cL_ifHeard : ByteArray := method_21_code
def yL_ifHeard : MethodName := ⟨RL, "ifHeard", "(LRollingFob;II[J)I"⟩
abbrev cL_opensIn : ByteArray := method_22_code
def yL_opensIn : MethodName := ⟨RL, "opensIn", "(LRollingFob;II[J)I"⟩
abbrev cL_unheard : ByteArray := method_23_code
def yL_unheard : MethodName := ⟨RL, "unheard", "(LRollingFob;II[J)I"⟩
abbrev cL_useful : ByteArray := method_24_code
def yL_useful : MethodName := ⟨RL, "useful", "(LRollingFob;I[J)I"⟩
abbrev cL_law : ByteArray := code
def yL_law : MethodName := ⟨RL, "law", "([I)Z"⟩
abbrev vwCl : List vw_C := [(RX0, TX0, 2), (RX1, TX1, 7), (RX2, TX2, 4), (RX3, TX3, 3), (RX4, TX4, 3), (RX5, TX5, 4), (RX6, TX6, 6), (RX7, TX7, 2), (RX8, TX8, 4), (RX9, TX9, 13)]
end
section
/-! ===== BEGIN words of one list among another's, by their places ===== -/
theorem goodIn_r {big : List Cond} (ws : List Cond) (ps : List Nat) (hp : ws = ps.filterMap (fun i => big[i]?)) (h : ws.all goodWord = true) : GoodIn big ws := by
  intro w hw
  have h1 := List.all_eq_true.mp h w hw
  rw [hp] at hw
  obtain ⟨i, -, hi⟩ := List.mem_filterMap.mp hw
  have hm : w ∈ big := by first | exact List.mem_of_getElem? hi | exact List.getElem?_mem hi
  exact ⟨hm, good_of_word h1⟩
theorem goodIn_app {big a b : List Cond} (ha : GoodIn big a) (hb : GoodIn big b) : GoodIn big (a ++ b) := fun w h => (List.mem_append.mp h).elim (ha w) (hb w)
theorem goodIn_ca {big a b : List Cond} {c : Cond} (ha : GoodIn big (c :: a)) (hb : GoodIn big b) : GoodIn big (c :: (a ++ b)) := fun w h => (List.mem_cons.mp h).elim (fun e => ha w (List.mem_cons.mpr (Or.inl e))) (fun h => (List.mem_append.mp h).elim (fun h => ha w (List.mem_cons.mpr (Or.inr h))) (hb w))
theorem goodIn_sub {big ws : List Cond} (hm : ∀ w ∈ ws, w ∈ big) (h : ws.all goodWord = true) : GoodIn big ws := fun w hw => ⟨hm w hw, good_of_word (List.all_eq_true.mp h w hw)⟩
/-! ===== END ===== -/

/-! ===== BEGIN exceptions that leave a method, and their catching by the caller (launches without stack traces) ===== -/
section VXA
/-! The laws vx_back, vx_callV, vx_callS, vx_callSW, vx_throw0, vx_throwS follow proofs of the library, with one case more: JvmDerived/Free/Laws.lean (Back.of_free), Shelf42/LK1.lean (callV, callS), Shelf/KitTraced.lean (throwNew0V, throwNewS). -/
/-- where a method has thrown q: the class by its name, the cell, what was written, the world -/
def vx_T (XC : String → State → State → Prop) (st : State) (q : Addr) (t : State) (mc ms : Nat) (free : Addr → Prop) : Prop :=
  ∃ (E : String) (ce : Cell) (L : List Loc), XC E st t ∧ t.heap[q]? = some ce ∧ ce.vm = .none ∧ st.vm.findClass E = some ce.cls ∧ st.WarmedH t.vm ∧ st.sameButNew ({ t with vm := st.vm } : State) L mc ms ∧ ∀ z ∈ L, free z.base
def vx_Q (Qc : Array Value → State → Outcome → State → Prop) (XC : String → State → State → Prop) (mc ms : Nat) (free : Addr → Prop) : Array Value → State → Outcome → State → Prop := fun a st o t =>
  (Qc a st o t ∧ ∃ L, FrameEnd st o t L mc ms ∧ ∀ q ∈ L, free q.base) ∨ ∃ q, o = .threw q ∧ vx_T XC st q t mc ms free
/-- a callee that returns or throws -/
def vx_Met (l : Launch) (y : MethodName) (ws : List Cond) (rm : Room) (Pc : Array Value → State → Prop) (Qc : Array Value → State → Outcome → State → Prop) (XC : String → State → State → Prop) (mc ms : Nat) (free : Addr → Prop) : Prop :=
  MetFree l y (headSpec ws rm) Pc (fun _ _ _ _ _ => True) (vx_Q Qc XC mc ms free)
def vx_Post (XC : String → State → State → Prop) (mc ms : Nat) (free : Addr → Prop) : Pt → Array Value → Addr → Pt → Prop := fun A a q B =>
  ∃ (g : JFrame) (mk : MethodId) (t : State) (L : List Loc) (E : String) (ce : Cell), B.U.heap = t.heap ∧ B.U.vm = t.vm ∧ XC E (A.U.calling g mk a) t ∧ t.heap[q]? = some ce ∧ ce.vm = .none ∧ A.U.vm.findClass E = some ce.cls ∧ B.locs = A.locs ++ L ∧ (∀ z ∈ L, free z.base) ∧ B.cells = A.cells + mc ∧ B.slots = A.slots + ms
def vx_Back (l : Launch) (R : Room) (p : Program) (e : Env) (below : List Frame) (s : State) (sargs : Array Value) (y : MethodName) (len W9 : Nat)
    (Pre : Pt → Array Value → Prop) (Post : Pt → Array Value → Option Value → Pt → Prop) (PostX : Pt → Array Value → Addr → Pt → Prop) : Prop :=
  ∀ (m : MethodId) (meth : Method) (c : Code) (A : Pt) (g : JFrame) (ig : Instr) (mk : MethodId) (a : Array Value),
    Stand p l e R s m sargs below meth c A.U A.locs A.cells A.slots → g.method = m → g.locals.size = c.maxLocals → decode c.code g.pc = .ok (ig, len) →
    2 * g.monitorRoom + (g.stack.map fun v => v.category).sum ≤ W9 → A.U.methodNamed? y = some mk → Pre A a →
    (∃ (v : Option Value) (B : Pt), Stand p l e R s m sargs below meth c B.U B.locs B.cells B.slots ∧ Post A a v B ∧
      Steps p.tables e below (doInvoke e (A.U.setTop g) [] mk a).1 (B.U.setTop { g with pc := g.pc + len, stack := v.toList ++ g.stack })) ∨
    (∃ (q : Addr) (B : Pt), Stand p l e R s m sargs below meth c B.U B.locs B.cells B.slots ∧ PostX A a q B ∧
      Steps p.tables e below (doInvoke e (A.U.setTop g) [] mk a).1 ((B.U.setTop g).pushFrame (.throwing q)))
section Payer
variable {l : Launch} {R : Room} {p : Program} {e : Env} {below : List Frame} {s : State} {sargs : Array Value} {y : MethodName} {len W9 : Nat}
theorem vx_back {ws : List Cond} {rm : Room} {Pc : Array Value → State → Prop} {Qc : Array Value → State → Outcome → State → Prop} {XC : String → State → State → Prop} {mc ms : Nat} {free : Addr → Prop} {bytes : ByteArray} {maxL : Nat} {ret : Option FieldType}
    (hM : vx_Met l y ws rm Pc Qc XC mc ms free) (hblind : FrameBlind Pc) (hrc : rm.cells = mc) (hrs : rm.slots = ms)
    (hframes : rm.frames + 1 ≤ R.frames) (hlocals : W9 + (maxL + 11) + rm.locals ≤ R.locals)
    (hws : ∀ w ∈ ws, ∀ a' U, s.WarmedH U.vm → w.before a' U = true) (hcode : Cond.code y bytes maxL ret ∈ ws) (hinit : ∀ a' U, s.WarmedH U.vm → (Cond.initialized y.cls).before a' U = true) :
    vx_Back l R p e below s sargs y len W9 (PreOf R mc ms Pc) (PostOf Qc mc ms free) (vx_Post XC mc ms free) := by
  intro m meth c A g ig mk a X hg hsize hdg hW hn hp
  have h1 : (headSpec ws rm).pre.before a A.U = true := atoms_intro fun w hw => hws w hw _ _ X.warmed
  have h2 : (Cond.code y bytes maxL ret).before a A.U = true := hws _ hcode _ _ X.warmed
  have h3 : (Cond.initialized y.cls).before a A.U = true := hinit _ _ X.warmed
  have h4 : A.cells + (headSpec ws rm).room.cells ≤ R.cells := by rw [show (headSpec ws rm).room.cells = mc from hrc]; exact hp.1
  have h5 : A.slots + (headSpec ws rm).room.slots ≤ R.slots := by rw [show (headSpec ws rm).room.slots = ms from hrs]; exact hp.2.1
  have hPc : Pc a (A.U.calling g mk a) := hblind _ _ _ _ hp.2.2
  obtain ⟨U, Ls, c0, s0⟩ := A
  dsimp only [Pt.U, Pt.locs, Pt.cells, Pt.slots] at h1 h2 h3 h4 h5 X hn hPc ⊢
  obtain ⟨methY, cY, hmY, hcY, -, hlY, -, -, -, -⟩ := Cond.code_spec hn h2
  obtain ⟨kY, hkY, -⟩ := className_of_methodNamed hn
  have hinitY : kY.init = .initialized := Cond.initialized_spec (findClass_of_methodNamed hn) hkY h3
  have h : At U g.method c below := by rw [hg]; exact X.here
  have hlocals9 : W9 + (maxL + 11) + (headSpec ws rm).room.locals ≤ R.locals := hlocals
  have happ : (headSpec ws rm).appliesLoose y e.platform (U.calling g mk a) = true :=
    Spec.appliesLoose_calling (g := g) h hdg hn hkY hinitY
      (X.room_calling (g := g) (R' := (headSpec ws rm).room) hsize hmY hcY hframes (by rw [hlY]; omega) h4 h5) h1
  obtain ⟨mid, hmid⟩ := h.above
  have hfr : (U.setTop g).frames = (.java g :: mid) ++ below := by rw [State.frames_setTop' g h.top, hmid]; rfl
  obtain ⟨o, s₂, hsteps, -, hend, hq⟩ := Steps.callFree hM p X.admits X.cas X.clock (acts := []) hfr happ hPc trivial
  have hq' : vx_Q Qc XC mc ms free a (U.calling g mk a) o s₂ := hq
  rw [State.frames_setTop' g h.top] at hend
  obtain ⟨g₀, hg0⟩ := Option.isSome_iff_exists.mp h.top
  obtain ⟨r, hr⟩ := State.topJava?_eq_some.mp hg0
  have hr' : (({ U with heap := s₂.heap, slotsUsed := s₂.slotsUsed } : State).setVm s₂.vm).frames = .java g₀ :: r := hr
  rcases hq' with ⟨hqc, L, hfe, hL⟩ | ⟨q, rfl, E, ce, L, hx, hce, hcv, hcl, hW₂, hsm, hL⟩
  · obtain ⟨⟨v, rfl⟩, hW₂, e2, q2, q3, q4, q5, q6⟩ := id hfe
    have e3 : s₂ = ({ (U.calling g mk a).setFrames s₂.frames with heap := s₂.heap, slotsUsed := s₂.slotsUsed } : State).setVm s₂.vm := by
      have : s₂ = ({ s₂ with vm := (U.calling g mk a).vm } : State).setVm s₂.vm := rfl
      rw [e2] at this
      exact this
    obtain ⟨c₂, i₂, len₂, hc₂, hd₂, hf₂⟩ := hend
    have hW' : U.WarmedH s₂.vm := hW₂
    have hcc : c₂ = c := by
      have h1 : s₂.code? g.method = U.code? g.method := by
        rw [State.code?_eq, State.code?_eq, hW'.alike.method?]
      exact Option.some.inj (hc₂.symm.trans (h1.trans h.code))
    subst hcc
    have hlen : len₂ = len := by rw [hdg] at hd₂; cases hd₂; rfl
    subst hlen
    have hs₂ : s₂ = (({ U with heap := s₂.heap, slotsUsed := s₂.slotsUsed } : State).setVm s₂.vm).setTop { g with pc := g.pc + len₂, stack := v.toList ++ g.stack } := by
      refine e3.trans ?_
      rw [hf₂, State.calling_eq h.top, State.setFrames_setFrames, State.setTop_of_frames _ hr', hr]
      rfl
    have hsame : U.sameButNew ({ U with heap := s₂.heap, slotsUsed := s₂.slotsUsed } : State) L mc ms := by
      refine ⟨?_, q2, q3, q4, q5, q6⟩
      obtain ⟨t, ht, -⟩ := State.frames_cons hr
      show ({ U with heap := s₂.heap, slotsUsed := s₂.slotsUsed } : State) = { U.setFrames U.frames with heap := s₂.heap, slotsUsed := s₂.slotsUsed }
      rw [State.setFrames_self ht]
    subst hg
    refine Or.inl ⟨v, ⟨(({ U with heap := s₂.heap, slotsUsed := s₂.slotsUsed } : State).setVm s₂.vm), Ls ++ L, c0 + mc, s0 + ms⟩,
      ⟨X.admits, X.cas, X.clock, X.frames, X.room, X.hears, X.method, X.code, (X.here.setHeapUsed s₂.heap s₂.slotsUsed).setVm hW'.alike, X.tail, State.WarmedH.trans X.warmed hW', X.limits, X.bytes, X.same.trans (hsame.setVm s.vm)⟩,
      ⟨g, mk, s₂, L, rfl, rfl, hqc, rfl, hL, rfl, rfl⟩, ?_⟩
    show Steps p.tables e below _ ((({ U with heap := s₂.heap, slotsUsed := s₂.slotsUsed } : State).setVm s₂.vm).setTop { g with pc := g.pc + len₂, stack := v.toList ++ g.stack })
    rw [← hs₂]
    exact hsteps
  · obtain ⟨e2, q2, q3, q4, q5, q6⟩ := id hsm
    have e3 : s₂ = ({ (U.calling g mk a).setFrames s₂.frames with heap := s₂.heap, slotsUsed := s₂.slotsUsed } : State).setVm s₂.vm := by
      have : s₂ = ({ s₂ with vm := (U.calling g mk a).vm } : State).setVm s₂.vm := rfl
      rw [e2] at this
      exact this
    have hf₂ : s₂.frames = .throwing q :: .java g :: U.frames.tail := hend
    have hW' : U.WarmedH s₂.vm := hW₂
    have hs₂ : s₂ = ((({ U with heap := s₂.heap, slotsUsed := s₂.slotsUsed } : State).setVm s₂.vm).setTop g).pushFrame (.throwing q) := by
      refine e3.trans ?_
      rw [hf₂, State.calling_eq h.top, State.setFrames_setFrames, State.pushFrame, State.frames_setTop _ hr', State.setTop_of_frames _ hr', State.setFrames_setFrames, hr]
      rfl
    have hsame : U.sameButNew ({ U with heap := s₂.heap, slotsUsed := s₂.slotsUsed } : State) L mc ms := by
      refine ⟨?_, q2, q3, q4, q5, q6⟩
      obtain ⟨t, ht, -⟩ := State.frames_cons hr
      show ({ U with heap := s₂.heap, slotsUsed := s₂.slotsUsed } : State) = { U.setFrames U.frames with heap := s₂.heap, slotsUsed := s₂.slotsUsed }
      rw [State.setFrames_self ht]
    subst hg
    refine Or.inr ⟨q, ⟨(({ U with heap := s₂.heap, slotsUsed := s₂.slotsUsed } : State).setVm s₂.vm), Ls ++ L, c0 + mc, s0 + ms⟩,
      ⟨X.admits, X.cas, X.clock, X.frames, X.room, X.hears, X.method, X.code, (X.here.setHeapUsed s₂.heap s₂.slotsUsed).setVm hW'.alike, X.tail, State.WarmedH.trans X.warmed hW', X.limits, X.bytes, X.same.trans (hsame.setVm s.vm)⟩,
      ⟨g, mk, s₂, L, E, ce, rfl, rfl, hx, hce, hcv, hcl, rfl, hL, rfl, rfl⟩, ?_⟩
    show Steps p.tables e below _ (((({ U with heap := s₂.heap, slotsUsed := s₂.slotsUsed } : State).setVm s₂.vm).setTop g).pushFrame (.throwing q))
    rw [← hs₂]
    exact hsteps
end Payer
section Calls
variable {p : Program} {l : Launch} {e : Env} {R : Room} {s : State} {m : MethodId} {args : Array Value} {below : List Frame} {meth : Method} {c : Code} {T : State} {locs : List Loc} {cells slots : Nat}
theorem vx_callV (X : Stand p l e R s m args below meth c T locs cells slots) (hexec : p.tables.exec = Jvm.exec) {own C : String} {index : Nat} {y : MethodName} {bytes : ByteArray} {maxL : Nat} {ret : Option FieldType}
    (hown : s.vm.findClass own = some m.cls) (hlink : (Cond.methodLink own index y).before args s = true) (hinst : (Cond.instanceMethod y).before args s = true) (hsel : (Cond.selects C y y).before args s = true)
    (hcode : (Cond.code y bytes maxL ret).before args s = true) (hy : y.cls ≠ "java/lang/invoke/MethodHandle" ∧ y.cls ≠ "java/lang/invoke/VarHandle")
    {W9 : Nat} {Pre : Pt → Array Value → Prop} {Post : Pt → Array Value → Option Value → Pt → Prop} {PostX : Pt → Array Value → Addr → Pt → Prop} (hK : vx_Back l R p e below s args y 3 W9 Pre Post PostX)
    {b : Addr} {cellB : Cell} (hcell : T.heap[b]? = some cellB) (hobj : cellB.vm.isStatics = false) (hcls : s.vm.findClass C = some cellB.cls)
    {g : JFrame} (hg : g.method = m) (hsize : g.locals.size = c.maxLocals) {argsL rest : List Value} (hlen : ∀ sig, parseMethodDescriptor y.desc = some sig → argsL.length = sig.parameters.length)
    (hstack : g.stack = argsL.reverse ++ .ref b :: rest) (hW : 2 * g.monitorRoom + (rest.map fun v => v.category).sum ≤ W9) (hdg : decode c.code g.pc = .ok (.invokevirtual index, 3))
    (hpre : ∀ vm₁, s.WarmedH vm₁ → Pre ⟨T.setVm vm₁, locs, cells, slots⟩ (Value.ref b :: argsL).toArray) :
    (∃ (v : Option Value) (vm₁ : Vm) (B : Pt), s.WarmedH vm₁ ∧ Stand p l e R s m args below meth c B.U B.locs B.cells B.slots ∧ Post ⟨T.setVm vm₁, locs, cells, slots⟩ (Value.ref b :: argsL).toArray v B ∧
      ∀ target, Steps p.tables e below (B.U.setTop { g with pc := g.pc + 3, stack := v.toList ++ rest }) target → Steps p.tables e below (T.setTop g) target) ∨
    (∃ (q : Addr) (vm₁ : Vm) (B : Pt), s.WarmedH vm₁ ∧ Stand p l e R s m args below meth c B.U B.locs B.cells B.slots ∧ PostX ⟨T.setVm vm₁, locs, cells, slots⟩ (Value.ref b :: argsL).toArray q B ∧
      Steps p.tables e below (T.setTop g) ((B.U.setTop { g with stack := rest }).pushFrame (.throwing q))) := by
  obtain ⟨mk, methM, hnamed, hmethM, hstM, habM⟩ := Cond.instanceMethod_spec hinst
  obtain ⟨methM', cM, hmethM', -, -, -, -, -, -, hsigM⟩ := Cond.code_spec hnamed hcode
  cases hmethM.symm.trans hmethM'
  obtain ⟨c2, r2, m2, q1, q2, q3, q4, kP, hkP, hkPi⟩ := Cond.selects_spec hsel
  cases hcls.symm.trans q1
  cases (State.methodFound?_of_named hnamed hy).symm.trans q2
  cases hnamed.symm.trans q3
  have hselP : selectMethod e.platform s.vm cellB.cls mk = .method mk := by rw [Launch.admits_selectMethod X.admits]; exact q4
  obtain ⟨vm₁, X₁, hstep₁⟩ := X.invokevirtual hexec hown hlink hnamed hmethM hstM hkP hkPi hy (a := b) (cell := cellB) hcell
    (fun z h => by rw [h] at hobj; cases hobj) hselP hmethM habM hkP hkPi (g := g) hg (argsL := argsL) (rest := rest) (hlen _ hsigM) hstack hdg
  rcases hK m meth c ⟨T.setVm vm₁, locs, cells, slots⟩ { g with stack := rest } (.invokevirtual index) mk (Value.ref b :: argsL).toArray X₁ hg hsize hdg hW (X₁.named hnamed) (hpre vm₁ X₁.warmed) with ⟨v, B, X', hpost, hsteps⟩ | ⟨q, B, X', hpost, hsteps⟩
  · exact Or.inl ⟨v, vm₁, B, X₁.warmed, X', hpost, fun target h => hstep₁ _ fun acts => by rw [doInvoke_state]; exact hsteps.trans h⟩
  · exact Or.inr ⟨q, vm₁, B, X₁.warmed, X', hpost, hstep₁ _ fun acts => by rw [doInvoke_state]; exact hsteps⟩
theorem vx_callS (X : Stand p l e R s m args below meth c T locs cells slots) (hexec : p.tables.exec = Jvm.exec) {own : String} {index : Nat} {y : MethodName} {bytes : ByteArray} {maxL : Nat} {ret : Option FieldType}
    (hown : s.vm.findClass own = some m.cls) (hlink : (Cond.methodLink own index y).before args s = true) (hstat : (Cond.static y).before args s = true) (hinit : (Cond.initialized y.cls).before args s = true)
    (hcode : (Cond.code y bytes maxL ret).before args s = true) (hy : y.cls ≠ "java/lang/invoke/MethodHandle" ∧ y.cls ≠ "java/lang/invoke/VarHandle")
    {W9 : Nat} {Pre : Pt → Array Value → Prop} {Post : Pt → Array Value → Option Value → Pt → Prop} {PostX : Pt → Array Value → Addr → Pt → Prop} (hK : vx_Back l R p e below s args y 3 W9 Pre Post PostX)
    {g : JFrame} (hg : g.method = m) (hsize : g.locals.size = c.maxLocals) {argsL rest : List Value} (hlen : ∀ sig, parseMethodDescriptor y.desc = some sig → argsL.length = sig.parameters.length)
    (hstack : g.stack = argsL.reverse ++ rest) (hW : 2 * g.monitorRoom + (rest.map fun v => v.category).sum ≤ W9) (hdg : decode c.code g.pc = .ok (.invokestatic index, 3))
    (hpre : ∀ vm₁, s.WarmedH vm₁ → Pre ⟨T.setVm vm₁, locs, cells, slots⟩ argsL.toArray) :
    (∃ (v : Option Value) (vm₁ : Vm) (B : Pt), s.WarmedH vm₁ ∧ Stand p l e R s m args below meth c B.U B.locs B.cells B.slots ∧ Post ⟨T.setVm vm₁, locs, cells, slots⟩ argsL.toArray v B ∧
      ∀ target, Steps p.tables e below (B.U.setTop { g with pc := g.pc + 3, stack := v.toList ++ rest }) target → Steps p.tables e below (T.setTop g) target) ∨
    (∃ (q : Addr) (vm₁ : Vm) (B : Pt), s.WarmedH vm₁ ∧ Stand p l e R s m args below meth c B.U B.locs B.cells B.slots ∧ PostX ⟨T.setVm vm₁, locs, cells, slots⟩ argsL.toArray q B ∧
      Steps p.tables e below (T.setTop g) ((B.U.setTop { g with stack := rest }).pushFrame (.throwing q))) := by
  obtain ⟨mk, hnamed⟩ := Cond.code_named hcode
  obtain ⟨methM, cM, hmethM, -, -, -, -, -, -, hsigM⟩ := Cond.code_spec hnamed hcode
  have hstatic : methM.isStatic = true := Cond.static_spec hnamed hmethM hstat
  obtain ⟨kP, hkP, -⟩ := className_of_methodNamed hnamed
  have hinitP : kP.init = .initialized := Cond.initialized_spec (findClass_of_methodNamed hnamed) hkP hinit
  obtain ⟨vm₁, X₁, hstep₁⟩ := X.invokestatic hexec hown hlink hnamed hmethM hstatic hkP hinitP hy (g := g) hg (argsL := argsL) (rest := rest) (hlen _ hsigM) hstack hdg
  rcases hK m meth c ⟨T.setVm vm₁, locs, cells, slots⟩ { g with stack := rest } (.invokestatic index) mk argsL.toArray X₁ hg hsize hdg hW (X₁.named hnamed) (hpre vm₁ X₁.warmed) with ⟨v, B, X', hpost, hsteps⟩ | ⟨q, B, X', hpost, hsteps⟩
  · exact Or.inl ⟨v, vm₁, B, X₁.warmed, X', hpost, fun target h => hstep₁ _ fun acts => by rw [doInvoke_state]; exact hsteps.trans h⟩
  · exact Or.inr ⟨q, vm₁, B, X₁.warmed, X', hpost, hstep₁ _ fun acts => by rw [doInvoke_state]; exact hsteps⟩
end Calls
theorem vx_cls {s : State} {T : State} {vm₁ : Vm} {E : String} {k : ClassId} (hW : s.WarmedH vm₁) (h : (T.setVm vm₁).vm.findClass E = some k) : s.vm.findClass E = some k := by
  have h1 : vm₁.findClass E = some k := h
  rw [hW.alike.findClass] at h1
  exact h1
/-- the method's frame g, with q thrown over it -/
def vx_W (p : Program) (l : Launch) (e : Env) (R : Room) (s : State) (m : MethodId) (args : Array Value) (below : List Frame) (meth : Method) (c : Code) (H : Heap) (locs : List Loc) (cells slots : Nat) (Q : State → Prop) (g : JFrame) (q : Addr) : Prop :=
  ∀ T : State, T.heap = H → Stand p l e R s m args below meth c T locs cells slots → ∃ t, Steps p.tables e below ((T.setTop g).pushFrame (.throwing q)) t ∧ Q t
def vx_Run (p : Program) (l : Launch) (e : Env) (R : Room) (s : State) (m : MethodId) (args : Array Value) (below : List Frame) (meth : Method) (c : Code) (H : Heap) (locs : List Loc) (cells slots mc ms : Nat) (g : JFrame) (rest : List Value) (Qa : State → Outcome → State → Prop) (XC : String → State → State → Prop) (free : Addr → Prop) : Prop :=
  ∀ T : State, T.heap = H → Stand p l e R s m args below meth c T locs cells slots →
    (∃ (v : Option Value) (st₀ t T' : State) (L : List Loc), st₀.heap = H ∧ Stand p l e R s m args below meth c T' (locs ++ L) (cells + mc) (slots + ms) ∧ (∀ q ∈ L, free q.base) ∧ T'.heap = t.heap ∧ T'.vm = t.vm ∧ Qa st₀ (.returned v) t ∧
      Goes p e below T g T' { g with pc := g.pc + 3, stack := v.toList ++ rest }) ∨
    (∃ (q : Addr) (st₀ t T' : State) (L : List Loc) (E : String) (ce : Cell), st₀.heap = H ∧ Stand p l e R s m args below meth c T' (locs ++ L) (cells + mc) (slots + ms) ∧ (∀ z ∈ L, free z.base) ∧ T'.heap = t.heap ∧ T'.vm = t.vm ∧ XC E st₀ t ∧ t.heap[q]? = some ce ∧ ce.vm = .none ∧ s.vm.findClass E = some ce.cls ∧
      Steps p.tables e below (T.setTop g) ((T'.setTop { g with stack := rest }).pushFrame (.throwing q)))
def vx_X {S : Type} (px : S → Prop) (B : String → S → State → Prop) (A : Nat → Prop) : String → State → State → Prop := fun E st t => ∃ u : S, px u ∧ B E u t ∧ va_F A st t
section Runs
variable {p : Program} {l : Launch} {e : Env} {R : Room} {s : State} {m : MethodId} {args : Array Value} {below : List Frame} {meth : Method} {c : Code} {H : Heap} {locs : List Loc} {cells slots : Nat}
variable {y : MethodName} {bytes cc : ByteArray} {maxL nL mc ms n index : Nat} {ret : Option FieldType} {ws : List Cond} {rm : Room} {Pc : Array Value → State → Prop} {Qc : Array Value → State → Outcome → State → Prop} {XC : String → State → State → Prop} {free : Addr → Prop} {Ts : List Cond} {own C : String} {b : Addr} {As rest : List Value} {g : JFrame}
theorem vx_callBack (cb : CallB R s args own index y bytes maxL ret ws rm mc ms n) (hM : vx_Met l y ws rm Pc Qc XC mc ms free) (hbl : FrameBlind Pc) : vx_Back l R p e below s args y 3 8 (PreOf R mc ms Pc) (PostOf Qc mc ms free) (vx_Post XC mc ms free) := by
  obtain ⟨hrc, hrs, hfr, hlo, hws, hcw, -, hini, -⟩ := cb
  exact vx_back (bytes := bytes) (maxL := maxL) (ret := ret) hM hbl hrc hrs hfr hlo hws hcw (fun a' U hW => word_at hW (Or.inl (by first | rfl | simp [Cond.onTables, Cond.keeps, Cond.steady])) hini)
theorem vx_runV (S : CallFix p m c cc nL s args Ts own) (hM : vx_Met l y ws rm Pc Qc XC mc ms free) (cw : CallW R s args own C index y bytes maxL ret ws rm mc ms n) (hp : PreV s H C b Pc As)
    (hg : g.method = m) (hn : As.length = n) (hsize : g.locals.size = nL) (hstack : g.stack = As.reverse ++ .ref b :: rest) (hW : 2 * g.monitorRoom + (rest.map fun v => v.category).sum ≤ 8) (hdg : decode cc g.pc = .ok (.invokevirtual index, 3)) (hf : cells + mc ≤ R.cells ∧ slots + ms ≤ R.slots) :
    vx_Run p l e R s m args below meth c H locs cells slots mc ms g rest (Qc (Value.ref b :: As).toArray) XC free := by
  have hK : vx_Back l R p e below s args y 3 8 (PreOf R mc ms Pc) (PostOf Qc mc ms free) (vx_Post XC mc ms free) := vx_callBack cw.1 hM hp.1
  obtain ⟨⟨-, -, -, -, -, -, hcode, -, hy, hlen, hl⟩, hin, hse⟩ := cw
  obtain ⟨hx, hb, hml, ho, -⟩ := S
  obtain ⟨-, ⟨cellB, hcB, hoB, hclB⟩, hPc⟩ := hp
  intro T hT X
  rcases vx_callV X hx (C := C) (bytes := bytes) (maxL := maxL) (ret := ret) ho hl hin hse hcode hy hK (by rw [hT]; exact hcB) hoB hclB hg (hsize.trans hml.symm) (argsL := As) (rest := rest) (fun sig h => hn.trans (hlen sig h)) hstack hW (by rw [hb]; exact hdg)
    (fun vm₁ hW₁ => ⟨hf.1, hf.2, hPc (T.setVm vm₁) hT hW₁⟩) with ⟨v, vm₁, ⟨U', l2, c2, s2⟩, hW₁, X', ⟨g', mk, t, L, e1, e2, hq, h1, hL, h2, h3⟩, st⟩ | ⟨q, vm₁, ⟨U', l2, c2, s2⟩, hW₁, X', ⟨g', mk, t, L, E, ce, e1, e2, hq, hce, hcv, hcl, h1, hL, h2, h3⟩, st⟩
  · dsimp only [Pt.U, Pt.locs, Pt.cells, Pt.slots] at X' e1 e2 h1 h2 h3 st
    subst h1; subst h2; subst h3
    exact Or.inl ⟨v, (T.setVm vm₁).calling g' mk (Value.ref b :: As).toArray, t, U', L, hT, X', hL, e1, e2, hq, st⟩
  · dsimp only [Pt.U, Pt.locs, Pt.cells, Pt.slots] at X' e1 e2 h1 h2 h3 st hcl
    subst h1; subst h2; subst h3
    exact Or.inr ⟨q, (T.setVm vm₁).calling g' mk (Value.ref b :: As).toArray, t, U', L, E, ce, hT, X', hL, e1, e2, hq, hce, hcv, vx_cls hW₁ hcl, st⟩
theorem vx_runS (S : CallFix p m c cc nL s args Ts own) (hM : vx_Met l y ws rm Pc Qc XC mc ms free) (cw : CallB R s args own index y bytes maxL ret ws rm mc ms n ∧ (Cond.static y).before args s = true) (hp : PreS s H Pc As)
    (hg : g.method = m) (hn : As.length = n) (hsize : g.locals.size = nL) (hstack : g.stack = As.reverse ++ rest) (hW : 2 * g.monitorRoom + (rest.map fun v => v.category).sum ≤ 8) (hdg : decode cc g.pc = .ok (.invokestatic index, 3)) (hf : cells + mc ≤ R.cells ∧ slots + ms ≤ R.slots) :
    vx_Run p l e R s m args below meth c H locs cells slots mc ms g rest (Qc As.toArray) XC free := by
  have hK : vx_Back l R p e below s args y 3 8 (PreOf R mc ms Pc) (PostOf Qc mc ms free) (vx_Post XC mc ms free) := vx_callBack cw.1 hM hp.1
  obtain ⟨⟨-, -, -, -, -, -, hcode, hini, hy, hlen, hl⟩, hstt⟩ := cw
  obtain ⟨hx, hb, hml, ho, -⟩ := S
  intro T hT X
  rcases vx_callS X hx (bytes := bytes) (maxL := maxL) (ret := ret) ho hl hstt hini hcode hy hK hg (hsize.trans hml.symm) (argsL := As) (rest := rest) (fun sig h => hn.trans (hlen sig h)) hstack hW (by rw [hb]; exact hdg)
    (fun vm₁ hW₁ => ⟨hf.1, hf.2, hp.2 (T.setVm vm₁) hT hW₁⟩) with ⟨v, vm₁, ⟨U', l2, c2, s2⟩, hW₁, X', ⟨g', mk, t, L, e1, e2, hq, h1, hL, h2, h3⟩, st⟩ | ⟨q, vm₁, ⟨U', l2, c2, s2⟩, hW₁, X', ⟨g', mk, t, L, E, ce, e1, e2, hq, hce, hcv, hcl, h1, hL, h2, h3⟩, st⟩
  · dsimp only [Pt.U, Pt.locs, Pt.cells, Pt.slots] at X' e1 e2 h1 h2 h3 st
    subst h1; subst h2; subst h3
    exact Or.inl ⟨v, (T.setVm vm₁).calling g' mk As.toArray, t, U', L, hT, X', hL, e1, e2, hq, st⟩
  · dsimp only [Pt.U, Pt.locs, Pt.cells, Pt.slots] at X' e1 e2 h1 h2 h3 st hcl
    subst h1; subst h2; subst h3
    exact Or.inr ⟨q, (T.setVm vm₁).calling g' mk As.toArray, t, U', L, E, ce, hT, X', hL, e1, e2, hq, hce, hcv, vx_cls hW₁ hcl, st⟩
end Runs
section Rows
variable {p : Program} {l : Launch} {e : Env} {R : Room} {s : State} {m : MethodId} {args : Array Value} {below : List Frame} {meth : Method} {c : Code} {H : Heap} {locs : List Loc} {cells slots : Nat} {Q : State → Prop}
variable {mc ms : Nat} {free : Addr → Prop} {A0 A1 : Nat → Prop} {H0 : Heap} {a : Array Value} {pc : Nat} {ls : Array Slot} {st0 rest : List Value}
theorem vx_keep {st₀ t T' : State} {L : List Loc} (h0 : st₀.heap = H) (e1 : T'.heap = t.heap) (hS : va_S A0 H0 H locs) (hA : ∀ q, q < H.size → A1 q → A0 q) (hf : ∀ q, free q → A0 q) (hL : ∀ q ∈ L, free q.base) (hF : va_F A1 st₀ t) :
    H.size ≤ T'.heap.size ∧ (∀ q : Nat, q < H.size → ¬ A1 q → T'.heap[q]? = H[q]?) ∧ va_S A0 H0 T'.heap (locs ++ L) := by
  obtain ⟨hz, hk⟩ := hF
  rw [h0] at hz hk
  exact ⟨by rw [e1]; exact hz, fun q h1 h2 => by rw [e1]; exact hk q h1 h2,
    ⟨Nat.le_trans hS.1 (by rw [e1]; exact hz), fun q h1 h2 => by rw [e1, hk q (Nat.lt_of_lt_of_le h1 hS.1) (fun z => h2 (hA q (Nat.lt_of_lt_of_le h1 hS.1) z))]; exact hS.2.1 q h1 h2, fun q hq => by
      rcases List.mem_append.mp hq with h | h
      · exact hS.2.2 q h
      · exact hf _ (hL q h)⟩⟩
theorem vx_calli {S SX : Type} {post : Int32 → S → Prop} {px : SX → Prop} {B : S → State → Prop} {BX : String → SX → State → Prop} {AX : Nat → Prop} (hr : vx_Run p l e R s m args below meth c H locs cells slots mc ms (F0 m pc ls st0) rest (va_Qi post B A1 a) (vx_X px BX AX) free) (hS : va_S A0 H0 H locs) (hA : ∀ q, q < H.size → A1 q → A0 q) (hf : ∀ q, free q → A0 q) (hAX : ∀ q, q < H.size → AX q → A0 q)
    (kx : ∀ (E : String) (ce : Cell) (q9 : Addr) (u : SX) (t : State) (H1 : Heap) (locs1 : List Loc), t.heap = H1 → s.vm.Alike t.vm → px u → BX E u t → H.size ≤ H1.size → (∀ q : Nat, q < H.size → ¬ AX q → H1[q]? = H[q]?) → va_S A0 H0 H1 locs1 → H1[q9]? = some ce → ce.vm = .none → s.vm.findClass E = some ce.cls → vx_W p l e R s m args below meth c H1 locs1 (cells + mc) (slots + ms) Q (F0 m pc ls rest) q9)
    (kk : ∀ (r : Int32) (u : S) (t : State) (H1 : Heap) (locs1 : List Loc), t.heap = H1 → s.vm.Alike t.vm → post r u → B u t → H.size ≤ H1.size → (∀ q : Nat, q < H.size → ¬ A1 q → H1[q]? = H[q]?) → va_S A0 H0 H1 locs1 → W p l e R s m args below meth c H1 locs1 (cells + mc) (slots + ms) Q (F0 m (pc + 3) ls (.int r :: rest))) : W p l e R s m args below meth c H locs cells slots Q (F0 m pc ls st0) := by
  intro T hT X
  rcases hr T hT X with ⟨v, st₀, t, T', L, h0, X', hL, e1, e2, ⟨⟨r, u, hv, hp, hb⟩, hF⟩, st⟩ | ⟨q, st₀, t, T', L, E, ce, h0, X', hL, e1, e2, ⟨u, hp, hb, hF⟩, hce, hcv, hcl, st⟩
  · cases hv
    obtain ⟨k1, k2, k3⟩ := vx_keep h0 e1 hS hA hf hL hF
    obtain ⟨t2, a1, b1⟩ := kk r u t T'.heap (locs ++ L) e1.symm (by rw [← e2]; exact X'.warmed.alike) hp hb k1 k2 k3 T' rfl X'
    exact ⟨t2, st t2 a1, b1⟩
  · obtain ⟨k1, k2, k3⟩ := vx_keep h0 e1 hS hAX hf hL hF
    obtain ⟨t2, a1, b1⟩ := kx E ce q u t T'.heap (locs ++ L) e1.symm (by rw [← e2]; exact X'.warmed.alike) hp hb k1 k2 k3 (by rw [e1]; exact hce) hcv hcl T' rfl X'
    exact ⟨t2, st.trans a1, b1⟩
theorem vx_calll {S SX : Type} {post : Int64 → S → Prop} {px : SX → Prop} {B : S → State → Prop} {BX : String → SX → State → Prop} {AX : Nat → Prop} (hr : vx_Run p l e R s m args below meth c H locs cells slots mc ms (F0 m pc ls st0) rest (va_Ql post B A1 a) (vx_X px BX AX) free) (hS : va_S A0 H0 H locs) (hA : ∀ q, q < H.size → A1 q → A0 q) (hf : ∀ q, free q → A0 q) (hAX : ∀ q, q < H.size → AX q → A0 q)
    (kx : ∀ (E : String) (ce : Cell) (q9 : Addr) (u : SX) (t : State) (H1 : Heap) (locs1 : List Loc), t.heap = H1 → s.vm.Alike t.vm → px u → BX E u t → H.size ≤ H1.size → (∀ q : Nat, q < H.size → ¬ AX q → H1[q]? = H[q]?) → va_S A0 H0 H1 locs1 → H1[q9]? = some ce → ce.vm = .none → s.vm.findClass E = some ce.cls → vx_W p l e R s m args below meth c H1 locs1 (cells + mc) (slots + ms) Q (F0 m pc ls rest) q9)
    (kk : ∀ (r : Int64) (u : S) (t : State) (H1 : Heap) (locs1 : List Loc), t.heap = H1 → s.vm.Alike t.vm → post r u → B u t → H.size ≤ H1.size → (∀ q : Nat, q < H.size → ¬ A1 q → H1[q]? = H[q]?) → va_S A0 H0 H1 locs1 → W p l e R s m args below meth c H1 locs1 (cells + mc) (slots + ms) Q (F0 m (pc + 3) ls (.long r :: rest))) : W p l e R s m args below meth c H locs cells slots Q (F0 m pc ls st0) := by
  intro T hT X
  rcases hr T hT X with ⟨v, st₀, t, T', L, h0, X', hL, e1, e2, ⟨⟨r, u, hv, hp, hb⟩, hF⟩, st⟩ | ⟨q, st₀, t, T', L, E, ce, h0, X', hL, e1, e2, ⟨u, hp, hb, hF⟩, hce, hcv, hcl, st⟩
  · cases hv
    obtain ⟨k1, k2, k3⟩ := vx_keep h0 e1 hS hA hf hL hF
    obtain ⟨t2, a1, b1⟩ := kk r u t T'.heap (locs ++ L) e1.symm (by rw [← e2]; exact X'.warmed.alike) hp hb k1 k2 k3 T' rfl X'
    exact ⟨t2, st t2 a1, b1⟩
  · obtain ⟨k1, k2, k3⟩ := vx_keep h0 e1 hS hAX hf hL hF
    obtain ⟨t2, a1, b1⟩ := kx E ce q u t T'.heap (locs ++ L) e1.symm (by rw [← e2]; exact X'.warmed.alike) hp hb k1 k2 k3 (by rw [e1]; exact hce) hcv hcl T' rfl X'
    exact ⟨t2, st.trans a1, b1⟩
theorem vx_callf {S SX : Type} {post : UInt32 → S → Prop} {px : SX → Prop} {B : S → State → Prop} {BX : String → SX → State → Prop} {AX : Nat → Prop} (hr : vx_Run p l e R s m args below meth c H locs cells slots mc ms (F0 m pc ls st0) rest (va_Qf post B A1 a) (vx_X px BX AX) free) (hS : va_S A0 H0 H locs) (hA : ∀ q, q < H.size → A1 q → A0 q) (hf : ∀ q, free q → A0 q) (hAX : ∀ q, q < H.size → AX q → A0 q)
    (kx : ∀ (E : String) (ce : Cell) (q9 : Addr) (u : SX) (t : State) (H1 : Heap) (locs1 : List Loc), t.heap = H1 → s.vm.Alike t.vm → px u → BX E u t → H.size ≤ H1.size → (∀ q : Nat, q < H.size → ¬ AX q → H1[q]? = H[q]?) → va_S A0 H0 H1 locs1 → H1[q9]? = some ce → ce.vm = .none → s.vm.findClass E = some ce.cls → vx_W p l e R s m args below meth c H1 locs1 (cells + mc) (slots + ms) Q (F0 m pc ls rest) q9)
    (kk : ∀ (r : UInt32) (u : S) (t : State) (H1 : Heap) (locs1 : List Loc), t.heap = H1 → s.vm.Alike t.vm → post r u → B u t → H.size ≤ H1.size → (∀ q : Nat, q < H.size → ¬ A1 q → H1[q]? = H[q]?) → va_S A0 H0 H1 locs1 → W p l e R s m args below meth c H1 locs1 (cells + mc) (slots + ms) Q (F0 m (pc + 3) ls (.float r :: rest))) : W p l e R s m args below meth c H locs cells slots Q (F0 m pc ls st0) := by
  intro T hT X
  rcases hr T hT X with ⟨v, st₀, t, T', L, h0, X', hL, e1, e2, ⟨⟨r, u, hv, hp, hb⟩, hF⟩, st⟩ | ⟨q, st₀, t, T', L, E, ce, h0, X', hL, e1, e2, ⟨u, hp, hb, hF⟩, hce, hcv, hcl, st⟩
  · cases hv
    obtain ⟨k1, k2, k3⟩ := vx_keep h0 e1 hS hA hf hL hF
    obtain ⟨t2, a1, b1⟩ := kk r u t T'.heap (locs ++ L) e1.symm (by rw [← e2]; exact X'.warmed.alike) hp hb k1 k2 k3 T' rfl X'
    exact ⟨t2, st t2 a1, b1⟩
  · obtain ⟨k1, k2, k3⟩ := vx_keep h0 e1 hS hAX hf hL hF
    obtain ⟨t2, a1, b1⟩ := kx E ce q u t T'.heap (locs ++ L) e1.symm (by rw [← e2]; exact X'.warmed.alike) hp hb k1 k2 k3 (by rw [e1]; exact hce) hcv hcl T' rfl X'
    exact ⟨t2, st.trans a1, b1⟩
theorem vx_calld {S SX : Type} {post : UInt64 → S → Prop} {px : SX → Prop} {B : S → State → Prop} {BX : String → SX → State → Prop} {AX : Nat → Prop} (hr : vx_Run p l e R s m args below meth c H locs cells slots mc ms (F0 m pc ls st0) rest (va_Qd post B A1 a) (vx_X px BX AX) free) (hS : va_S A0 H0 H locs) (hA : ∀ q, q < H.size → A1 q → A0 q) (hf : ∀ q, free q → A0 q) (hAX : ∀ q, q < H.size → AX q → A0 q)
    (kx : ∀ (E : String) (ce : Cell) (q9 : Addr) (u : SX) (t : State) (H1 : Heap) (locs1 : List Loc), t.heap = H1 → s.vm.Alike t.vm → px u → BX E u t → H.size ≤ H1.size → (∀ q : Nat, q < H.size → ¬ AX q → H1[q]? = H[q]?) → va_S A0 H0 H1 locs1 → H1[q9]? = some ce → ce.vm = .none → s.vm.findClass E = some ce.cls → vx_W p l e R s m args below meth c H1 locs1 (cells + mc) (slots + ms) Q (F0 m pc ls rest) q9)
    (kk : ∀ (r : UInt64) (u : S) (t : State) (H1 : Heap) (locs1 : List Loc), t.heap = H1 → s.vm.Alike t.vm → post r u → B u t → H.size ≤ H1.size → (∀ q : Nat, q < H.size → ¬ A1 q → H1[q]? = H[q]?) → va_S A0 H0 H1 locs1 → W p l e R s m args below meth c H1 locs1 (cells + mc) (slots + ms) Q (F0 m (pc + 3) ls (.double r :: rest))) : W p l e R s m args below meth c H locs cells slots Q (F0 m pc ls st0) := by
  intro T hT X
  rcases hr T hT X with ⟨v, st₀, t, T', L, h0, X', hL, e1, e2, ⟨⟨r, u, hv, hp, hb⟩, hF⟩, st⟩ | ⟨q, st₀, t, T', L, E, ce, h0, X', hL, e1, e2, ⟨u, hp, hb, hF⟩, hce, hcv, hcl, st⟩
  · cases hv
    obtain ⟨k1, k2, k3⟩ := vx_keep h0 e1 hS hA hf hL hF
    obtain ⟨t2, a1, b1⟩ := kk r u t T'.heap (locs ++ L) e1.symm (by rw [← e2]; exact X'.warmed.alike) hp hb k1 k2 k3 T' rfl X'
    exact ⟨t2, st t2 a1, b1⟩
  · obtain ⟨k1, k2, k3⟩ := vx_keep h0 e1 hS hAX hf hL hF
    obtain ⟨t2, a1, b1⟩ := kx E ce q u t T'.heap (locs ++ L) e1.symm (by rw [← e2]; exact X'.warmed.alike) hp hb k1 k2 k3 (by rw [e1]; exact hce) hcv hcl T' rfl X'
    exact ⟨t2, st.trans a1, b1⟩
theorem vx_callv {S SX : Type} {post : S → Prop} {px : SX → Prop} {B : S → State → Prop} {BX : String → SX → State → Prop} {AX : Nat → Prop} (hr : vx_Run p l e R s m args below meth c H locs cells slots mc ms (F0 m pc ls st0) rest (va_Qv post B A1 a) (vx_X px BX AX) free) (hS : va_S A0 H0 H locs) (hA : ∀ q, q < H.size → A1 q → A0 q) (hf : ∀ q, free q → A0 q) (hAX : ∀ q, q < H.size → AX q → A0 q)
    (kx : ∀ (E : String) (ce : Cell) (q9 : Addr) (u : SX) (t : State) (H1 : Heap) (locs1 : List Loc), t.heap = H1 → s.vm.Alike t.vm → px u → BX E u t → H.size ≤ H1.size → (∀ q : Nat, q < H.size → ¬ AX q → H1[q]? = H[q]?) → va_S A0 H0 H1 locs1 → H1[q9]? = some ce → ce.vm = .none → s.vm.findClass E = some ce.cls → vx_W p l e R s m args below meth c H1 locs1 (cells + mc) (slots + ms) Q (F0 m pc ls rest) q9)
    (kk : ∀ (u : S) (t : State) (H1 : Heap) (locs1 : List Loc), t.heap = H1 → s.vm.Alike t.vm → post u → B u t → H.size ≤ H1.size → (∀ q : Nat, q < H.size → ¬ A1 q → H1[q]? = H[q]?) → va_S A0 H0 H1 locs1 → W p l e R s m args below meth c H1 locs1 (cells + mc) (slots + ms) Q (F0 m (pc + 3) ls (rest))) : W p l e R s m args below meth c H locs cells slots Q (F0 m pc ls st0) := by
  intro T hT X
  rcases hr T hT X with ⟨v, st₀, t, T', L, h0, X', hL, e1, e2, ⟨⟨u, hv, hp, hb⟩, hF⟩, st⟩ | ⟨q, st₀, t, T', L, E, ce, h0, X', hL, e1, e2, ⟨u, hp, hb, hF⟩, hce, hcv, hcl, st⟩
  · cases hv
    obtain ⟨k1, k2, k3⟩ := vx_keep h0 e1 hS hA hf hL hF
    obtain ⟨t2, a1, b1⟩ := kk u t T'.heap (locs ++ L) e1.symm (by rw [← e2]; exact X'.warmed.alike) hp hb k1 k2 k3 T' rfl X'
    exact ⟨t2, st t2 a1, b1⟩
  · obtain ⟨k1, k2, k3⟩ := vx_keep h0 e1 hS hAX hf hL hF
    obtain ⟨t2, a1, b1⟩ := kx E ce q u t T'.heap (locs ++ L) e1.symm (by rw [← e2]; exact X'.warmed.alike) hp hb k1 k2 k3 (by rw [e1]; exact hce) hcv hcl T' rfl X'
    exact ⟨t2, st.trans a1, b1⟩
/-- caught by the row x of this method's table; the rows ahead don't take it -/
theorem vx_catch {own name : String} {E : String} {ce : Cell} {q : Addr} (hown : s.vm.findClass own = some m.cls) (pre : List ExceptionTableEntry) (x : ExceptionTableEntry) (suf : List ExceptionTableEntry) (hsplit : c.exceptionTable.toList = pre ++ x :: suf)
    (hpass : ∀ z ∈ pre, covers z pc = false ∨ (z.catchType ≠ 0 ∧ ∃ nm : String, (Cond.classLink own z.catchType nm).before args s = true ∧ va_Nc E nm s)) (hx : covers x pc = true) (h0 : x.catchType ≠ 0)
    (hlink : (Cond.classLink own x.catchType name).before args s = true) (hcast : (Cond.castable E name).before args s = true) (hcell : H[q]? = some ce) (hv : ce.vm = .none) (hcl : s.vm.findClass E = some ce.cls)
    (kk : W p l e R s m args below meth c H locs cells slots Q (F0 m x.handlerPc ls [.ref q])) : vx_W p l e R s m args below meth c H locs cells slots Q (F0 m pc ls rest) q := by
  intro T hT X
  have hpl : e.platform.magicAccessors = ({} : Platform).magicAccessors := by rw [X.admits.platform]
  obtain ⟨c3, c4, hc3, hc4, hasg⟩ := Cond.castable_spec hcast
  cases Option.some.inj (hc3.symm.trans hcl)
  obtain ⟨c5, hc5, hcl5⟩ := Cond.classLink_spec hown hlink e.platform hpl
  cases Option.some.inj (hc4.symm.trans hc5)
  obtain ⟨vm', X', st⟩ := X.thenCaughtThrough q (g := F0 m pc ls rest) rfl (Steps.refl _) (by rw [hT]; exact hcell) (by rw [hv]; rfl) (by obtain ⟨k9, h9, -⟩ := Vm.findClass_spec hcl; exact ⟨k9, h9⟩) pre x suf hsplit
    (fun z hz => by
      rcases hpass z hz with h | ⟨hz0, nm, hl1, hn1⟩
      · exact Or.inl h
      · obtain ⟨c6, hc6, hcl6⟩ := Cond.classLink_spec hown hl1 e.platform hpl
        obtain ⟨a8, b8, h1, h2, h3⟩ := hn1
        cases Option.some.inj (h1.symm.trans hcl)
        cases Option.some.inj (h2.symm.trans hc6)
        exact Or.inr ⟨hz0, _, hcl6, h3⟩) hx (Or.inr ⟨h0, c4, hcl5, hasg⟩)
  obtain ⟨t, a1, b1⟩ := kk (T.setVm vm') hT X'
  exact ⟨t, st.trans a1, b1⟩
end Rows
section Ends
variable {p : Program} {l : Launch} {e : Env} {R : Room} {s : State} {m : MethodId} {args : Array Value} {below : List Frame} {meth : Method} {c : Code} {H : Heap} {locs : List Loc} {cells slots : Nat} {Q : State → Prop}
variable {mc ms : Nat} {free : Addr → Prop} {A0 A1 : Nat → Prop} {H0 : Heap} {a : Array Value} {ls : Array Slot} {st0 rest : List Value}
variable {Qc : Array Value → State → Outcome → State → Prop} {XC : String → State → State → Prop}
/-- what a body that may throw owes at its end -/
def vx_MQ (below : List Frame) (Qc : Array Value → State → Outcome → State → Prop) (XC : String → State → State → Prop) (a : Array Value) (s : State) (mc ms : Nat) (free : Addr → Prop) : State → Prop := fun t =>
  ∃ o, t.status = .running ∧ Ended t below o ∧ vx_Q Qc XC mc ms free a s o t
theorem vx_ret {g : JFrame} {mc ms : Nat} (k : W p l e R s m args below meth c H locs cells slots (MQ below Qc args s mc ms free) g) : W p l e R s m args below meth c H locs cells slots (vx_MQ below Qc XC args s mc ms free) g := by
  intro T hT X
  obtain ⟨t, a1, o, b1, b2, b3, b4⟩ := k T hT X
  exact ⟨t, a1, o, b1, b2, Or.inl ⟨b3, b4⟩⟩
/-- not caught here: it goes on to the caller -/
theorem vx_widen {g : JFrame} {q : Addr} {k n : Nat} (h1 : cells ≤ k) (h2 : slots ≤ n) (kk : vx_W p l e R s m args below meth c H locs k n Q g q) : vx_W p l e R s m args below meth c H locs cells slots Q g q := fun T hT X => kk T hT (stand_widen X h1 h2)
theorem vx_out {pc : Nat} {E : String} {ce : Cell} {q : Addr} {mc ms : Nat} (hout : ∀ x ∈ c.exceptionTable.toList, covers x pc = false) (hlocks : meth.locks = false) (hcell : H[q]? = some ce) (hv : ce.vm = .none) (hcl : s.vm.findClass E = some ce.cls)
    (hx : ∀ t : State, t.heap = H → s.vm.Alike t.vm → XC E s t) (hf : ∀ z ∈ locs, free z.base) (hc : cells ≤ mc) (hs : slots ≤ ms) :
    vx_W p l e R s m args below meth c H locs cells slots (vx_MQ below Qc XC args s mc ms free) (F0 m pc ls rest) q := by
  intro T hT X
  obtain ⟨st1, hrun, hend, hW, hsm⟩ := X.leaveThrown q (g := F0 m pc ls rest) rfl rfl rfl hout hlocks
  have hcell9 : (T.setFrames (.throwing q :: below)).heap[q]? = some ce := by
    show T.heap[q]? = some ce
    rw [hT]; exact hcell
  exact ⟨_, st1, .threw q, hrun, hend, Or.inr ⟨q, rfl, E, ce, locs, hx _ hT hW.alike, hcell9, hv, hcl, hW, hsm.mono hc hs, hf⟩⟩
theorem vx_frame {U : State} {k n : Nat} (h : s.sameButNew ({ U with vm := s.vm } : State) locs k n) : s.heap.size ≤ U.heap.size ∧ ∀ q : Nat, q < s.heap.size → (∀ z ∈ locs, z.base ≠ q) → U.heap[q]? = s.heap[q]? := by
  obtain ⟨-, h2, -, -, -, h6⟩ := h
  refine ⟨h2, fun q hq hz => ?_⟩
  obtain ⟨c9, e1, e2, e3, e4⟩ := h6 q _ (Array.getElem?_eq_getElem hq)
  have hs : c9.slots = (s.heap[q]).slots := Array.ext_getElem? fun i => e4 i fun hm => hz _ hm rfl
  have h9 : c9 = s.heap[q] := by
    rw [hs] at e2
    exact e2
  have e5 : U.heap[q]? = some c9 := e1
  rw [e5, h9, Array.getElem?_eq_getElem hq]
/-- the words of a throw but the four that speak of the heap -/
def vx_no (w : Cond) : Bool := decide (w ≠ .isRef (.static Bundle.tN "UNASSIGNED_STACK" Bundle.steD)) && decide (w ≠ .isRef (.static Bundle.tN "SUPPRESSED_SENTINEL" Bundle.listD)) && decide (w ≠ .laysStatic Bundle.tN "UNASSIGNED_STACK" Bundle.steD) && decide (w ≠ .laysStatic Bundle.tN "SUPPRESSED_SENTINEL" Bundle.listD)
def vx_at0 (own : String) (ic : Nat) (X : String) (names : List String) : List Cond := (Bundle.ownAtoms0 own ic X names).filter vx_no
def vx_atS (own : String) (ic : Nat) (X : String) (names : List String) : List Cond := (Bundle.ownAtoms own ic X names).filter vx_no
/-- a word that the tables alone decide, or a good one -/
def vx_ot (w : Cond) : Bool := w.onTables || goodWord w
theorem vx_ot_at {args a' : Array Value} {s U : State} {w : Cond} (hW : s.WarmedH U.vm) (hvm : s.vm = U.vm) (hg : vx_ot w = true) (h : w.before args s = true) : w.before a' U = true := by
  simp only [vx_ot, Bool.or_eq_true] at hg
  rcases hg with hg | hg
  · exact va_tabs hg hvm h
  · exact word_at hW (good_of_word hg) h
/-- a list's words: the good ones out of the method's own list, the others by premises of their own -/
theorem vx_hat {args : Array Value} {s : State} {L B : List Cond} (h1 : ∀ w ∈ L.filter goodWord, w.before args s = true) (h2 : ∀ w ∈ L.filter (fun w => !goodWord w), w ∈ B) (h3 : ∀ w ∈ B, w.before args s = true) : ∀ w ∈ L, w.before args s = true := by
  intro w hw
  by_cases g : goodWord w = true
  · exact h1 w (List.mem_filter.mpr ⟨hw, g⟩)
  · refine h3 w (h2 w (List.mem_filter.mpr ⟨hw, ?_⟩))
    show (!goodWord w) = true
    cases hgw : goodWord w
    · rfl
    · exact absurd hgw g
theorem vx_c {args : Array Value} {s : State} {w : Cond} {B : List Cond} (h : w.before args s = true) (t : ∀ w ∈ B, w.before args s = true) : ∀ w' ∈ w :: B, w'.before args s = true := fun w' h' => (List.mem_cons.mp h').elim (fun e => by rw [e]; exact h) (t w')
theorem vx_n {args : Array Value} {s : State} : ∀ w ∈ ([] : List Cond), w.before args s = true := fun _ h => nomatch h
theorem vx_own {args : Array Value} {s : State} {L : List Cond} (h1 : ∀ w ∈ L.filter vx_no, w.before args s = true)
    (hU : (Cond.isRef (.static Bundle.tN "UNASSIGNED_STACK" Bundle.steD)).before args s = true) (hN : (Cond.isRef (.static Bundle.tN "SUPPRESSED_SENTINEL" Bundle.listD)).before args s = true)
    (lU : (Cond.laysStatic Bundle.tN "UNASSIGNED_STACK" Bundle.steD).before args s = true) (lN : (Cond.laysStatic Bundle.tN "SUPPRESSED_SENTINEL" Bundle.listD).before args s = true) : ∀ w ∈ L, w.before args s = true := by
  intro w hw
  by_cases e1 : w = .isRef (.static Bundle.tN "UNASSIGNED_STACK" Bundle.steD)
  · rw [e1]; exact hU
  · by_cases e2 : w = .isRef (.static Bundle.tN "SUPPRESSED_SENTINEL" Bundle.listD)
    · rw [e2]; exact hN
    · by_cases e3 : w = .laysStatic Bundle.tN "UNASSIGNED_STACK" Bundle.steD
      · rw [e3]; exact lU
      · by_cases e4 : w = .laysStatic Bundle.tN "SUPPRESSED_SENTINEL" Bundle.listD
        · rw [e4]; exact lN
        · exact h1 w (List.mem_filter.mpr ⟨hw, by unfold vx_no; rw [decide_eq_true e1, decide_eq_true e2, decide_eq_true e3, decide_eq_true e4]; rfl⟩)
/-- where a static field lies, its class's statics cell in H -/
def vx_L (C n d : String) (A : Nat → Prop) (U : State) (H : Heap) : Prop := ∃ (c : ClassId) (k : Class) (i : Nat) (f : Field) (a : Nat) (cell : Cell), U.vm.findClass C = some c ∧ U.fieldFound? C n d = some (c, k, i, f) ∧ f.isStatic = true ∧ k.statics = some a ∧ H[a]? = some cell ∧ cell.vm.isStatics = true ∧ cell.cls = c ∧ f.slot < cell.slots.size ∧ k.staticTypes[f.slot]? = some f.type ∧ ¬ A a
theorem vx_L.moved {C n d : String} {A : Nat → Prop} {u U : State} {H : Heap} (hvm : u.vm.Alike U.vm) (h : vx_L C n d A u H) : vx_L C n d A U H := by
  obtain ⟨c, k, i, f, a, cell, h1, h2, h3, h4, h5, h6, h7, h8, h9, h10⟩ := h
  obtain ⟨k', hi', he⟩ := State.fieldFound?_setVm hvm h2
  exact ⟨c, k', i, f, a, cell, by rw [hvm.findClass]; exact h1, hi', h3, by rw [he]; exact h4, h5, h6, h7, h8, by rw [he]; exact h9, h10⟩
theorem vx_L.kept {C n d : String} {A : Nat → Prop} {U : State} {H H1 : Heap} (h : vx_L C n d A U H) (hq : ∀ a : Nat, a < H.size → ¬ A a → H1[a]? = H[a]?) : vx_L C n d A U H1 := by
  obtain ⟨c, k, i, f, a, cell, h1, h2, h3, h4, h5, h6, h7, h8, h9, h10⟩ := h
  exact ⟨c, k, i, f, a, cell, h1, h2, h3, h4, by rw [hq a (Array.getElem?_eq_some_iff.mp h5).1 h10]; exact h5, h6, h7, h8, h9, h10⟩
theorem vx_L.narrow {C n d : String} {A B : Nat → Prop} {U : State} {H : Heap} (h : vx_L C n d A U H) (hAB : ∀ q, B q → A q) : vx_L C n d B U H := by
  obtain ⟨c, k, i, f, a, cell, h1, h2, h3, h4, h5, h6, h7, h8, h9, h10⟩ := h
  exact ⟨c, k, i, f, a, cell, h1, h2, h3, h4, h5, h6, h7, h8, h9, fun z => h10 (hAB _ z)⟩
theorem vx_L.word {C n d : String} {A : Nat → Prop} {s : State} {args : Array Value} (h : vx_L C n d A s s.heap) : (Cond.laysStatic C n d).before args s = true := by
  obtain ⟨c, k, i, f, a, cell, h1, h2, h3, h4, h5, h6, h7, h8, h9, -⟩ := h
  show (Cond.laysStatic C n d).holds args s none s [] = true
  exact Cond.laysStatic_of h1 h2 h3 h4 h5 h6 h7 h8 h9
/-- .. and what it holds: null or some reference -/
def vx_Zq (C n d : String) (A : Nat → Prop) (U : State) (H : Heap) : Prop := va_Zq C n d A U H ∧ vx_L C n d A U H
theorem vx_Zq.moved {C n d : String} {A : Nat → Prop} {u U : State} {H : Heap} (hvm : u.vm.Alike U.vm) (h : vx_Zq C n d A u H) : vx_Zq C n d A U H := ⟨va_Zq.moved hvm h.1, vx_L.moved hvm h.2⟩
theorem vx_Zq.kept {C n d : String} {A : Nat → Prop} {U : State} {H H1 : Heap} (h : vx_Zq C n d A U H) (hq : ∀ a : Nat, a < H.size → ¬ A a → H1[a]? = H[a]?) : vx_Zq C n d A U H1 := ⟨va_Zq.kept h.1 hq, vx_L.kept h.2 hq⟩
theorem vx_Zq.narrow {C n d : String} {A B : Nat → Prop} {U : State} {H : Heap} (h : vx_Zq C n d A U H) (hAB : ∀ q, B q → A q) : vx_Zq C n d B U H := ⟨va_Zq.narrow h.1 hAB, vx_L.narrow h.2 hAB⟩
theorem vx_Zqof {args : Array Value} {s : State} {C n d : String} {A : Nat → Prop} (hl : (Cond.laysStatic C n d).before args s = true) (hini : (Cond.initialized C).before args s = true) (h : (Cond.isRef (.static C n d)).before args s = true) (hA : ∀ a : Nat, a < s.heap.size → ¬ A a) : vx_Zq C n d A s s.heap := by
  refine ⟨va_Zqof hl hini h hA, ?_⟩
  obtain ⟨c, k, i, f, a, cell, h1, h2, h3, h4, h5, h6, h7, h8, h9⟩ := Cond.laysStatic_spec hl
  exact ⟨c, k, i, f, a, cell, h1, h2, h3, h4, h5, h6, h7, h8, h9, hA a (Array.getElem?_eq_some_iff.mp h5).1⟩
theorem vx_isRef {C n d : String} {v : Value} {A : Nat → Prop} {s : State} {args : Array Value} (h : va_Z C n d v A s s.heap) (hv : v.isRef = true) : (Cond.isRef (.static C n d)).before args s = true := by
  obtain ⟨cf, kf, fi, f, a, cell, h1, h2, h3, h4, h5, h6, h7, -⟩ := h
  have he : (Term.static C n d).eval args s none [] s = some v := by
    simp [Term.eval, State.fieldNamed?, h1, h2, h4, h5, h6, h7]
  simp only [Cond.before, Cond.holds, Cond.value, he]
  cases v <;> simp_all [Value.isRef]
theorem vx_isRefq {C n d : String} {A : Nat → Prop} {s : State} {args : Array Value} (h : va_Zq C n d A s s.heap) : (Cond.isRef (.static C n d)).before args s = true := by
  rcases h with h | ⟨t, h⟩
  · exact vx_isRef h rfl
  · exact vx_isRef h rfl
/-- the same frame, seen from here: as if the method were called anew in this heap -/
theorem vx_rebase {T : State} (X : Stand p l e R s m args below meth c T locs cells slots) {R' : Room} (hf : R'.frames ≤ R.frames) (hl : R'.locals ≤ R.locals) (hc : cells + R'.cells ≤ R.cells) (hs : slots + R'.slots ≤ R.slots) :
    Stand p l e R' ((T.setVm s.vm).setFrames (.invoking m args :: below)) m args below meth c T [] 0 0 := by
  have htop : (T.setVm s.vm).topJava?.isSome := X.here.top
  have hF : ((T.setVm s.vm).setFrames (.invoking m args :: below)).frames = .invoking m args :: below := State.frames_setFrames _ (State.cur_lt_of_top htop)
  obtain ⟨g₀, hg0⟩ := Option.isSome_iff_exists.mp htop
  obtain ⟨r, hr⟩ := State.topJava?_eq_some.mp hg0
  have hl9 : e.platform.stackLimits (T.setVm s.vm).me = e.platform.stackLimits s.me := X.limits
  have hb9 : (T.setVm s.vm).me.stackBytes = s.me.stackBytes := X.bytes
  refine ⟨X.admits, X.cas, X.clock, hF, ?_, X.hears, X.method, X.code, X.here, X.tail, X.warmed, ?_, ?_, ?_⟩
  · have h := X.room
    have hU : ((T.setVm s.vm).setFrames (.invoking m args :: below)).localsInUse = s.localsInUse := by
      rw [State.localsInUse_invoking hF (meth := meth) (c := c) X.method X.code, State.localsInUse_invoking X.frames X.method X.code]
    simp only [State.hasRoom, Bool.and_eq_true, decide_eq_true_eq] at h ⊢
    obtain ⟨⟨⟨⟨h1, h2, h3, h4, h5, h6⟩, h7⟩, h8⟩, h9⟩ := h
    rw [X.frames, List.length_cons] at h2 h3
    have q1 := X.heapSize
    have q2 := X.used
    simp only [hF, hU, List.length_cons, State.stackLimits_setFrames, State.stackBytes_setFrames, hl9, hb9]
    refine ⟨⟨⟨⟨by omega, by omega, by omega, by omega, by omega, h6⟩, ?_⟩, ?_⟩, X.book⟩
    · show T.heap.size + R'.cells ≤ e.platform.maxCells
      omega
    · show T.slotsUsed + R'.slots ≤ e.platform.maxSlots
      omega
  · rw [State.stackLimits_setFrames]; rfl
  · rw [State.stackBytes_setFrames]; rfl
  · refine ⟨?_, Nat.le_refl _, Nat.le_refl _, ?_, ?_, fun a c9 h9 => ⟨c9, h9, rfl, rfl, fun _ _ => rfl⟩⟩
    · obtain ⟨t, ht, -⟩ := State.frames_cons hr
      show T.setVm s.vm = { ((T.setVm s.vm).setFrames (.invoking m args :: below)).setFrames (T.setVm s.vm).frames with heap := T.heap, slotsUsed := T.slotsUsed }
      rw [State.setFrames_setFrames, State.setFrames_self ht]
      rfl
    · show T.slotsUsed = T.slotsUsed + ((T.heap.toList.drop T.heap.size).map (·.slots.size)).sum
      rw [List.drop_eq_nil_of_le (Nat.le_of_eq Array.length_toList)]
      rfl
    · show ((T.heap.toList.drop T.heap.size).map (·.slots.size)).sum ≤ 0
      rw [List.drop_eq_nil_of_le (Nat.le_of_eq Array.length_toList)]
      exact Nat.le_refl _
/-- 'throw new E()': new; dup; invokespecial; athrow -/
theorem vx_throw0 {cc : ByteArray} {pc : Nat} (hexec : p.tables.exec = Jvm.exec) (hb : c.code = cc) (hl : l.stackTraces = false) {own cls : String} {names : List String} {ik ic mc ms : Nat} {A : Nat → Prop}
    (hown : s.vm.findClass own = some m.cls) (hcls : Bundle.fit cls = true) (hnames : ∀ n ∈ names, Bundle.fit n = true)
    (hk : (Cond.classLink own ik cls).before args s = true) (hini : (Cond.initialized cls).before args s = true) (hat : ∀ w ∈ vx_at0 own ic cls names, w.before args s = true)
    (hgood : ∀ w ∈ Cond.classLink own ik cls :: Cond.initialized cls :: vx_at0 own ic cls names, vx_ot w = true)
    (hU : vx_Zq Bundle.tN "UNASSIGNED_STACK" Bundle.steD A s s.heap) (hN : vx_Zq Bundle.tN "SUPPRESSED_SENTINEL" Bundle.listD A s s.heap) (hS : va_S A s.heap H locs) (hsize : ls.size = c.maxLocals)
    (d0 : decode cc pc = .ok (.new ik, 3)) (d3 : decode cc (pc + 3) = .ok (.dup, 1)) (d4 : decode cc (pc + 4) = .ok (.invokespecial ic, 3)) (d7 : decode cc (pc + 7) = .ok (.athrow, 1))
    (hout : ∀ x ∈ c.exceptionTable.toList, covers x (pc + 7) = false)
    (hRframes : names.length + 3 < R.frames) (hRlocals : (rest.map fun v => v.category).sum + (13 * (names.length + 1) + 42) ≤ R.locals) (hRcells : cells + 1 ≤ R.cells) (hRslots : slots + 6 ≤ R.slots) (hlocks : meth.locks = false)
    (hx : ∀ t : State, s.vm.Alike t.vm → H.size ≤ t.heap.size → (∀ q : Nat, q < H.size → t.heap[q]? = H[q]?) → XC cls s t)
    (hf : ∀ z ∈ locs, free z.base) (hc : cells + 1 ≤ mc) (hs : slots + 6 ≤ ms) :
    W p l e R s m args below meth c H locs cells slots (vx_MQ below Qc XC args s mc ms free) (F0 m pc ls rest) := by
  intro T hT X
  have htr : e.platform.stackTraces = false := (show e.platform.stackTraces = l.stackTraces by rw [X.admits.platform]).trans hl
  have Y := vx_rebase X (R' := { frames := R.frames, locals := R.locals, cells := 1, slots := 6 }) (Nat.le_refl _) (Nat.le_refl _) hRcells hRslots
  obtain ⟨s', hA⟩ : ∃ z, z = (T.setVm s.vm).setFrames (.invoking m args :: below) := ⟨_, rfl⟩
  rw [← hA] at Y
  have hvm : s'.vm = s.vm := by rw [hA]; rfl
  have hhp : s'.heap = H := by rw [hA]; exact hT
  have hW0 : s.WarmedH s'.vm := by rw [hvm]; exact State.WarmedH.refl s
  have hat' : ∀ w ∈ vx_at0 own ic cls names, w.before args s' = true := fun w hw => vx_ot_at hW0 hvm.symm (hgood w (List.mem_cons_of_mem _ (List.mem_cons_of_mem _ hw))) (hat w hw)
  have hk' : (Cond.classLink own ik cls).before args s' = true := vx_ot_at hW0 hvm.symm (hgood _ List.mem_cons_self) hk
  have hini' : (Cond.initialized cls).before args s' = true := vx_ot_at hW0 hvm.symm (hgood _ (List.mem_cons_of_mem _ List.mem_cons_self)) hini
  have hU' : vx_Zq Bundle.tN "UNASSIGNED_STACK" Bundle.steD A s' s'.heap := by rw [hhp]; exact vx_Zq.moved hW0.alike (hU.kept hS.2.1)
  have hN' : vx_Zq Bundle.tN "SUPPRESSED_SENTINEL" Bundle.listD A s' s'.heap := by rw [hhp]; exact vx_Zq.moved hW0.alike (hN.kept hS.2.1)
  have h : ∀ w ∈ Bundle.ownAtoms0 own ic cls names, w.before args s' = true := vx_own hat' (vx_isRefq hU'.1) (vx_isRefq hN'.1) hU'.2.word hN'.2.word
  have hown' : s'.vm.findClass own = some m.cls := by rw [hvm]; exact hown
  have hins : (Cond.instantiable cls 6).before args s' = true := h _ (by simp [Bundle.ownAtoms0])
  obtain ⟨vm₁, cX, kX, hfX, hkX, -, -, X₁, st1⟩ := Y.newCold hexec (own := own) (C := cls) (index := ik) (n := 6) hown' hk' hins hini'
    (g := F0 m pc ls rest) rfl (by rw [hb]; exact d0) (Nat.le_refl _) (Nat.le_refl _)
  generalize hT1 : (T.setVm vm₁).pushCell { cls := cX, slots := kX.instanceTypes.map defaultValue, vm := .none } = T1 at X₁ st1
  have hcat : (Value.ref T.heap.size).category = 1 := rfl
  have hcellA : T1.heap[T.heap.size]? = some (freshCell cX kX) := by rw [← hT1]; exact State.heap_pushCell_size _ _
  have d3' : decode c.code (pc + 3) = .ok (.dup, 1) := by rw [hb]; exact d3
  obtain ⟨U, hsteps, hrun, hend, hW, hsame, ce, hce, hO⟩ := X₁.ctorThrow0 hexec htr (own := own) (cls := cls) (names := names) (ic := ic) hown' hcls hnames h (fun x hx => nomatch hx) hfX hkX hcellA (by rw [hhp, hT]; exact Nat.le_refl _)
    (g := { method := m, pc := pc + 4, locals := ls, stack := .ref T.heap.size :: .ref T.heap.size :: rest, locked := none }) rfl hsize rfl rfl (rest := rest) rfl
    (by rw [hb]; exact d4) (by rw [hb]; exact d7) hout hRframes (by simp only [List.map_cons, List.sum_cons, hcat]; omega) hlocks
  obtain ⟨f1, f2⟩ := vx_frame hsame
  rw [hhp] at f1 f2
  have hWs : s.WarmedH U.vm := State.WarmedH.trans hW0 hW
  have hcl : s.vm.findClass cls = some ce.cls := by
    have h9 := hO.cls
    rw [hvm] at h9
    exact h9
  have hall : s.sameButNew ({ U with vm := s.vm } : State) locs mc ms := by
    subst hA
    obtain ⟨e1, e2⟩ := hsame
    rw [State.setFrames_setFrames] at e1
    have h2 : (T.setVm s.vm).sameButNew ({ U with vm := s.vm } : State) [] (0 + 1) (0 + 6) := ⟨e1, e2⟩
    have h3 := X.same.trans h2
    rw [List.append_nil] at h3
    exact h3.mono hc hs
  refine ⟨U, ?_, .threw T.heap.size, hrun, hend, Or.inr ⟨T.heap.size, rfl, cls, ce, locs, hx U hWs.alike f1 (fun q hq => f2 q hq (fun z hz => nomatch hz)), hce, hO.vm, hcl, hWs, hall, hf⟩⟩
  refine st1 _ ?_
  show Steps p.tables e below (T1.setTop { method := m, pc := pc + 3, locals := ls, stack := .ref T.heap.size :: rest, locked := none }) _
  jvm_step X₁.here [X₁.here.top, hexec, d3', Value.category]
  exact hsteps
/-- 'throw new E("text")': new; dup; ldc; invokespecial; athrow -/
theorem vx_throwS {cc : ByteArray} {pc : Nat} (hexec : p.tables.exec = Jvm.exec) (hb : c.code = cc) (hl : l.stackTraces = false) {own cls text : String} {names : List String} {ik is ic mc ms sa : Nat} {A : Nat → Prop}
    (hown : s.vm.findClass own = some m.cls) (hcls : Bundle.fit cls = true) (hnames : ∀ n ∈ names, Bundle.fit n = true)
    (hk : (Cond.classLink own ik cls).before args s = true) (hini : (Cond.initialized cls).before args s = true) (hstr : vk_R own is text sa s) (hat : ∀ w ∈ vx_atS own ic cls names, w.before args s = true)
    (hgood : ∀ w ∈ Cond.classLink own ik cls :: Cond.initialized cls :: vx_atS own ic cls names, vx_ot w = true)
    (hU : vx_Zq Bundle.tN "UNASSIGNED_STACK" Bundle.steD A s s.heap) (hN : vx_Zq Bundle.tN "SUPPRESSED_SENTINEL" Bundle.listD A s s.heap) (hS : va_S A s.heap H locs) (hsize : ls.size = c.maxLocals)
    (d0 : decode cc pc = .ok (.new ik, 3)) (d3 : decode cc (pc + 3) = .ok (.dup, 1)) (d4 : decode cc (pc + 4) = .ok (.ldc is, 2)) (d6 : decode cc (pc + 6) = .ok (.invokespecial ic, 3)) (d9 : decode cc (pc + 9) = .ok (.athrow, 1))
    (hout : ∀ x ∈ c.exceptionTable.toList, covers x (pc + 9) = false)
    (hRframes : names.length + 3 < R.frames) (hRlocals : (rest.map fun v => v.category).sum + (13 * (names.length + 1) + 43) ≤ R.locals) (hRcells : cells + 1 ≤ R.cells) (hRslots : slots + 6 ≤ R.slots) (hlocks : meth.locks = false)
    (hx : ∀ t : State, s.vm.Alike t.vm → H.size ≤ t.heap.size → (∀ q : Nat, q < H.size → t.heap[q]? = H[q]?) → XC cls s t)
    (hf : ∀ z ∈ locs, free z.base) (hc : cells + 1 ≤ mc) (hs : slots + 6 ≤ ms) :
    W p l e R s m args below meth c H locs cells slots (vx_MQ below Qc XC args s mc ms free) (F0 m pc ls rest) := by
  intro T hT X
  have htr : e.platform.stackTraces = false := (show e.platform.stackTraces = l.stackTraces by rw [X.admits.platform]).trans hl
  have Y := vx_rebase X (R' := { frames := R.frames, locals := R.locals, cells := 1, slots := 6 }) (Nat.le_refl _) (Nat.le_refl _) hRcells hRslots
  obtain ⟨s', hA⟩ : ∃ z, z = (T.setVm s.vm).setFrames (.invoking m args :: below) := ⟨_, rfl⟩
  rw [← hA] at Y
  have hvm : s'.vm = s.vm := by rw [hA]; rfl
  have hhp : s'.heap = H := by rw [hA]; exact hT
  have hW0 : s.WarmedH s'.vm := by rw [hvm]; exact State.WarmedH.refl s
  have hat' : ∀ w ∈ vx_atS own ic cls names, w.before args s' = true := fun w hw => vx_ot_at hW0 hvm.symm (hgood w (List.mem_cons_of_mem _ (List.mem_cons_of_mem _ hw))) (hat w hw)
  have hk' : (Cond.classLink own ik cls).before args s' = true := vx_ot_at hW0 hvm.symm (hgood _ List.mem_cons_self) hk
  have hini' : (Cond.initialized cls).before args s' = true := vx_ot_at hW0 hvm.symm (hgood _ (List.mem_cons_of_mem _ List.mem_cons_self)) hini
  have hU' : vx_Zq Bundle.tN "UNASSIGNED_STACK" Bundle.steD A s' s'.heap := by rw [hhp]; exact vx_Zq.moved hW0.alike (hU.kept hS.2.1)
  have hN' : vx_Zq Bundle.tN "SUPPRESSED_SENTINEL" Bundle.listD A s' s'.heap := by rw [hhp]; exact vx_Zq.moved hW0.alike (hN.kept hS.2.1)
  have h : ∀ w ∈ Bundle.ownAtoms own ic cls names, w.before args s' = true := vx_own hat' (vx_isRefq hU'.1) (vx_isRefq hN'.1) hU'.2.word hN'.2.word
  have hown' : s'.vm.findClass own = some m.cls := by rw [hvm]; exact hown
  have hins : (Cond.instantiable cls 6).before args s' = true := h _ (by simp [Bundle.ownAtoms])
  obtain ⟨vm₁, cX, kX, hfX, hkX, -, -, X₁, st1⟩ := Y.newCold hexec (own := own) (C := cls) (index := ik) (n := 6) hown' hk' hins hini'
    (g := F0 m pc ls rest) rfl (by rw [hb]; exact d0) (Nat.le_refl _) (Nat.le_refl _)
  generalize hT1 : (T.setVm vm₁).pushCell { cls := cX, slots := kX.instanceTypes.map defaultValue, vm := .none } = T1 at X₁ st1
  have hcat : (Value.ref T.heap.size).category = 1 := rfl
  have hcellA : T1.heap[T.heap.size]? = some (freshCell cX kX) := by rw [← hT1]; exact State.heap_pushCell_size _ _
  have d3' : decode c.code (pc + 3) = .ok (.dup, 1) := by rw [hb]; exact d3
  have d4' : decode c.code (pc + 4) = .ok (.ldc is, 2) := by rw [hb]; exact d4
  have hstr' : vk_R own is text sa s' := vk_R.warm hW0 hstr
  obtain ⟨U, hsteps, hrun, hend, hW, hsame, ce, hce, hO⟩ := X₁.ctorThrowS hexec htr (own := own) (cls := cls) (names := names) (ic := ic) hown' hcls hnames h (fun x hx => nomatch hx) hfX hkX hcellA (by rw [hhp, hT]; exact Nat.le_refl _) (msg := .ref sa) rfl
    (g := { method := m, pc := pc + 6, locals := ls, stack := .ref sa :: .ref T.heap.size :: .ref T.heap.size :: rest, locked := none }) rfl hsize rfl rfl (rest := rest) rfl
    (by rw [hb]; exact d6) (by rw [hb]; exact d9) hout hRframes (by simp only [List.map_cons, List.sum_cons, hcat]; omega) hlocks
  obtain ⟨f1, f2⟩ := vx_frame hsame
  rw [hhp] at f1 f2
  have hWs : s.WarmedH U.vm := State.WarmedH.trans hW0 hW
  have hcl : s.vm.findClass cls = some ce.cls := by
    have h9 := hO.cls
    rw [hvm] at h9
    exact h9
  have hall : s.sameButNew ({ U with vm := s.vm } : State) locs mc ms := by
    subst hA
    obtain ⟨e1, e2⟩ := hsame
    rw [State.setFrames_setFrames] at e1
    have h2 : (T.setVm s.vm).sameButNew ({ U with vm := s.vm } : State) [] (0 + 1) (0 + 6) := ⟨e1, e2⟩
    have h3 := X.same.trans h2
    rw [List.append_nil] at h3
    exact h3.mono hc hs
  refine ⟨U, ?_, .threw T.heap.size, hrun, hend, Or.inr ⟨T.heap.size, rfl, cls, ce, locs, hx U hWs.alike f1 (fun q hq => f2 q hq (fun z hz => nomatch hz)), hce, hO.vm, hcl, hWs, hall, hf⟩⟩
  refine st1 _ ?_
  show Steps p.tables e below (T1.setTop { method := m, pc := pc + 3, locals := ls, stack := .ref T.heap.size :: rest, locked := none }) _
  jvm_step X₁.here [X₁.here.top, hexec, d3', Value.category]
  exact X₁.ldcString hexec (own := own) (text := text) (index := is) (a := sa) hown' hstr'.1 hstr'.2
    (g := { method := m, pc := pc + 4, locals := ls, stack := .ref T.heap.size :: .ref T.heap.size :: rest, locked := none }) rfl d4' _ hsteps
/-- 'throw new E("text")', the text by a wide index -/
theorem vx_throwSW {cc : ByteArray} {pc : Nat} (hexec : p.tables.exec = Jvm.exec) (hb : c.code = cc) (hl : l.stackTraces = false) {own cls text : String} {names : List String} {ik is ic mc ms sa : Nat} {A : Nat → Prop}
    (hown : s.vm.findClass own = some m.cls) (hcls : Bundle.fit cls = true) (hnames : ∀ n ∈ names, Bundle.fit n = true)
    (hk : (Cond.classLink own ik cls).before args s = true) (hini : (Cond.initialized cls).before args s = true) (hstr : vk_R own is text sa s) (hat : ∀ w ∈ vx_atS own ic cls names, w.before args s = true)
    (hgood : ∀ w ∈ Cond.classLink own ik cls :: Cond.initialized cls :: vx_atS own ic cls names, vx_ot w = true)
    (hU : vx_Zq Bundle.tN "UNASSIGNED_STACK" Bundle.steD A s s.heap) (hN : vx_Zq Bundle.tN "SUPPRESSED_SENTINEL" Bundle.listD A s s.heap) (hS : va_S A s.heap H locs) (hsize : ls.size = c.maxLocals)
    (d0 : decode cc pc = .ok (.new ik, 3)) (d3 : decode cc (pc + 3) = .ok (.dup, 1)) (d4 : decode cc (pc + 4) = .ok (.ldc_w is, 3)) (d7 : decode cc (pc + 7) = .ok (.invokespecial ic, 3)) (d10 : decode cc (pc + 10) = .ok (.athrow, 1))
    (hout : ∀ x ∈ c.exceptionTable.toList, covers x (pc + 10) = false)
    (hRframes : names.length + 3 < R.frames) (hRlocals : (rest.map fun v => v.category).sum + (13 * (names.length + 1) + 43) ≤ R.locals) (hRcells : cells + 1 ≤ R.cells) (hRslots : slots + 6 ≤ R.slots) (hlocks : meth.locks = false)
    (hx : ∀ t : State, s.vm.Alike t.vm → H.size ≤ t.heap.size → (∀ q : Nat, q < H.size → t.heap[q]? = H[q]?) → XC cls s t)
    (hf : ∀ z ∈ locs, free z.base) (hc : cells + 1 ≤ mc) (hs : slots + 6 ≤ ms) :
    W p l e R s m args below meth c H locs cells slots (vx_MQ below Qc XC args s mc ms free) (F0 m pc ls rest) := by
  intro T hT X
  have htr : e.platform.stackTraces = false := (show e.platform.stackTraces = l.stackTraces by rw [X.admits.platform]).trans hl
  have Y := vx_rebase X (R' := { frames := R.frames, locals := R.locals, cells := 1, slots := 6 }) (Nat.le_refl _) (Nat.le_refl _) hRcells hRslots
  obtain ⟨s', hA⟩ : ∃ z, z = (T.setVm s.vm).setFrames (.invoking m args :: below) := ⟨_, rfl⟩
  rw [← hA] at Y
  have hvm : s'.vm = s.vm := by rw [hA]; rfl
  have hhp : s'.heap = H := by rw [hA]; exact hT
  have hW0 : s.WarmedH s'.vm := by rw [hvm]; exact State.WarmedH.refl s
  have hat' : ∀ w ∈ vx_atS own ic cls names, w.before args s' = true := fun w hw => vx_ot_at hW0 hvm.symm (hgood w (List.mem_cons_of_mem _ (List.mem_cons_of_mem _ hw))) (hat w hw)
  have hk' : (Cond.classLink own ik cls).before args s' = true := vx_ot_at hW0 hvm.symm (hgood _ List.mem_cons_self) hk
  have hini' : (Cond.initialized cls).before args s' = true := vx_ot_at hW0 hvm.symm (hgood _ (List.mem_cons_of_mem _ List.mem_cons_self)) hini
  have hU' : vx_Zq Bundle.tN "UNASSIGNED_STACK" Bundle.steD A s' s'.heap := by rw [hhp]; exact vx_Zq.moved hW0.alike (hU.kept hS.2.1)
  have hN' : vx_Zq Bundle.tN "SUPPRESSED_SENTINEL" Bundle.listD A s' s'.heap := by rw [hhp]; exact vx_Zq.moved hW0.alike (hN.kept hS.2.1)
  have h : ∀ w ∈ Bundle.ownAtoms own ic cls names, w.before args s' = true := vx_own hat' (vx_isRefq hU'.1) (vx_isRefq hN'.1) hU'.2.word hN'.2.word
  have hown' : s'.vm.findClass own = some m.cls := by rw [hvm]; exact hown
  have hins : (Cond.instantiable cls 6).before args s' = true := h _ (by simp [Bundle.ownAtoms])
  obtain ⟨vm₁, cX, kX, hfX, hkX, -, -, X₁, st1⟩ := Y.newCold hexec (own := own) (C := cls) (index := ik) (n := 6) hown' hk' hins hini'
    (g := F0 m pc ls rest) rfl (by rw [hb]; exact d0) (Nat.le_refl _) (Nat.le_refl _)
  generalize hT1 : (T.setVm vm₁).pushCell { cls := cX, slots := kX.instanceTypes.map defaultValue, vm := .none } = T1 at X₁ st1
  have hcat : (Value.ref T.heap.size).category = 1 := rfl
  have hcellA : T1.heap[T.heap.size]? = some (freshCell cX kX) := by rw [← hT1]; exact State.heap_pushCell_size _ _
  have d3' : decode c.code (pc + 3) = .ok (.dup, 1) := by rw [hb]; exact d3
  have d4' : decode c.code (pc + 4) = .ok (.ldc_w is, 3) := by rw [hb]; exact d4
  have hstr' : vk_R own is text sa s' := vk_R.warm hW0 hstr
  obtain ⟨U, hsteps, hrun, hend, hW, hsame, ce, hce, hO⟩ := X₁.ctorThrowS hexec htr (own := own) (cls := cls) (names := names) (ic := ic) hown' hcls hnames h (fun x hx => nomatch hx) hfX hkX hcellA (by rw [hhp, hT]; exact Nat.le_refl _) (msg := .ref sa) rfl
    (g := { method := m, pc := pc + 7, locals := ls, stack := .ref sa :: .ref T.heap.size :: .ref T.heap.size :: rest, locked := none }) rfl hsize rfl rfl (rest := rest) rfl
    (by rw [hb]; exact d7) (by rw [hb]; exact d10) hout hRframes (by simp only [List.map_cons, List.sum_cons, hcat]; omega) hlocks
  obtain ⟨f1, f2⟩ := vx_frame hsame
  rw [hhp] at f1 f2
  have hWs : s.WarmedH U.vm := State.WarmedH.trans hW0 hW
  have hcl : s.vm.findClass cls = some ce.cls := by
    have h9 := hO.cls
    rw [hvm] at h9
    exact h9
  have hall : s.sameButNew ({ U with vm := s.vm } : State) locs mc ms := by
    subst hA
    obtain ⟨e1, e2⟩ := hsame
    rw [State.setFrames_setFrames] at e1
    have h2 : (T.setVm s.vm).sameButNew ({ U with vm := s.vm } : State) [] (0 + 1) (0 + 6) := ⟨e1, e2⟩
    have h3 := X.same.trans h2
    rw [List.append_nil] at h3
    exact h3.mono hc hs
  refine ⟨U, ?_, .threw T.heap.size, hrun, hend, Or.inr ⟨T.heap.size, rfl, cls, ce, locs, hx U hWs.alike f1 (fun q hq => f2 q hq (fun z hz => nomatch hz)), hce, hO.vm, hcl, hWs, hall, hf⟩⟩
  refine st1 _ ?_
  show Steps p.tables e below (T1.setTop { method := m, pc := pc + 3, locals := ls, stack := .ref T.heap.size :: rest, locked := none }) _
  jvm_step X₁.here [X₁.here.top, hexec, d3', Value.category]
  exact X₁.ldcStringW hexec (own := own) (text := text) (index := is) (a := sa) hown' hstr'.1 hstr'.2
    (g := { method := m, pc := pc + 4, locals := ls, stack := .ref T.heap.size :: .ref T.heap.size :: rest, locked := none }) rfl d4' _ hsteps
end Ends
section Bodies
variable {l : Launch}
theorem vx_ofW {y : MethodName} {ws ws' : List Cond} {rm : Room} {Pc : Array Value → State → Prop} {Qc : Array Value → State → Outcome → State → Prop} {XC : String → State → State → Prop} {mc ms : Nat} {free : Addr → Prop} {cc : ByteArray} {maxL : Nat} {ret : Option FieldType}
    (hy : plainName y.cls = true) (hw : ws = Cond.code y cc maxL ret :: ws')
    (body : ∀ p e s m args below meth c s₁, BodyLoose p l y (headSpec ws rm) cc maxL ret e s m args below meth c s₁ → c.maxLocals = maxL → (∀ x ∈ c.exceptionTable.toList, False) → Pc args s →
      W p l e (headSpec ws rm).room s m args below meth c s.heap [] 0 0 (vx_MQ below Qc XC args s mc ms free) (entryFrame m args maxL)) : vx_Met l y ws rm Pc Qc XC mc ms free := by
  refine MetFree.of_bodyS (code := cc) (maxLocals := maxL) (ret := ret) hy ?_ ?_
  · intro args s m h hn
    obtain ⟨meth, c, h1, h2, h3, h4, h5, h6, -, -⟩ := Cond.code_spec hn (atoms_spec (ws := ws) h _ (by rw [hw]; exact List.mem_cons_self))
    exact ⟨meth, c, h1, h2, h3, h4, h5, h6⟩
  · intro p e s m args below meth c s₁ B hml hP _
    have hh0 : s₁.heap = s.heap := by rw [B.state]; rfl
    have ht : ∀ x ∈ c.exceptionTable.toList, False := by
      obtain ⟨meth9, c9, h1, h2, -, -, -, -, h7, -⟩ := Cond.code_spec B.named (atoms_spec (ws := ws) B.pre _ (by rw [hw]; exact List.mem_cons_self))
      cases Option.some.inj (h1.symm.trans B.method)
      cases Option.some.inj (h2.symm.trans (Stand.of_body B).code)
      intro x hx
      rw [Array.isEmpty_iff.mp h7] at hx
      cases hx
    obtain ⟨t, a1, o, b1, b2, b3⟩ := body p e s m args below meth c s₁ B hml ht hP s₁ hh0 (Stand.of_body B)
    exact ⟨t, o, a1, b1, b2, b3⟩
/-- the table of a body with handlers -/
theorem vx_table {p : Program} {x y : MethodName} {S : Spec} {cc bytes : ByteArray} {maxL maxL' : Nat} {ret ret' : Option FieldType} {e : Env} {s s₁ : State} {m : MethodId} {args : Array Value} {below : List Frame} {meth : Method} {c : Code} {hh : List (Nat × Nat × Nat × Nat)}
    (B : BodyLoose p l y S cc maxL ret e s m args below meth c s₁) (h : (Cond.codeWith y bytes maxL' ret' hh).before args s = true) : c.exceptionTable.toList = tableOf hh := by
  obtain ⟨m9, meth9, c9, hn9, h1, h2, -, -, h6, -⟩ := Cond.codeWith_spec h
  cases Option.some.inj (hn9.symm.trans B.named)
  cases Option.some.inj (h1.symm.trans B.method)
  cases Option.some.inj (h2.symm.trans (Stand.of_body B).code)
  rw [← h6, table_eq]
end Bodies
end VXA
/-! ===== END ===== -/
/-! ===== BEGIN a static call of a method with an exception table ===== -/
section VXS
variable {p : Program} {l : Launch} {e : Env} {R : Room} {s : State} {m : MethodId} {args : Array Value} {below : List Frame} {meth : Method} {c : Code} {T : State} {H : Heap} {locs : List Loc} {cells slots : Nat}
abbrev vx_CSW (R : Room) (s : State) (args : Array Value) (own : String) (index : Nat) (y : MethodName) (bytes : ByteArray) (maxL : Nat) (ret : Option FieldType) (hh : List (Nat × Nat × Nat × Nat)) (ws : List Cond) (rm : Room) (mc ms n : Nat) : Prop :=
  (rm.cells = mc ∧ rm.slots = ms ∧ rm.frames + 1 ≤ R.frames ∧ 8 + (maxL + 11) + rm.locals ≤ R.locals ∧ (∀ w ∈ ws, ∀ (a' : Array Value) (U : State), s.WarmedH U.vm → w.before a' U = true) ∧ Cond.codeWith y bytes maxL ret hh ∈ ws) ∧
  (Cond.codeWith y bytes maxL ret hh).before args s = true ∧ (Cond.initialized y.cls).before args s = true ∧ (y.cls ≠ "java/lang/invoke/MethodHandle" ∧ y.cls ≠ "java/lang/invoke/VarHandle") ∧
  (∀ sig, parseMethodDescriptor y.desc = some sig → n = sig.parameters.length) ∧ (Cond.methodLink own index y).before args s = true ∧ (Cond.static y).before args s = true
theorem vx_cwSW {own : String} {index maxL mc ms : Nat} {y : MethodName} {bytes : ByteArray} {ret : Option FieldType} {hh : List (Nat × Nat × Nat × Nat)} {Ts ws ws' : List Cond} {rm : Room} (n : Nat) (ht : ∀ w ∈ Ts, w.before args s = true) (hT : GoodIn Ts (va_wsS own index y ws)) (hw : ws = Cond.codeWith y bytes maxL ret hh :: ws') (hrc : rm.cells = mc) (hrs : rm.slots = ms)
    (hd : y.cls ≠ "java/lang/invoke/MethodHandle" ∧ y.cls ≠ "java/lang/invoke/VarHandle" ∧ (parseMethodDescriptor y.desc).map (fun d => d.parameters.length) = some n) (hR : rm.frames + 1 ≤ R.frames ∧ 8 + (maxL + 11) + rm.locals ≤ R.locals) :
    vx_CSW R s args own index y bytes maxL ret hh ws rm mc ms n := by
  have ok : ∀ w ∈ va_wsS own index y ws, w.before args s = true := fun w h => ht w (hT w h).1
  have hG : GoodIn Ts ws := fun w h => hT w (by unfold va_wsS; exact List.mem_append_right _ h)
  have hc : Cond.codeWith y bytes maxL ret hh ∈ ws := by rw [hw]; exact List.mem_cons_self
  refine ⟨⟨hrc, hrs, hR.1, hR.2, pay_in ht hG, hc⟩, ht _ (hG _ hc).1, ok _ (by simp [va_wsS]), ⟨hd.1, hd.2.1⟩, fun sig h => ?_, ok _ (by simp [va_wsS]), ok _ (by simp [va_wsS])⟩
  have h2 := hd.2.2
  rw [h] at h2
  exact (Option.some.inj h2).symm
theorem vx_callSW (X : Stand p l e R s m args below meth c T locs cells slots) (hexec : p.tables.exec = Jvm.exec) {own : String} {index : Nat} {y : MethodName} {bytes : ByteArray} {maxL : Nat} {ret : Option FieldType} {hh : List (Nat × Nat × Nat × Nat)}
    (hown : s.vm.findClass own = some m.cls) (hlink : (Cond.methodLink own index y).before args s = true) (hstat : (Cond.static y).before args s = true) (hinit : (Cond.initialized y.cls).before args s = true)
    (hcode : (Cond.codeWith y bytes maxL ret hh).before args s = true) (hy : y.cls ≠ "java/lang/invoke/MethodHandle" ∧ y.cls ≠ "java/lang/invoke/VarHandle")
    {W9 : Nat} {Pre : Pt → Array Value → Prop} {Post : Pt → Array Value → Option Value → Pt → Prop} (hK : Back l R p e below s args y 3 W9 Pre Post)
    {g : JFrame} (hg : g.method = m) (hsize : g.locals.size = c.maxLocals) {argsL rest : List Value} (hlen : ∀ sig, parseMethodDescriptor y.desc = some sig → argsL.length = sig.parameters.length)
    (hstack : g.stack = argsL.reverse ++ rest) (hW : 2 * g.monitorRoom + (rest.map fun v => v.category).sum ≤ W9) (hdg : decode c.code g.pc = .ok (.invokestatic index, 3))
    (hpre : ∀ vm₁, s.WarmedH vm₁ → Pre ⟨T.setVm vm₁, locs, cells, slots⟩ argsL.toArray) :
    ∃ (v : Option Value) (vm₁ : Vm) (B : Pt), s.WarmedH vm₁ ∧ Stand p l e R s m args below meth c B.U B.locs B.cells B.slots ∧ Post ⟨T.setVm vm₁, locs, cells, slots⟩ argsL.toArray v B ∧
      ∀ target, Steps p.tables e below (B.U.setTop { g with pc := g.pc + 3, stack := v.toList ++ rest }) target → Steps p.tables e below (T.setTop g) target := by
  obtain ⟨mk, methM, cM, hnamed, hmethM, -, -, -, -, -, -, hsigM⟩ := Cond.codeWith_spec hcode
  have hstatic : methM.isStatic = true := Cond.static_spec hnamed hmethM hstat
  obtain ⟨kP, hkP, -⟩ := className_of_methodNamed hnamed
  have hinitP : kP.init = .initialized := Cond.initialized_spec (findClass_of_methodNamed hnamed) hkP hinit
  obtain ⟨vm₁, X₁, hstep₁⟩ := X.invokestatic hexec hown hlink hnamed hmethM hstatic hkP hinitP hy (g := g) hg (argsL := argsL) (rest := rest) (hlen _ hsigM) hstack hdg
  obtain ⟨v, B, X', hpost, hsteps⟩ := hK m meth c ⟨T.setVm vm₁, locs, cells, slots⟩ { g with stack := rest } (.invokestatic index) mk argsL.toArray X₁ hg hsize hdg hW (X₁.named hnamed) (hpre vm₁ X₁.warmed)
  exact ⟨v, vm₁, B, X₁.warmed, X', hpost, fun target h => hstep₁ _ fun acts => by rw [doInvoke_state]; exact hsteps.trans h⟩
theorem vx_runSW {y : MethodName} {bytes cc : ByteArray} {maxL nL mc ms n index : Nat} {ret : Option FieldType} {hh : List (Nat × Nat × Nat × Nat)} {ws : List Cond} {rm : Room} {Pc : Array Value → State → Prop} {Qc : Array Value → State → Outcome → State → Prop} {free : Addr → Prop} {Ts : List Cond} {own : String} {As rest : List Value} {g : JFrame}
    (S : CallFix p m c cc nL s args Ts own) (hM : Met l y ws rm Pc Qc mc ms free) (cw : vx_CSW R s args own index y bytes maxL ret hh ws rm mc ms n) (hp : PreS s H Pc As)
    (hg : g.method = m) (hn : As.length = n) (hsize : g.locals.size = nL) (hstack : g.stack = As.reverse ++ rest) (hW : 2 * g.monitorRoom + (rest.map fun v => v.category).sum ≤ 8) (hdg : decode cc g.pc = .ok (.invokestatic index, 3)) (hf : cells + mc ≤ R.cells ∧ slots + ms ≤ R.slots) :
    va_Run p l e R s m args below meth c H locs cells slots mc ms g rest (Qc As.toArray) (free) := by
  obtain ⟨⟨hrc, hrs, hfr, hlo, hws, hcw⟩, hcode, hini, hy, hlen, hl, hstt⟩ := cw
  have hK : Back l R p e below s args y 3 8 (PreOf R mc ms Pc) (PostOf Qc mc ms free) := va_backW (hh := hh) (bytes := bytes) (maxL := maxL) (ret := ret) hM hp.1 hrc hrs hfr hlo hws hcw (fun a' U hW => word_at hW (Or.inl (by first | rfl | simp [Cond.onTables, Cond.keeps, Cond.steady])) hini)
  obtain ⟨hx, hb, hml, ho, -⟩ := S
  intro T hT X
  obtain ⟨v, vm₁, ⟨U', l2, c2, s2⟩, hW₁, X', ⟨g', mk, t, L, e1, e2, hq, h1, hL, h2, h3⟩, st⟩ := vx_callSW X hx (hh := hh) (bytes := bytes) (maxL := maxL) (ret := ret) ho hl hstt hini hcode hy hK hg (hsize.trans hml.symm) (argsL := As) (rest := rest) (fun sig h => hn.trans (hlen sig h)) hstack hW (by rw [hb]; exact hdg)
    (fun vm₁ hW₁ => ⟨hf.1, hf.2, hp.2 (T.setVm vm₁) hT hW₁⟩)
  dsimp only [Pt.U, Pt.locs, Pt.cells, Pt.slots] at X' e1 e2 h1 h2 h3 st
  subst h1; subst h2; subst h3
  exact ⟨v, (T.setVm vm₁).calling g' mk As.toArray, t, U', L, hT, X', hL, e1, e2, hq, st⟩
/-- not caught here, past rows that name other classes: it goes on to the caller -/
theorem vx_outP {p : Program} {l : Launch} {e : Env} {R : Room} {s : State} {m : MethodId} {args : Array Value} {below : List Frame} {meth : Method} {c : Code} {H : Heap} {locs : List Loc} {cells slots : Nat} {free : Addr → Prop} {ls : Array Slot} {rest : List Value} {Qc : Array Value → State → Outcome → State → Prop} {XC : String → State → State → Prop}
    {pc : Nat} {own E : String} {ce : Cell} {q : Addr} {mc ms : Nat} (hown : s.vm.findClass own = some m.cls) (hlocks : meth.locks = false)
    (hpass : ∀ z ∈ c.exceptionTable.toList, covers z pc = false ∨ (z.catchType ≠ 0 ∧ ∃ nm : String, (Cond.classLink own z.catchType nm).before args s = true ∧ va_Nc E nm s)) (hcell : H[q]? = some ce) (hv : ce.vm = .none) (hcl : s.vm.findClass E = some ce.cls)
    (hx : ∀ t : State, t.heap = H → s.vm.Alike t.vm → XC E s t) (hf : ∀ z ∈ locs, free z.base) (hc : cells ≤ mc) (hs : slots ≤ ms) :
    vx_W p l e R s m args below meth c H locs cells slots (vx_MQ below Qc XC args s mc ms free) (F0 m pc ls rest) q := by
  intro T hT X
  have hpl : e.platform.magicAccessors = ({} : Platform).magicAccessors := by rw [X.admits.platform]
  obtain ⟨vm', hW', X', st⟩ := X.outThrough hlocks q (g := F0 m pc ls rest) rfl rfl rfl (cell := ce) (by rw [hT]; exact hcell) (by rw [hv]; rfl)
    (by obtain ⟨k9, h9, -⟩ := Vm.findClass_spec hcl; exact ⟨k9, h9⟩) (fun z hz => by
      rcases hpass z hz with h | ⟨hz0, nm, hl1, hn1⟩
      · exact Or.inl h
      · obtain ⟨c6, hc6, hcl6⟩ := Cond.classLink_spec hown hl1 e.platform hpl
        obtain ⟨a8, b8, h1, h2, h3⟩ := hn1
        cases Option.some.inj (h1.symm.trans hcl)
        cases Option.some.inj (h2.symm.trans hc6)
        exact Or.inr ⟨hz0, _, hcl6, h3⟩)
  obtain ⟨g₀, hfr⟩ := X'.frames_eq
  have hcell9 : ((T.setVm vm').setFrames (.throwing q :: below)).heap[q]? = some ce := by
    show T.heap[q]? = some ce
    rw [hT]; exact hcell
  have hend : Ended ((T.setVm vm').setFrames (.throwing q :: below)) below (.threw q) := State.frames_setFrames _ (State.cur_lt_of_frames hfr)
  refine ⟨(T.setVm vm').setFrames (.throwing q :: below), ?_, .threw q, X'.here.running, hend, Or.inr ⟨q, rfl, E, ce, locs, hx _ hT (X'.ends _).1.alike, hcell9, hv, hcl, (X'.ends _).1, (X'.ends _).2.mono hc hs, hf⟩⟩
  rw [X.pushThrowing_eq]
  exact st
/-- a thing of a world lies in the heap -/
theorem vx_lt {D : va_G} {cl : List vw_C} {ws : va_W} {H1 : Heap} (h : va_P D cl ws H1) {k : Nat} {q : Nat × va_E} (hk : ws[k]? = some q) : q.1 < H1.size := (h k q hk).lt
end VXS
/-! ===== END ===== -/
/-! ===== BEGIN methods with a table of their own: called by a name, returning or throwing ===== -/
section VXH
/-! vx_backW, vx_callVX, vx_callSX, vx_callVW, vx_runVW, vx_runVX, vx_runSX, vx_ofWH follow the same proofs as their sisters above (Free/Laws.lean, Shelf42/LK1.lean); vx_outP calls Shelf42/NT130.lean (outThrough). -/
section
variable {l : Launch} {R : Room} {p : Program} {e : Env} {below : List Frame} {s : State} {sargs : Array Value} {y : MethodName} {len W9 : Nat}
theorem vx_backW {ws : List Cond} {rm : Room} {Pc : Array Value → State → Prop} {Qc : Array Value → State → Outcome → State → Prop} {XC : String → State → State → Prop} {mc ms : Nat} {free : Addr → Prop} {bytes : ByteArray} {maxL : Nat} {ret : Option FieldType} {hh : List (Nat × Nat × Nat × Nat)}
    (hM : vx_Met l y ws rm Pc Qc XC mc ms free) (hblind : FrameBlind Pc) (hrc : rm.cells = mc) (hrs : rm.slots = ms)
    (hframes : rm.frames + 1 ≤ R.frames) (hlocals : W9 + (maxL + 11) + rm.locals ≤ R.locals)
    (hws : ∀ w ∈ ws, ∀ a' U, s.WarmedH U.vm → w.before a' U = true) (hcode : Cond.codeWith y bytes maxL ret hh ∈ ws) (hinit : ∀ a' U, s.WarmedH U.vm → (Cond.initialized y.cls).before a' U = true) :
    vx_Back l R p e below s sargs y len W9 (PreOf R mc ms Pc) (PostOf Qc mc ms free) (vx_Post XC mc ms free) := by
  intro m meth c A g ig mk a X hg hsize hdg hW hn hp
  have h1 : (headSpec ws rm).pre.before a A.U = true := atoms_intro fun w hw => hws w hw _ _ X.warmed
  have h2 : (Cond.codeWith y bytes maxL ret hh).before a A.U = true := hws _ hcode _ _ X.warmed
  have h3 : (Cond.initialized y.cls).before a A.U = true := hinit _ _ X.warmed
  have h4 : A.cells + (headSpec ws rm).room.cells ≤ R.cells := by rw [show (headSpec ws rm).room.cells = mc from hrc]; exact hp.1
  have h5 : A.slots + (headSpec ws rm).room.slots ≤ R.slots := by rw [show (headSpec ws rm).room.slots = ms from hrs]; exact hp.2.1
  have hPc : Pc a (A.U.calling g mk a) := hblind _ _ _ _ hp.2.2
  obtain ⟨U, Ls, c0, s0⟩ := A
  dsimp only [Pt.U, Pt.locs, Pt.cells, Pt.slots] at h1 h2 h3 h4 h5 X hn hPc ⊢
  obtain ⟨m9, methY, cY, hn9, hmY, hcY, -, hlY, -⟩ := Cond.codeWith_spec h2
  cases Option.some.inj (hn9.symm.trans hn)
  obtain ⟨kY, hkY, -⟩ := className_of_methodNamed hn
  have hinitY : kY.init = .initialized := Cond.initialized_spec (findClass_of_methodNamed hn) hkY h3
  have h : At U g.method c below := by rw [hg]; exact X.here
  have hlocals9 : W9 + (maxL + 11) + (headSpec ws rm).room.locals ≤ R.locals := hlocals
  have happ : (headSpec ws rm).appliesLoose y e.platform (U.calling g mk a) = true :=
    Spec.appliesLoose_calling (g := g) h hdg hn hkY hinitY
      (X.room_calling (g := g) (R' := (headSpec ws rm).room) hsize hmY hcY hframes (by rw [hlY]; omega) h4 h5) h1
  obtain ⟨mid, hmid⟩ := h.above
  have hfr : (U.setTop g).frames = (.java g :: mid) ++ below := by rw [State.frames_setTop' g h.top, hmid]; rfl
  obtain ⟨o, s₂, hsteps, -, hend, hq⟩ := Steps.callFree hM p X.admits X.cas X.clock (acts := []) hfr happ hPc trivial
  have hq' : vx_Q Qc XC mc ms free a (U.calling g mk a) o s₂ := hq
  rw [State.frames_setTop' g h.top] at hend
  obtain ⟨g₀, hg0⟩ := Option.isSome_iff_exists.mp h.top
  obtain ⟨r, hr⟩ := State.topJava?_eq_some.mp hg0
  have hr' : (({ U with heap := s₂.heap, slotsUsed := s₂.slotsUsed } : State).setVm s₂.vm).frames = .java g₀ :: r := hr
  rcases hq' with ⟨hqc, L, hfe, hL⟩ | ⟨q, rfl, E, ce, L, hx, hce, hcv, hcl, hW₂, hsm, hL⟩
  · obtain ⟨⟨v, rfl⟩, hW₂, e2, q2, q3, q4, q5, q6⟩ := id hfe
    have e3 : s₂ = ({ (U.calling g mk a).setFrames s₂.frames with heap := s₂.heap, slotsUsed := s₂.slotsUsed } : State).setVm s₂.vm := by
      have : s₂ = ({ s₂ with vm := (U.calling g mk a).vm } : State).setVm s₂.vm := rfl
      rw [e2] at this
      exact this
    obtain ⟨c₂, i₂, len₂, hc₂, hd₂, hf₂⟩ := hend
    have hW' : U.WarmedH s₂.vm := hW₂
    have hcc : c₂ = c := by
      have h1 : s₂.code? g.method = U.code? g.method := by
        rw [State.code?_eq, State.code?_eq, hW'.alike.method?]
      exact Option.some.inj (hc₂.symm.trans (h1.trans h.code))
    subst hcc
    have hlen : len₂ = len := by rw [hdg] at hd₂; cases hd₂; rfl
    subst hlen
    have hs₂ : s₂ = (({ U with heap := s₂.heap, slotsUsed := s₂.slotsUsed } : State).setVm s₂.vm).setTop { g with pc := g.pc + len₂, stack := v.toList ++ g.stack } := by
      refine e3.trans ?_
      rw [hf₂, State.calling_eq h.top, State.setFrames_setFrames, State.setTop_of_frames _ hr', hr]
      rfl
    have hsame : U.sameButNew ({ U with heap := s₂.heap, slotsUsed := s₂.slotsUsed } : State) L mc ms := by
      refine ⟨?_, q2, q3, q4, q5, q6⟩
      obtain ⟨t, ht, -⟩ := State.frames_cons hr
      show ({ U with heap := s₂.heap, slotsUsed := s₂.slotsUsed } : State) = { U.setFrames U.frames with heap := s₂.heap, slotsUsed := s₂.slotsUsed }
      rw [State.setFrames_self ht]
    subst hg
    refine Or.inl ⟨v, ⟨(({ U with heap := s₂.heap, slotsUsed := s₂.slotsUsed } : State).setVm s₂.vm), Ls ++ L, c0 + mc, s0 + ms⟩,
      ⟨X.admits, X.cas, X.clock, X.frames, X.room, X.hears, X.method, X.code, (X.here.setHeapUsed s₂.heap s₂.slotsUsed).setVm hW'.alike, X.tail, State.WarmedH.trans X.warmed hW', X.limits, X.bytes, X.same.trans (hsame.setVm s.vm)⟩,
      ⟨g, mk, s₂, L, rfl, rfl, hqc, rfl, hL, rfl, rfl⟩, ?_⟩
    show Steps p.tables e below _ ((({ U with heap := s₂.heap, slotsUsed := s₂.slotsUsed } : State).setVm s₂.vm).setTop { g with pc := g.pc + len₂, stack := v.toList ++ g.stack })
    rw [← hs₂]
    exact hsteps
  · obtain ⟨e2, q2, q3, q4, q5, q6⟩ := id hsm
    have e3 : s₂ = ({ (U.calling g mk a).setFrames s₂.frames with heap := s₂.heap, slotsUsed := s₂.slotsUsed } : State).setVm s₂.vm := by
      have : s₂ = ({ s₂ with vm := (U.calling g mk a).vm } : State).setVm s₂.vm := rfl
      rw [e2] at this
      exact this
    have hf₂ : s₂.frames = .throwing q :: .java g :: U.frames.tail := hend
    have hW' : U.WarmedH s₂.vm := hW₂
    have hs₂ : s₂ = ((({ U with heap := s₂.heap, slotsUsed := s₂.slotsUsed } : State).setVm s₂.vm).setTop g).pushFrame (.throwing q) := by
      refine e3.trans ?_
      rw [hf₂, State.calling_eq h.top, State.setFrames_setFrames, State.pushFrame, State.frames_setTop _ hr', State.setTop_of_frames _ hr', State.setFrames_setFrames, hr]
      rfl
    have hsame : U.sameButNew ({ U with heap := s₂.heap, slotsUsed := s₂.slotsUsed } : State) L mc ms := by
      refine ⟨?_, q2, q3, q4, q5, q6⟩
      obtain ⟨t, ht, -⟩ := State.frames_cons hr
      show ({ U with heap := s₂.heap, slotsUsed := s₂.slotsUsed } : State) = { U.setFrames U.frames with heap := s₂.heap, slotsUsed := s₂.slotsUsed }
      rw [State.setFrames_self ht]
    subst hg
    refine Or.inr ⟨q, ⟨(({ U with heap := s₂.heap, slotsUsed := s₂.slotsUsed } : State).setVm s₂.vm), Ls ++ L, c0 + mc, s0 + ms⟩,
      ⟨X.admits, X.cas, X.clock, X.frames, X.room, X.hears, X.method, X.code, (X.here.setHeapUsed s₂.heap s₂.slotsUsed).setVm hW'.alike, X.tail, State.WarmedH.trans X.warmed hW', X.limits, X.bytes, X.same.trans (hsame.setVm s.vm)⟩,
      ⟨g, mk, s₂, L, E, ce, rfl, rfl, hx, hce, hcv, hcl, rfl, hL, rfl, rfl⟩, ?_⟩
    show Steps p.tables e below _ (((({ U with heap := s₂.heap, slotsUsed := s₂.slotsUsed } : State).setVm s₂.vm).setTop g).pushFrame (.throwing q))
    rw [← hs₂]
    exact hsteps
end
variable {p : Program} {l : Launch} {e : Env} {R : Room} {s : State} {m : MethodId} {args : Array Value} {below : List Frame} {meth : Method} {c : Code} {T : State} {H : Heap} {locs : List Loc} {cells slots : Nat}
theorem vx_callVX (X : Stand p l e R s m args below meth c T locs cells slots) (hexec : p.tables.exec = Jvm.exec) {own C : String} {index : Nat} {y : MethodName} {bytes : ByteArray} {maxL : Nat} {ret : Option FieldType} {hh : List (Nat × Nat × Nat × Nat)}
    (hown : s.vm.findClass own = some m.cls) (hlink : (Cond.methodLink own index y).before args s = true) (hinst : (Cond.instanceMethod y).before args s = true) (hsel : (Cond.selects C y y).before args s = true)
    (hcode : (Cond.codeWith y bytes maxL ret hh).before args s = true) (hy : y.cls ≠ "java/lang/invoke/MethodHandle" ∧ y.cls ≠ "java/lang/invoke/VarHandle")
    {W9 : Nat} {Pre : Pt → Array Value → Prop} {Post : Pt → Array Value → Option Value → Pt → Prop} {PostX : Pt → Array Value → Addr → Pt → Prop} (hK : vx_Back l R p e below s args y 3 W9 Pre Post PostX)
    {b : Addr} {cellB : Cell} (hcell : T.heap[b]? = some cellB) (hobj : cellB.vm.isStatics = false) (hcls : s.vm.findClass C = some cellB.cls)
    {g : JFrame} (hg : g.method = m) (hsize : g.locals.size = c.maxLocals) {argsL rest : List Value} (hlen : ∀ sig, parseMethodDescriptor y.desc = some sig → argsL.length = sig.parameters.length)
    (hstack : g.stack = argsL.reverse ++ .ref b :: rest) (hW : 2 * g.monitorRoom + (rest.map fun v => v.category).sum ≤ W9) (hdg : decode c.code g.pc = .ok (.invokevirtual index, 3))
    (hpre : ∀ vm₁, s.WarmedH vm₁ → Pre ⟨T.setVm vm₁, locs, cells, slots⟩ (Value.ref b :: argsL).toArray) :
    (∃ (v : Option Value) (vm₁ : Vm) (B : Pt), s.WarmedH vm₁ ∧ Stand p l e R s m args below meth c B.U B.locs B.cells B.slots ∧ Post ⟨T.setVm vm₁, locs, cells, slots⟩ (Value.ref b :: argsL).toArray v B ∧
      ∀ target, Steps p.tables e below (B.U.setTop { g with pc := g.pc + 3, stack := v.toList ++ rest }) target → Steps p.tables e below (T.setTop g) target) ∨
    (∃ (q : Addr) (vm₁ : Vm) (B : Pt), s.WarmedH vm₁ ∧ Stand p l e R s m args below meth c B.U B.locs B.cells B.slots ∧ PostX ⟨T.setVm vm₁, locs, cells, slots⟩ (Value.ref b :: argsL).toArray q B ∧
      Steps p.tables e below (T.setTop g) ((B.U.setTop { g with stack := rest }).pushFrame (.throwing q))) := by
  obtain ⟨mk, methM, hnamed, hmethM, hstM, habM⟩ := Cond.instanceMethod_spec hinst
  obtain ⟨m8, methM', cM, hn8, hmethM', -, -, -, -, -, -, hsigM⟩ := Cond.codeWith_spec hcode
  cases Option.some.inj (hn8.symm.trans hnamed)
  cases hmethM.symm.trans hmethM'
  obtain ⟨c2, r2, m2, q1, q2, q3, q4, kP, hkP, hkPi⟩ := Cond.selects_spec hsel
  cases hcls.symm.trans q1
  cases (State.methodFound?_of_named hnamed hy).symm.trans q2
  cases hnamed.symm.trans q3
  have hselP : selectMethod e.platform s.vm cellB.cls mk = .method mk := by rw [Launch.admits_selectMethod X.admits]; exact q4
  obtain ⟨vm₁, X₁, hstep₁⟩ := X.invokevirtual hexec hown hlink hnamed hmethM hstM hkP hkPi hy (a := b) (cell := cellB) hcell
    (fun z h => by rw [h] at hobj; cases hobj) hselP hmethM habM hkP hkPi (g := g) hg (argsL := argsL) (rest := rest) (hlen _ hsigM) hstack hdg
  rcases hK m meth c ⟨T.setVm vm₁, locs, cells, slots⟩ { g with stack := rest } (.invokevirtual index) mk (Value.ref b :: argsL).toArray X₁ hg hsize hdg hW (X₁.named hnamed) (hpre vm₁ X₁.warmed) with ⟨v, B, X', hpost, hsteps⟩ | ⟨q, B, X', hpost, hsteps⟩
  · exact Or.inl ⟨v, vm₁, B, X₁.warmed, X', hpost, fun target h => hstep₁ _ fun acts => by rw [doInvoke_state]; exact hsteps.trans h⟩
  · exact Or.inr ⟨q, vm₁, B, X₁.warmed, X', hpost, hstep₁ _ fun acts => by rw [doInvoke_state]; exact hsteps⟩
theorem vx_callSX (X : Stand p l e R s m args below meth c T locs cells slots) (hexec : p.tables.exec = Jvm.exec) {own : String} {index : Nat} {y : MethodName} {bytes : ByteArray} {maxL : Nat} {ret : Option FieldType} {hh : List (Nat × Nat × Nat × Nat)}
    (hown : s.vm.findClass own = some m.cls) (hlink : (Cond.methodLink own index y).before args s = true) (hstat : (Cond.static y).before args s = true) (hinit : (Cond.initialized y.cls).before args s = true)
    (hcode : (Cond.codeWith y bytes maxL ret hh).before args s = true) (hy : y.cls ≠ "java/lang/invoke/MethodHandle" ∧ y.cls ≠ "java/lang/invoke/VarHandle")
    {W9 : Nat} {Pre : Pt → Array Value → Prop} {Post : Pt → Array Value → Option Value → Pt → Prop} {PostX : Pt → Array Value → Addr → Pt → Prop} (hK : vx_Back l R p e below s args y 3 W9 Pre Post PostX)
    {g : JFrame} (hg : g.method = m) (hsize : g.locals.size = c.maxLocals) {argsL rest : List Value} (hlen : ∀ sig, parseMethodDescriptor y.desc = some sig → argsL.length = sig.parameters.length)
    (hstack : g.stack = argsL.reverse ++ rest) (hW : 2 * g.monitorRoom + (rest.map fun v => v.category).sum ≤ W9) (hdg : decode c.code g.pc = .ok (.invokestatic index, 3))
    (hpre : ∀ vm₁, s.WarmedH vm₁ → Pre ⟨T.setVm vm₁, locs, cells, slots⟩ argsL.toArray) :
    (∃ (v : Option Value) (vm₁ : Vm) (B : Pt), s.WarmedH vm₁ ∧ Stand p l e R s m args below meth c B.U B.locs B.cells B.slots ∧ Post ⟨T.setVm vm₁, locs, cells, slots⟩ argsL.toArray v B ∧
      ∀ target, Steps p.tables e below (B.U.setTop { g with pc := g.pc + 3, stack := v.toList ++ rest }) target → Steps p.tables e below (T.setTop g) target) ∨
    (∃ (q : Addr) (vm₁ : Vm) (B : Pt), s.WarmedH vm₁ ∧ Stand p l e R s m args below meth c B.U B.locs B.cells B.slots ∧ PostX ⟨T.setVm vm₁, locs, cells, slots⟩ argsL.toArray q B ∧
      Steps p.tables e below (T.setTop g) ((B.U.setTop { g with stack := rest }).pushFrame (.throwing q))) := by
  obtain ⟨mk, methM, cM, hnamed, hmethM, -, -, -, -, -, -, hsigM⟩ := Cond.codeWith_spec hcode
  have hstatic : methM.isStatic = true := Cond.static_spec hnamed hmethM hstat
  obtain ⟨kP, hkP, -⟩ := className_of_methodNamed hnamed
  have hinitP : kP.init = .initialized := Cond.initialized_spec (findClass_of_methodNamed hnamed) hkP hinit
  obtain ⟨vm₁, X₁, hstep₁⟩ := X.invokestatic hexec hown hlink hnamed hmethM hstatic hkP hinitP hy (g := g) hg (argsL := argsL) (rest := rest) (hlen _ hsigM) hstack hdg
  rcases hK m meth c ⟨T.setVm vm₁, locs, cells, slots⟩ { g with stack := rest } (.invokestatic index) mk argsL.toArray X₁ hg hsize hdg hW (X₁.named hnamed) (hpre vm₁ X₁.warmed) with ⟨v, B, X', hpost, hsteps⟩ | ⟨q, B, X', hpost, hsteps⟩
  · exact Or.inl ⟨v, vm₁, B, X₁.warmed, X', hpost, fun target h => hstep₁ _ fun acts => by rw [doInvoke_state]; exact hsteps.trans h⟩
  · exact Or.inr ⟨q, vm₁, B, X₁.warmed, X', hpost, hstep₁ _ fun acts => by rw [doInvoke_state]; exact hsteps⟩
theorem vx_callVW (X : Stand p l e R s m args below meth c T locs cells slots) (hexec : p.tables.exec = Jvm.exec) {own C : String} {index : Nat} {y : MethodName} {bytes : ByteArray} {maxL : Nat} {ret : Option FieldType} {hh : List (Nat × Nat × Nat × Nat)}
    (hown : s.vm.findClass own = some m.cls) (hlink : (Cond.methodLink own index y).before args s = true) (hinst : (Cond.instanceMethod y).before args s = true) (hsel : (Cond.selects C y y).before args s = true)
    (hcode : (Cond.codeWith y bytes maxL ret hh).before args s = true) (hy : y.cls ≠ "java/lang/invoke/MethodHandle" ∧ y.cls ≠ "java/lang/invoke/VarHandle")
    {W9 : Nat} {Pre : Pt → Array Value → Prop} {Post : Pt → Array Value → Option Value → Pt → Prop} (hK : Back l R p e below s args y 3 W9 Pre Post)
    {b : Addr} {cellB : Cell} (hcell : T.heap[b]? = some cellB) (hobj : cellB.vm.isStatics = false) (hcls : s.vm.findClass C = some cellB.cls)
    {g : JFrame} (hg : g.method = m) (hsize : g.locals.size = c.maxLocals) {argsL rest : List Value} (hlen : ∀ sig, parseMethodDescriptor y.desc = some sig → argsL.length = sig.parameters.length)
    (hstack : g.stack = argsL.reverse ++ .ref b :: rest) (hW : 2 * g.monitorRoom + (rest.map fun v => v.category).sum ≤ W9) (hdg : decode c.code g.pc = .ok (.invokevirtual index, 3))
    (hpre : ∀ vm₁, s.WarmedH vm₁ → Pre ⟨T.setVm vm₁, locs, cells, slots⟩ (Value.ref b :: argsL).toArray) :
    ∃ (v : Option Value) (vm₁ : Vm) (B : Pt), s.WarmedH vm₁ ∧ Stand p l e R s m args below meth c B.U B.locs B.cells B.slots ∧ Post ⟨T.setVm vm₁, locs, cells, slots⟩ (Value.ref b :: argsL).toArray v B ∧
      ∀ target, Steps p.tables e below (B.U.setTop { g with pc := g.pc + 3, stack := v.toList ++ rest }) target → Steps p.tables e below (T.setTop g) target := by
  obtain ⟨mk, methM, hnamed, hmethM, hstM, habM⟩ := Cond.instanceMethod_spec hinst
  obtain ⟨m8, methM', cM, hn8, hmethM', -, -, -, -, -, -, hsigM⟩ := Cond.codeWith_spec hcode
  cases Option.some.inj (hn8.symm.trans hnamed)
  cases hmethM.symm.trans hmethM'
  obtain ⟨c2, r2, m2, q1, q2, q3, q4, kP, hkP, hkPi⟩ := Cond.selects_spec hsel
  cases hcls.symm.trans q1
  cases (State.methodFound?_of_named hnamed hy).symm.trans q2
  cases hnamed.symm.trans q3
  have hselP : selectMethod e.platform s.vm cellB.cls mk = .method mk := by rw [Launch.admits_selectMethod X.admits]; exact q4
  obtain ⟨vm₁, X₁, hstep₁⟩ := X.invokevirtual hexec hown hlink hnamed hmethM hstM hkP hkPi hy (a := b) (cell := cellB) hcell
    (fun z h => by rw [h] at hobj; cases hobj) hselP hmethM habM hkP hkPi (g := g) hg (argsL := argsL) (rest := rest) (hlen _ hsigM) hstack hdg
  obtain ⟨v, B, X', hpost, hsteps⟩ := hK m meth c ⟨T.setVm vm₁, locs, cells, slots⟩ { g with stack := rest } (.invokevirtual index) mk (Value.ref b :: argsL).toArray X₁ hg hsize hdg hW (X₁.named hnamed) (hpre vm₁ X₁.warmed)
  exact ⟨v, vm₁, B, X₁.warmed, X', hpost, fun target h => hstep₁ _ fun acts => by rw [doInvoke_state]; exact hsteps.trans h⟩
abbrev vx_CVW (R : Room) (s : State) (args : Array Value) (own C : String) (index : Nat) (y : MethodName) (bytes : ByteArray) (maxL : Nat) (ret : Option FieldType) (hh : List (Nat × Nat × Nat × Nat)) (ws : List Cond) (rm : Room) (mc ms n : Nat) : Prop :=
  (rm.cells = mc ∧ rm.slots = ms ∧ rm.frames + 1 ≤ R.frames ∧ 8 + (maxL + 11) + rm.locals ≤ R.locals ∧ (∀ w ∈ ws, ∀ (a' : Array Value) (U : State), s.WarmedH U.vm → w.before a' U = true) ∧ Cond.codeWith y bytes maxL ret hh ∈ ws) ∧
  (Cond.codeWith y bytes maxL ret hh).before args s = true ∧ (Cond.initialized y.cls).before args s = true ∧ (y.cls ≠ "java/lang/invoke/MethodHandle" ∧ y.cls ≠ "java/lang/invoke/VarHandle") ∧
  (∀ sig, parseMethodDescriptor y.desc = some sig → n = sig.parameters.length) ∧ (Cond.methodLink own index y).before args s = true ∧ (Cond.instanceMethod y).before args s = true ∧ (Cond.selects C y y).before args s = true
theorem vx_cwVW {own C : String} {index maxL mc ms : Nat} {y : MethodName} {bytes : ByteArray} {ret : Option FieldType} {hh : List (Nat × Nat × Nat × Nat)} {Ts ws ws' : List Cond} {rm : Room} (n : Nat) (ht : ∀ w ∈ Ts, w.before args s = true) (hT : GoodIn Ts (wsV own index C y ws)) (hw : ws = Cond.codeWith y bytes maxL ret hh :: ws') (hrc : rm.cells = mc) (hrs : rm.slots = ms)
    (hd : y.cls = C ∧ y.cls ≠ "java/lang/invoke/MethodHandle" ∧ y.cls ≠ "java/lang/invoke/VarHandle" ∧ (parseMethodDescriptor y.desc).map (fun d => d.parameters.length) = some n) (hR : rm.frames + 1 ≤ R.frames ∧ 8 + (maxL + 11) + rm.locals ≤ R.locals) :
    vx_CVW R s args own C index y bytes maxL ret hh ws rm mc ms n := by
  obtain ⟨hC, hd⟩ := hd
  subst hC
  have ok : ∀ w ∈ wsV own index y.cls y ws, w.before args s = true := fun w h => ht w (hT w h).1
  have hG : GoodIn Ts ws := fun w h => hT w (by unfold wsV; exact List.mem_append_right _ h)
  have hc : Cond.codeWith y bytes maxL ret hh ∈ ws := by rw [hw]; exact List.mem_cons_self
  refine ⟨⟨hrc, hrs, hR.1, hR.2, pay_in ht hG, hc⟩, ht _ (hG _ hc).1, ok _ (by simp [wsV]), ⟨hd.1, hd.2.1⟩, fun sig h => ?_, ok _ (by simp [wsV]), ok _ (by simp [wsV]), ok _ (by simp [wsV])⟩
  have h2 := hd.2.2
  rw [h] at h2
  exact (Option.some.inj h2).symm
theorem vx_runVW {y : MethodName} {bytes cc : ByteArray} {maxL nL mc ms n index : Nat} {ret : Option FieldType} {hh : List (Nat × Nat × Nat × Nat)} {ws : List Cond} {rm : Room} {Pc : Array Value → State → Prop} {Qc : Array Value → State → Outcome → State → Prop} {free : Addr → Prop} {Ts : List Cond} {own C : String} {b : Addr} {As rest : List Value} {g : JFrame}
    (S : CallFix p m c cc nL s args Ts own) (hM : Met l y ws rm Pc Qc mc ms free) (cw : vx_CVW R s args own C index y bytes maxL ret hh ws rm mc ms n) (hp : PreV s H C b Pc As)
    (hg : g.method = m) (hn : As.length = n) (hsize : g.locals.size = nL) (hstack : g.stack = As.reverse ++ .ref b :: rest) (hW : 2 * g.monitorRoom + (rest.map fun v => v.category).sum ≤ 8) (hdg : decode cc g.pc = .ok (.invokevirtual index, 3)) (hf : cells + mc ≤ R.cells ∧ slots + ms ≤ R.slots) :
    va_Run p l e R s m args below meth c H locs cells slots mc ms g rest (Qc (Value.ref b :: As).toArray) free := by
  obtain ⟨⟨hrc, hrs, hfr, hlo, hws, hcw⟩, hcode, hini, hy, hlen, hl, hin, hse⟩ := cw
  have hK : Back l R p e below s args y 3 8 (PreOf R mc ms Pc) (PostOf Qc mc ms free) := va_backW (hh := hh) (bytes := bytes) (maxL := maxL) (ret := ret) hM hp.1 hrc hrs hfr hlo hws hcw (fun a' U hW => word_at hW (Or.inl (by first | rfl | simp [Cond.onTables, Cond.keeps, Cond.steady])) hini)
  obtain ⟨hx, hb, hml, ho, -⟩ := S
  obtain ⟨-, ⟨cellB, hcB, hoB, hclB⟩, hPc⟩ := hp
  intro T hT X
  obtain ⟨v, vm₁, ⟨U', l2, c2, s2⟩, hW₁, X', ⟨g', mk, t, L, e1, e2, hq, h1, hL, h2, h3⟩, st⟩ := vx_callVW X hx (C := C) (hh := hh) (bytes := bytes) (maxL := maxL) (ret := ret) ho hl hin hse hcode hy hK (by rw [hT]; exact hcB) hoB hclB hg (hsize.trans hml.symm) (argsL := As) (rest := rest) (fun sig h => hn.trans (hlen sig h)) hstack hW (by rw [hb]; exact hdg)
    (fun vm₁ hW₁ => ⟨hf.1, hf.2, hPc (T.setVm vm₁) hT hW₁⟩)
  dsimp only [Pt.U, Pt.locs, Pt.cells, Pt.slots] at X' e1 e2 h1 h2 h3 st
  subst h1; subst h2; subst h3
  exact ⟨v, (T.setVm vm₁).calling g' mk (Value.ref b :: As).toArray, t, U', L, hT, X', hL, e1, e2, hq, st⟩
section
variable {y : MethodName} {bytes cc : ByteArray} {maxL nL mc ms n index : Nat} {ret : Option FieldType} {ws : List Cond} {rm : Room} {Pc : Array Value → State → Prop} {Qc : Array Value → State → Outcome → State → Prop} {XC : String → State → State → Prop} {free : Addr → Prop} {Ts : List Cond} {own C : String} {b : Addr} {As rest : List Value} {g : JFrame}
theorem vx_runVX {hh : List (Nat × Nat × Nat × Nat)} (S : CallFix p m c cc nL s args Ts own) (hM : vx_Met l y ws rm Pc Qc XC mc ms free) (cw : vx_CVW R s args own C index y bytes maxL ret hh ws rm mc ms n) (hp : PreV s H C b Pc As)
    (hg : g.method = m) (hn : As.length = n) (hsize : g.locals.size = nL) (hstack : g.stack = As.reverse ++ .ref b :: rest) (hW : 2 * g.monitorRoom + (rest.map fun v => v.category).sum ≤ 8) (hdg : decode cc g.pc = .ok (.invokevirtual index, 3)) (hf : cells + mc ≤ R.cells ∧ slots + ms ≤ R.slots) :
    vx_Run p l e R s m args below meth c H locs cells slots mc ms g rest (Qc (Value.ref b :: As).toArray) XC free := by
  obtain ⟨⟨hrc, hrs, hfr, hlo, hws, hcw⟩, hcode, hini, hy, hlen, hl, hin, hse⟩ := cw
  have hK : vx_Back l R p e below s args y 3 8 (PreOf R mc ms Pc) (PostOf Qc mc ms free) (vx_Post XC mc ms free) := vx_backW (hh := hh) (bytes := bytes) (maxL := maxL) (ret := ret) hM hp.1 hrc hrs hfr hlo hws hcw (fun a' U hW => word_at hW (Or.inl (by first | rfl | simp [Cond.onTables, Cond.keeps, Cond.steady])) hini)
  obtain ⟨hx, hb, hml, ho, -⟩ := S
  obtain ⟨-, ⟨cellB, hcB, hoB, hclB⟩, hPc⟩ := hp
  intro T hT X
  rcases vx_callVX X hx (C := C) (hh := hh) (bytes := bytes) (maxL := maxL) (ret := ret) ho hl hin hse hcode hy hK (by rw [hT]; exact hcB) hoB hclB hg (hsize.trans hml.symm) (argsL := As) (rest := rest) (fun sig h => hn.trans (hlen sig h)) hstack hW (by rw [hb]; exact hdg)
    (fun vm₁ hW₁ => ⟨hf.1, hf.2, hPc (T.setVm vm₁) hT hW₁⟩) with ⟨v, vm₁, ⟨U', l2, c2, s2⟩, hW₁, X', ⟨g', mk, t, L, e1, e2, hq, h1, hL, h2, h3⟩, st⟩ | ⟨q, vm₁, ⟨U', l2, c2, s2⟩, hW₁, X', ⟨g', mk, t, L, E, ce, e1, e2, hq, hce, hcv, hcl, h1, hL, h2, h3⟩, st⟩
  · dsimp only [Pt.U, Pt.locs, Pt.cells, Pt.slots] at X' e1 e2 h1 h2 h3 st
    subst h1; subst h2; subst h3
    exact Or.inl ⟨v, (T.setVm vm₁).calling g' mk (Value.ref b :: As).toArray, t, U', L, hT, X', hL, e1, e2, hq, st⟩
  · dsimp only [Pt.U, Pt.locs, Pt.cells, Pt.slots] at X' e1 e2 h1 h2 h3 st hcl
    subst h1; subst h2; subst h3
    exact Or.inr ⟨q, (T.setVm vm₁).calling g' mk (Value.ref b :: As).toArray, t, U', L, E, ce, hT, X', hL, e1, e2, hq, hce, hcv, vx_cls hW₁ hcl, st⟩
theorem vx_runSX {hh : List (Nat × Nat × Nat × Nat)} (S : CallFix p m c cc nL s args Ts own) (hM : vx_Met l y ws rm Pc Qc XC mc ms free) (cw : vx_CSW R s args own index y bytes maxL ret hh ws rm mc ms n) (hp : PreS s H Pc As)
    (hg : g.method = m) (hn : As.length = n) (hsize : g.locals.size = nL) (hstack : g.stack = As.reverse ++ rest) (hW : 2 * g.monitorRoom + (rest.map fun v => v.category).sum ≤ 8) (hdg : decode cc g.pc = .ok (.invokestatic index, 3)) (hf : cells + mc ≤ R.cells ∧ slots + ms ≤ R.slots) :
    vx_Run p l e R s m args below meth c H locs cells slots mc ms g rest (Qc As.toArray) XC free := by
  obtain ⟨⟨hrc, hrs, hfr, hlo, hws, hcw⟩, hcode, hini, hy, hlen, hl, hstt⟩ := cw
  have hK : vx_Back l R p e below s args y 3 8 (PreOf R mc ms Pc) (PostOf Qc mc ms free) (vx_Post XC mc ms free) := vx_backW (hh := hh) (bytes := bytes) (maxL := maxL) (ret := ret) hM hp.1 hrc hrs hfr hlo hws hcw (fun a' U hW => word_at hW (Or.inl (by first | rfl | simp [Cond.onTables, Cond.keeps, Cond.steady])) hini)
  obtain ⟨hx, hb, hml, ho, -⟩ := S
  intro T hT X
  rcases vx_callSX X hx (hh := hh) (bytes := bytes) (maxL := maxL) (ret := ret) ho hl hstt hini hcode hy hK hg (hsize.trans hml.symm) (argsL := As) (rest := rest) (fun sig h => hn.trans (hlen sig h)) hstack hW (by rw [hb]; exact hdg)
    (fun vm₁ hW₁ => ⟨hf.1, hf.2, hp.2 (T.setVm vm₁) hT hW₁⟩) with ⟨v, vm₁, ⟨U', l2, c2, s2⟩, hW₁, X', ⟨g', mk, t, L, e1, e2, hq, h1, hL, h2, h3⟩, st⟩ | ⟨q, vm₁, ⟨U', l2, c2, s2⟩, hW₁, X', ⟨g', mk, t, L, E, ce, e1, e2, hq, hce, hcv, hcl, h1, hL, h2, h3⟩, st⟩
  · dsimp only [Pt.U, Pt.locs, Pt.cells, Pt.slots] at X' e1 e2 h1 h2 h3 st
    subst h1; subst h2; subst h3
    exact Or.inl ⟨v, (T.setVm vm₁).calling g' mk As.toArray, t, U', L, hT, X', hL, e1, e2, hq, st⟩
  · dsimp only [Pt.U, Pt.locs, Pt.cells, Pt.slots] at X' e1 e2 h1 h2 h3 st hcl
    subst h1; subst h2; subst h3
    exact Or.inr ⟨q, (T.setVm vm₁).calling g' mk As.toArray, t, U', L, E, ce, hT, X', hL, e1, e2, hq, hce, hcv, vx_cls hW₁ hcl, st⟩
end
end VXH
theorem vx_ofWH {l : Launch} {y : MethodName} {ws ws' : List Cond} {rm : Room} {Pc : Array Value → State → Prop} {Qc : Array Value → State → Outcome → State → Prop} {XC : String → State → State → Prop} {mc ms : Nat} {free : Addr → Prop} {cc : ByteArray} {maxL : Nat} {ret : Option FieldType} {hh : List (Nat × Nat × Nat × Nat)}
    (hy : plainName y.cls = true) (hw : ws = Cond.codeWith y cc maxL ret hh :: ws')
    (body : ∀ p e s m args below meth c s₁, BodyLoose p l y (headSpec ws rm) cc maxL ret e s m args below meth c s₁ → c.maxLocals = maxL → Pc args s →
      W p l e (headSpec ws rm).room s m args below meth c s.heap [] 0 0 (vx_MQ below Qc XC args s mc ms free) (entryFrame m args maxL)) : vx_Met l y ws rm Pc Qc XC mc ms free := by
  refine MetFree.of_bodyS (code := cc) (maxLocals := maxL) (ret := ret) hy ?_ ?_
  · intro args s m h hn
    obtain ⟨m9, meth, c, hn9, h1, h2, h3, h4, -, h5, h6, -⟩ := Cond.codeWith_spec (atoms_spec (ws := ws) h _ (by rw [hw]; exact List.mem_cons_self))
    cases hn.symm.trans hn9
    exact ⟨meth, c, h1, h2, h3, h4, h5, h6⟩
  · intro p e s m args below meth c s₁ B hml hP _
    have hh0 : s₁.heap = s.heap := by rw [B.state]; rfl
    obtain ⟨t, a1, o, b1, b2, b3⟩ := body p e s m args below meth c s₁ B hml hP s₁ hh0 (Stand.of_body B)
    exact ⟨t, o, a1, b1, b2, b3⟩
/-! ===== END ===== -/

/-! ===== BEGIN printed: names, fields, word lists, decode rows ===== -/
end
section
/-! ===== the words of the tables that serve any method; the memory as a function of block and place; the world; the judgement RM ===== -/
def TB : List Cond := lw_tbl.filter goodWord
theorem tbm {i : Nat} {w : Cond} (h : lw_tbl[i]? = some w) (g : goodWord w = true) : w ∈ TB := List.mem_filter.mpr ⟨List.mem_of_getElem? h, g⟩
theorem goodTB {c : Cond} (hc : c ∈ TB) : GoodIn TB (c :: TB) := fun w h => by
  have hm : w ∈ TB := (List.mem_cons.mp h).elim (fun e => e ▸ hc) id
  exact ⟨hm, good_of_word (List.mem_filter.mp hm).2⟩
theorem fwTB : ∀ q ∈ vwCl, ∀ w ∈ u_ws q.1 q.2.1 q.2.2, w ∈ TB := by decide +kernel
theorem nmTB : ∀ q ∈ vwCl, ∀ a, a < q.2.2 → ∀ b, b < q.2.2 → a ≠ b → (q.2.1 a).2.1 ≠ (q.2.1 b).2.1 := by decide +kernel
abbrev Mem : Type := Nat → Nat → Int32
def up (x : Mem) (b n : Nat) (v : Int32) : Mem := fun b' n' => if b' = b ∧ n' = n then v else x b' n'
theorem up_s (x : Mem) (b n : Nat) (v : Int32) : up x b n v b n = v := by simp [up]
theorem up_ne (x : Mem) {b n b' n' : Nat} (v : Int32) (h : ¬ (b' = b ∧ n' = n)) : up x b n v b' n' = x b' n' := by simp [up, h]
theorem up_b (x : Mem) {b n b' : Nat} (n' : Nat) (v : Int32) (h : b' ≠ b) : up x b n v b' n' = x b' n' := by simp [up, h]
theorem up_n (x : Mem) {b n b' n' : Nat} (v : Int32) (h : n' ≠ n) : up x b n v b' n' = x b' n' := by simp [up, h]
abbrev Ads : Type := Nat → Nat → Nat → Nat
def ixB (k : Nat) : List (Nat × Nat × Nat) := [(k,0,0),(k,1,0),(k,2,0),(k,2,1),(k,2,2),(k,2,3),(k,3,0),(k,4,0),(k,4,1),(k,4,2),(k,5,0),(k,5,1),(k,5,2),(k,20,0),(k,20,1),(k,20,2),(k,20,3),(k,21,0),(k,21,1),(k,21,2),(k,21,3),(k,22,0),(k,22,1),(k,22,2),(k,22,3),(k,6,0),(k,7,0),(k,8,0)]
def ixC : List (Nat × Nat × Nat) := (List.range 7).flatMap ixB ++ [(7,4,0),(7,5,0),(7,20,0),(7,20,1),(7,20,2),(7,20,3),(8,9,0),(8,10,0),(8,11,0),(8,12,0),(9,13,0)]
def ixM : List (Nat × Nat × Nat) := [(15,14,0),(10,15,0),(11,15,0),(12,16,0),(13,17,0),(14,18,0)]
def idx : List (Nat × Nat × Nat) := ixC ++ ixM
/-- what the object c, j of the block k holds -/
def EE (cy : Nat → ClassId) (ad : Ads) (x : Mem) (k c j : Nat) : va_E := match c with
  | 0 => .inr (6, [.ref (ad k 1 0), .ref (ad k 3 0), .ref (ad k 6 0), .ref (ad k 8 0), .int (x k 3), .int (x k 4)])
  | 1 => .inl (cy 1, 4, .inr (.inr (.inr (.inr (fun i => some (ad k 2 i))))))
  | 2 => .inr (2, [.int (x k (14 + 4 * j)), .int (x k (15 + 4 * j)), .int (x k (16 + 4 * j)), .int (x k (17 + 4 * j))])
  | 3 => .inl (cy 2, 3, .inr (.inr (.inr (.inr (fun i => some (ad k 4 i))))))
  | 4 => .inr (1, [.ref (ad k 5 j), .int (x k (30 + 22 * j)), .int (x k (31 + 22 * j)), .int (x k (32 + 22 * j)), .int (x k (33 + 22 * j)), .int (x k (34 + 22 * j)), .int (x k (35 + 22 * j))])
  | 5 => .inl (cy 3, 4, .inr (.inr (.inr (.inr (fun i => some (ad k (j + 20) i))))))
  | 6 => .inr (0, [.ref (ad k 7 0), .int (x k 5)])
  | 7 => .inl (cy 0, 8, .inl (fun i => if i < 8 then x k (6 + i) else 0))
  | 8 => .inr (4, [.int (x k 0), .int (x k 1), .int (x k 2)])
  | 9 => .inr (8, [.ref (ad 0 0 0), .ref (ad 8 10 0), .ref (ad 8 12 0), .ref (ad 7 4 0)])
  | 10 => .inr (3, [.ref (ad 8 11 0), .int (x 8 0), .int (x 8 1)])
  | 11 => .inl (cy 4, 6, .inr (.inr (.inr (.inr (fun i => some (ad (i + 1) 0 0))))))
  | 12 => .inr (7, [.ref (ad 9 13 0), .int (x 8 2)])
  | 13 => .inl (cy 0, 60, .inl (x 9))
  | 14 => .inr (9, [.ref (ad 10 15 0), .ref (ad 11 15 0), .ref (ad 12 16 0), .int (x 15 0), .ref (ad 13 17 0), .int (x 15 1), .int (x 15 2), .int (x 15 3), .int (x 15 4), .ref (ad 14 18 0), .int (x 15 5), .int (x 15 6), .int (x 15 7)])
  | 15 => .inl (cy 0, 96, .inl (x k))
  | 16 => .inl (cy 0, 576, .inl (x k))
  | 17 => .inl (cy 0, 60, .inl (x k))
  | 18 => .inl (cy 0, 93, .inl (x k))
  | 19 => .inr (5, [])
  | d + 20 => .inr (5, [.int (x k (36 + 22 * d + 4 * j)), .int (x k (37 + 22 * d + 4 * j)), .int (x k (38 + 22 * d + 4 * j)), .int (x k (39 + 22 * d + 4 * j))])
/-- whose the place n of the block b is -/
def ow (b n : Nat) : Nat × Nat × Nat :=
  if b < 8 then
    if n < 3 then (b, 8, 0) else if n < 5 then (b, 0, 0) else if n = 5 then (b, 6, 0) else if n < 14 then (b, 7, 0) else if n < 30 then (b, 2, (n - 14) / 4)
    else if (n - 30) % 22 < 6 then (b, 4, (n - 30) / 22) else (b, (n - 30) / 22 + 20, ((n - 30) % 22 - 6) / 4)
  else if b = 8 then (if n < 2 then (8, 10, 0) else (8, 12, 0))
  else if b = 9 then (9, 13, 0)
  else if b = 12 then (12, 16, 0) else if b = 13 then (13, 17, 0) else if b = 14 then (14, 18, 0) else if b = 15 then (15, 14, 0) else (b, 15, 0)
/-- the objects that there may be -/
def dm (k c j : Nat) : Prop := match c with
  | 0 => k < 7 ∧ j = 0
  | 1 => k < 7 ∧ j = 0
  | 2 => k < 7 ∧ j < 4
  | 3 => k < 7 ∧ j = 0
  | 4 => k < 8 ∧ j < 3 ∧ (k = 7 → j = 0)
  | 5 => k < 8 ∧ j < 3 ∧ (k = 7 → j = 0)
  | 6 => k < 7 ∧ j = 0
  | 7 => k < 7 ∧ j = 0
  | 8 => k < 7 ∧ j = 0
  | 9 => k = 8 ∧ j = 0
  | 10 => k = 8 ∧ j = 0
  | 11 => k = 8 ∧ j = 0
  | 12 => k = 8 ∧ j = 0
  | 13 => k = 9 ∧ j = 0
  | 14 => k = 15 ∧ j = 0
  | 15 => (k = 10 ∨ k = 11) ∧ j = 0
  | 16 => k = 12 ∧ j = 0
  | 17 => k = 13 ∧ j = 0
  | 18 => k = 14 ∧ j = 0
  | 19 => False
  | d + 20 => k < 8 ∧ d < 3 ∧ j < 4 ∧ (k = 7 → d = 0)
def dmB (k c j : Nat) : Bool := match c with
  | 0 => decide (k < 7) && decide (j = 0)
  | 1 => decide (k < 7) && decide (j = 0)
  | 2 => decide (k < 7) && decide (j < 4)
  | 3 => decide (k < 7) && decide (j = 0)
  | 4 => decide (k < 8) && decide (j < 3) && (decide (k ≠ 7) || decide (j = 0))
  | 5 => decide (k < 8) && decide (j < 3) && (decide (k ≠ 7) || decide (j = 0))
  | 6 => decide (k < 7) && decide (j = 0)
  | 7 => decide (k < 7) && decide (j = 0)
  | 8 => decide (k < 7) && decide (j = 0)
  | 9 => decide (k = 8) && decide (j = 0)
  | 10 => decide (k = 8) && decide (j = 0)
  | 11 => decide (k = 8) && decide (j = 0)
  | 12 => decide (k = 8) && decide (j = 0)
  | 13 => decide (k = 9) && decide (j = 0)
  | 14 => decide (k = 15) && decide (j = 0)
  | 15 => (decide (k = 10) || decide (k = 11)) && decide (j = 0)
  | 16 => decide (k = 12) && decide (j = 0)
  | 17 => decide (k = 13) && decide (j = 0)
  | 18 => decide (k = 14) && decide (j = 0)
  | 19 => false
  | d + 20 => decide (k < 8) && decide (d < 3) && decide (j < 4) && (decide (k ≠ 7) || decide (d = 0))
theorem dm_iff (k c j : Nat) : dm k c j ↔ dmB k c j = true := by
  unfold dm dmB
  split <;> simp <;> omega
theorem dmB_idx0 : ((List.range 16).all fun k => (List.range 23).all fun c => (List.range 4).all fun j => !dmB k c j || idx.contains (k, c, j)) = true := by decide +kernel
theorem dmB_idx (k : Nat) (hk : k < 16) (c : Nat) (hc : c < 23) (j : Nat) (hj : j < 4) (h : dmB k c j = true) : (k, c, j) ∈ idx := by
  have h1 := List.all_eq_true.mp (List.all_eq_true.mp (List.all_eq_true.mp dmB_idx0 k (List.mem_range.mpr hk)) c (List.mem_range.mpr hc)) j (List.mem_range.mpr hj)
  rw [h] at h1
  simpa using h1
theorem idx_dmB : ∀ i ∈ idx, dmB i.1 i.2.1 i.2.2 = true := by decide +kernel
theorem idx_nd : va_nd ((List.range idx.length)) = true := by decide +kernel
theorem dm_lt {k c j : Nat} (h : dm k c j) : k < 16 ∧ c < 23 ∧ j < 4 := by
  unfold dm at h
  split at h <;> first | exact h.elim | omega
theorem dm_mem {k c j : Nat} (h : dm k c j) : (k, c, j) ∈ idx := dmB_idx k (dm_lt h).1 c (dm_lt h).2.1 j (dm_lt h).2.2 ((dm_iff k c j).mp h)
theorem mem_dm {k c j : Nat} (h : (k, c, j) ∈ idx) : dm k c j := (dm_iff k c j).mpr (idx_dmB _ h)
theorem ow_slot {b d s f : Nat} (hb : b < 8) (hd : d < 3) (hs : s < 4) (hf : f < 4) : ow b (36 + 22 * d + 4 * s + f) = (b, d + 20, s) := by
  have e1 : (36 + 22 * d + 4 * s + f - 30) / 22 = d := by omega
  have e2 : (36 + 22 * d + 4 * s + f - 30) % 22 = 6 + 4 * s + f := by omega
  have e3 : (6 + 4 * s + f - 6) / 4 = s := by omega
  unfold ow
  rw [if_pos hb, if_neg (by omega), if_neg (by omega), if_neg (by omega), if_neg (by omega), if_neg (by omega), e1, e2, if_neg (by omega), e3]
theorem ow_door {b d f : Nat} (hb : b < 8) (hd : d < 3) (hf : f < 6) : ow b (30 + 22 * d + f) = (b, 4, d) := by
  have e1 : (30 + 22 * d + f - 30) / 22 = d := by omega
  have e2 : (30 + 22 * d + f - 30) % 22 = f := by omega
  unfold ow
  rw [if_pos hb, if_neg (by omega), if_neg (by omega), if_neg (by omega), if_neg (by omega), if_neg (by omega), e1, e2, if_pos (by omega)]
theorem ow_fob {b j f : Nat} (hb : b < 8) (hj : j < 4) (hf : f < 4) : ow b (14 + 4 * j + f) = (b, 2, j) := by
  have e1 : (14 + 4 * j + f - 14) / 4 = j := by omega
  unfold ow
  rw [if_pos hb, if_neg (by omega), if_neg (by omega), if_neg (by omega), if_neg (by omega), if_pos (by omega), e1]
theorem ow_air {b i : Nat} (hb : b < 8) (hi : i < 8) : ow b (6 + i) = (b, 7, 0) := by
  unfold ow
  rw [if_pos hb, if_neg (by omega), if_neg (by omega), if_neg (by omega), if_pos (by omega)]
theorem ow_set {b f : Nat} (hb : b < 8) (hf : f < 3) : ow b f = (b, 8, 0) := by
  unfold ow
  rw [if_pos hb, if_pos hf]
theorem ow_sta {b f : Nat} (hb : b < 8) (h1 : 3 ≤ f) (hf : f < 5) : ow b f = (b, 0, 0) := by
  unfold ow
  rw [if_pos hb, if_neg (by omega), if_pos hf]
theorem ow_len {b : Nat} (hb : b < 8) : ow b 5 = (b, 6, 0) := by
  unfold ow
  rw [if_pos hb]
  rfl
theorem ow_h {n : Nat} (h : n < 2) : ow 8 n = (8, 10, 0) := by
  unfold ow
  rw [if_neg (by omega), if_pos rfl, if_pos h]
theorem ow_t : ow 8 2 = (8, 12, 0) := rfl
theorem ow_c (n : Nat) : ow 9 n = (9, 13, 0) := rfl
theorem ow_10 (n : Nat) : ow 10 n = (10, 15, 0) := rfl
theorem ow_11 (n : Nat) : ow 11 n = (11, 15, 0) := rfl
theorem ow_12 (n : Nat) : ow 12 n = (12, 16, 0) := rfl
theorem ow_13 (n : Nat) : ow 13 n = (13, 17, 0) := rfl
theorem ow_14 (n : Nat) : ow 14 n = (14, 18, 0) := rfl
theorem ow_15 (n : Nat) : ow 15 n = (15, 14, 0) := rfl
theorem EE_congr {cy : Nat → ClassId} {ad : Ads} {x y : Mem} {k c j : Nat} (hd : dm k c j) (h : ∀ b n, ow b n = (k, c, j) → x b n = y b n) : EE cy ad x k c j = EE cy ad y k c j := by
  have f : ∀ b n, ow b n = (k, c, j) → y b n = x b n := fun b n q => (h b n q).symm
  unfold dm at hd
  split at hd <;> simp only [EE]
  · obtain ⟨hk, rfl⟩ := hd
    rw [f k 3 (ow_sta (by omega) (by omega) (by omega)), f k 4 (ow_sta (by omega) (by omega) (by omega))]
  · obtain ⟨hk, hj⟩ := hd
    rw [f k (14 + 4 * j) (ow_fob (f := 0) (by omega) hj (by omega)), f k (15 + 4 * j) (by rw [show 15 + 4 * j = 14 + 4 * j + 1 by omega]; exact ow_fob (by omega) hj (by omega)), f k (16 + 4 * j) (by rw [show 16 + 4 * j = 14 + 4 * j + 2 by omega]; exact ow_fob (by omega) hj (by omega)), f k (17 + 4 * j) (by rw [show 17 + 4 * j = 14 + 4 * j + 3 by omega]; exact ow_fob (by omega) hj (by omega))]
  · obtain ⟨hk, hj, -⟩ := hd
    rw [f k (30 + 22 * j) (ow_door (f := 0) hk hj (by omega)), f k (31 + 22 * j) (by rw [show 31 + 22 * j = 30 + 22 * j + 1 by omega]; exact ow_door hk hj (by omega)), f k (32 + 22 * j) (by rw [show 32 + 22 * j = 30 + 22 * j + 2 by omega]; exact ow_door hk hj (by omega)), f k (33 + 22 * j) (by rw [show 33 + 22 * j = 30 + 22 * j + 3 by omega]; exact ow_door hk hj (by omega)), f k (34 + 22 * j) (by rw [show 34 + 22 * j = 30 + 22 * j + 4 by omega]; exact ow_door hk hj (by omega)), f k (35 + 22 * j) (by rw [show 35 + 22 * j = 30 + 22 * j + 5 by omega]; exact ow_door hk hj (by omega))]
  · obtain ⟨hk, rfl⟩ := hd
    rw [f k 5 (ow_len (by omega))]
  · obtain ⟨hk, rfl⟩ := hd
    congr 4
    funext i
    by_cases hi : i < 8
    · rw [if_pos hi, if_pos hi, f k (6 + i) (ow_air (by omega) hi)]
    · rw [if_neg hi, if_neg hi]
  · obtain ⟨hk, rfl⟩ := hd
    rw [f k 0 (ow_set (by omega) (by omega)), f k 1 (ow_set (by omega) (by omega)), f k 2 (ow_set (by omega) (by omega))]
  · obtain ⟨rfl, rfl⟩ := hd
    rw [f 8 0 rfl, f 8 1 rfl]
  · obtain ⟨rfl, rfl⟩ := hd
    rw [f 8 2 rfl]
  · obtain ⟨rfl, rfl⟩ := hd
    rw [show y 9 = x 9 from funext fun n => f 9 n rfl]
  · obtain ⟨rfl, rfl⟩ := hd
    rw [f 15 0 rfl, f 15 1 rfl, f 15 2 rfl, f 15 3 rfl, f 15 4 rfl, f 15 5 rfl, f 15 6 rfl, f 15 7 rfl]
  · obtain ⟨rfl | rfl, rfl⟩ := hd
    · rw [show y 10 = x 10 from funext fun n => f 10 n rfl]
    · rw [show y 11 = x 11 from funext fun n => f 11 n rfl]
  · obtain ⟨rfl, rfl⟩ := hd
    rw [show y 12 = x 12 from funext fun n => f 12 n rfl]
  · obtain ⟨rfl, rfl⟩ := hd
    rw [show y 13 = x 13 from funext fun n => f 13 n rfl]
  · obtain ⟨rfl, rfl⟩ := hd
    rw [show y 14 = x 14 from funext fun n => f 14 n rfl]
  · rename_i d
    obtain ⟨hk, hd3, hj, -⟩ := hd
    rw [f k (36 + 22 * d + 4 * j) (ow_slot (f := 0) hk hd3 hj (by omega)), f k (37 + 22 * d + 4 * j) (by rw [show 37 + 22 * d + 4 * j = 36 + 22 * d + 4 * j + 1 by omega]; exact ow_slot hk hd3 hj (by omega)), f k (38 + 22 * d + 4 * j) (by rw [show 38 + 22 * d + 4 * j = 36 + 22 * d + 4 * j + 2 by omega]; exact ow_slot hk hd3 hj (by omega)), f k (39 + 22 * d + 4 * j) (by rw [show 39 + 22 * d + 4 * j = 36 + 22 * d + 4 * j + 3 by omega]; exact ow_slot hk hd3 hj (by omega))]
theorem EE_up {cy : Nat → ClassId} {ad : Ads} {x : Mem} {k c j b n : Nat} {v : Int32} (hd : dm k c j) (h : ow b n ≠ (k, c, j)) : EE cy ad (up x b n v) k c j = EE cy ad x k c j :=
  EE_congr hd fun b' n' q => up_ne x v (fun z => h (by rw [← q, z.1, z.2]))
/-- the world -/
def wl (cy : Nat → ClassId) (ad : Ads) (x : Mem) : va_W := idx.map (fun i => (ad i.1 i.2.1 i.2.2, EE cy ad x i.1 i.2.1 i.2.2))
def IJ (ad : Ads) : Prop := ∀ i ∈ idx, ∀ j ∈ idx, ad i.1 i.2.1 i.2.2 = ad j.1 j.2.1 j.2.2 → i = j
def AA (ad : Ads) (sz : Nat) : Nat → Prop := fun q => (∃ i ∈ idx, q = ad i.1 i.2.1 i.2.2) ∨ sz ≤ q
theorem idx_ndp : idx.Nodup := by decide +kernel
theorem wl_at {cy : Nat → ClassId} {ad : Ads} {x : Mem} {q0 : Nat} {q : Nat × va_E} (h : (wl cy ad x)[q0]? = some q) : ∃ i, idx[q0]? = some i ∧ i ∈ idx ∧ q = (ad i.1 i.2.1 i.2.2, EE cy ad x i.1 i.2.1 i.2.2) := by
  unfold wl at h
  rw [List.getElem?_map] at h
  cases hi : idx[q0]? with
  | none => rw [hi] at h; cases h
  | some i => rw [hi] at h; exact ⟨i, rfl, List.mem_of_getElem? hi, (Option.some.inj h).symm⟩
theorem wl_D {cy : Nat → ClassId} {ad : Ads} {x : Mem} {A : Nat → Prop} (hI : IJ ad) (hA : ∀ i ∈ idx, A (ad i.1 i.2.1 i.2.2)) : va_D A (wl cy ad x) := by
  refine ⟨fun a b p q hp hq e => ?_, fun k q hq => ?_⟩
  · obtain ⟨i, h1, h2, rfl⟩ := wl_at hp
    obtain ⟨j, h3, h4, rfl⟩ := wl_at hq
    have hij := hI i h2 j h4 e
    subst hij
    have hl := (List.getElem?_eq_some_iff.mp h1).1
    exact (List.getElem?_inj hl idx_ndp).mp (by rw [h1, h3])
  · obtain ⟨i, h1, h2, rfl⟩ := wl_at hq
    exact hA i h2
theorem wl_get {cy : Nat → ClassId} {ad : Ads} (x : Mem) {k c j : Nat} (h : dm k c j) : ∃ q0 : Nat, (wl cy ad x)[q0]? = some (ad k c j, EE cy ad x k c j) ∧ idx[q0]? = some (k, c, j) := by
  obtain ⟨q0, hq⟩ := List.getElem?_of_mem (dm_mem h)
  exact ⟨q0, by unfold wl; rw [List.getElem?_map, hq]; rfl, hq⟩
theorem wl_set {cy : Nat → ClassId} {ad : Ads} {x y : Mem} {k c j q0 : Nat} (hq : idx[q0]? = some (k, c, j)) (h : ∀ k' c' j', dm k' c' j' → (k', c', j') ≠ (k, c, j) → EE cy ad y k' c' j' = EE cy ad x k' c' j') : (wl cy ad x).set q0 (ad k c j, EE cy ad y k c j) = wl cy ad y := by
  have hl := (List.getElem?_eq_some_iff.mp hq).1
  apply List.ext_getElem?
  intro n
  by_cases hn : n = q0
  · subst hn
    rw [List.getElem?_set_self (by unfold wl; rw [List.length_map]; exact hl)]
    unfold wl
    rw [List.getElem?_map, hq]
    rfl
  · rw [List.getElem?_set_ne (Ne.symm hn)]
    unfold wl
    rw [List.getElem?_map, List.getElem?_map]
    cases hi : idx[n]? with
    | none => rfl
    | some i =>
      obtain ⟨k', c', j'⟩ := i
      have hne : (k', c', j') ≠ (k, c, j) := fun e => hn ((List.getElem?_inj (List.getElem?_eq_some_iff.mp hi).1 idx_ndp).mp (by rw [hi, hq, e]))
      show some (_, _) = some (_, _)
      rw [h k' c' j' (mem_dm (List.mem_of_getElem? hi)) hne]
/-- the words of private methods that a nest mate calls -/
def nestL : List (String × Nat × MethodName × String) := [("RollingFob$Fob", 24, yX8_counterBehind, "RollingFob"), ("RollingFob$Fob", 28, yX8_numberOf, "RollingFob"), ("RollingFob$Slot", 31, yX8_counterBehind, "RollingFob"), ("RollingFob$Slot", 35, yX8_numberOf, "RollingFob")]
def NW (U : State) : Prop := ∀ q ∈ nestL, va_Nw (.methodLinkNest q.1 q.2.1 q.2.2.1 q.2.2.2) U
theorem NW.warm {s U : State} (hW : s.WarmedH U.vm) (h : NW s) : NW U := fun q hq => va_Nw.warmM hW (h q hq)
theorem NW.same {u U : State} (hvm : u.vm = U.vm) (h : NW u) : NW U := fun q hq => va_Nw.same rfl hvm (h q hq)
abbrev tys (cy : Nat → ClassId) : List (ClassId × FieldType) := [(cy 0, .int), (cy 1, .object "RollingFob$Fob"), (cy 2, .object "RollingFob$Door"), (cy 3, .object "RollingFob$Slot"), (cy 4, .object "RollingFob$State"), (cy 5, .long)]
/-- what stands throughout a method's walk -/
def CX (p : Program) (s : State) (m : MethodId) (args : Array Value) (meth : Method) (c : Code) (cc : ByteArray) (nL : Nat) (own : String) (ret : Option FieldType) (D : va_G) (cy : Nat → ClassId) (ad : Ads) : Prop :=
  CallFix p m c cc nL s args TB own ∧ meth.sig.returnType = ret ∧ meth.locks = false ∧ va_K D vwCl (tys cy) s ∧ IJ ad ∧ NW s
/-- the judgement: at this place, with these locals and this stack, over any heap that G says, the end is reached -/
def RM (p : Program) (l : Launch) (e : Env) (R : Room) (s : State) (m : MethodId) (args : Array Value) (below : List Frame) (meth : Method) (c : Code) (nL : Nat) (A : Nat → Prop) (G : Heap → Prop) (nc ns : Nat) (Q : State → Prop) (pc : Nat) (ls : List (Nat × Value)) (st : List Value) : Prop :=
  ∀ (H : Heap) (locs : List Loc) (la : Array Slot), G H → va_S A s.heap H locs → lv_has la nL ls → W p l e R s m args below meth c H locs nc ns Q (F0 m pc la st)
abbrev GG (D : va_G) (cy : Nat → ClassId) (ad : Ads) (x : Mem) : Heap → Prop := va_P D vwCl (wl cy ad x)
theorem AA_in {ad : Ads} {sz : Nat} : ∀ i ∈ idx, AA ad sz (ad i.1 i.2.1 i.2.2) := fun i h => Or.inl ⟨i, h, rfl⟩
/-- a contract: an int, or a boolean, is answered -/
def Cti (l : Launch) (y : MethodName) (cc : ByteArray) (nL : Nat) (ret : Option FieldType) (rm : Room) (D : va_G) (cy : Nat → ClassId) (ad : Ads) (As : List Value) (x : Mem) (post : Int32 → Mem → Prop) : Prop :=
  ∀ sz, Met l y (.code y cc nL ret :: TB) rm (va_Pc As (fun U => U.heap.size = sz ∧ va_P D vwCl (wl cy ad x) U.heap ∧ va_K D vwCl (tys cy) U ∧ NW U)) (va_Qi post (fun z t => va_P D vwCl (wl cy ad z) t.heap) (AA ad sz)) 0 0 (AA ad sz)
def Ctv (l : Launch) (y : MethodName) (cc : ByteArray) (nL : Nat) (ret : Option FieldType) (rm : Room) (D : va_G) (cy : Nat → ClassId) (ad : Ads) (As : List Value) (x : Mem) (post : Mem → Prop) : Prop :=
  ∀ sz, Met l y (.code y cc nL ret :: TB) rm (va_Pc As (fun U => U.heap.size = sz ∧ va_P D vwCl (wl cy ad x) U.heap ∧ va_K D vwCl (tys cy) U ∧ NW U)) (va_Qv post (fun z t => va_P D vwCl (wl cy ad z) t.heap) (AA ad sz)) 0 0 (AA ad sz)
def Ctl (l : Launch) (y : MethodName) (cc : ByteArray) (nL : Nat) (ret : Option FieldType) (rm : Room) (D : va_G) (cy : Nat → ClassId) (ad : Ads) (As : List Value) (x : Mem) (post : Int64 → Mem → Prop) : Prop :=
  ∀ sz, Met l y (.code y cc nL ret :: TB) rm (va_Pc As (fun U => U.heap.size = sz ∧ va_P D vwCl (wl cy ad x) U.heap ∧ va_K D vwCl (tys cy) U ∧ NW U)) (va_Ql post (fun z t => va_P D vwCl (wl cy ad z) t.heap) (AA ad sz)) 0 0 (AA ad sz)
def Ctd (l : Launch) (y : MethodName) (cc : ByteArray) (nL : Nat) (ret : Option FieldType) (rm : Room) (D : va_G) (cy : Nat → ClassId) (ad : Ads) (As : List Value) (x : Mem) (post : UInt64 → Mem → Prop) : Prop :=
  ∀ sz, Met l y (.code y cc nL ret :: TB) rm (va_Pc As (fun U => U.heap.size = sz ∧ va_P D vwCl (wl cy ad x) U.heap ∧ va_K D vwCl (tys cy) U ∧ NW U)) (va_Qd post (fun z t => va_P D vwCl (wl cy ad z) t.heap) (AA ad sz)) 0 0 (AA ad sz)
/-- what a walk ends in -/
def QQ (Qc : (Nat → Prop) → Array Value → State → Outcome → State → Prop) (below : List Frame) (args : Array Value) (s : State) (ad : Ads) : State → Prop := MQ below (Qc (AA ad s.heap.size)) args s 0 0 (AA ad s.heap.size)
abbrev Qi (D : va_G) (cy : Nat → ClassId) (ad : Ads) (post : Int32 → Mem → Prop) : (Nat → Prop) → Array Value → State → Outcome → State → Prop := va_Qi post (fun z t => va_P D vwCl (wl cy ad z) t.heap)
abbrev Qv (D : va_G) (cy : Nat → ClassId) (ad : Ads) (post : Mem → Prop) : (Nat → Prop) → Array Value → State → Outcome → State → Prop := va_Qv post (fun z t => va_P D vwCl (wl cy ad z) t.heap)
abbrev Ql (D : va_G) (cy : Nat → ClassId) (ad : Ads) (post : Int64 → Mem → Prop) : (Nat → Prop) → Array Value → State → Outcome → State → Prop := va_Ql post (fun z t => va_P D vwCl (wl cy ad z) t.heap)
abbrev Qd (D : va_G) (cy : Nat → ClassId) (ad : Ads) (post : UInt64 → Mem → Prop) : (Nat → Prop) → Array Value → State → Outcome → State → Prop := va_Qd post (fun z t => va_P D vwCl (wl cy ad z) t.heap)
theorem rm_entry {l : Launch} {y : MethodName} {cc : ByteArray} {nL : Nat} {ret : Option FieldType} {rm : Room} {D : va_G} {cy : Nat → ClassId} {ad : Ads} {As : List Value} {x : Mem} {Qc : (Nat → Prop) → Array Value → State → Outcome → State → Prop} (hI : IJ ad) (hy : plainName y.cls = true) (hl : (lg_sl As).length ≤ nL)
    (body : ∀ p e s m args below meth c, CX p s m args meth c cc nL y.cls ret D cy ad → RM p l e rm s m args below meth c nL (AA ad s.heap.size) (GG D cy ad x) 0 0 (QQ Qc below args s ad) 0 (lv_args 0 As) []) (sz : Nat) :
    Met l y (.code y cc nL ret :: TB) rm (va_Pc As (fun U => U.heap.size = sz ∧ va_P D vwCl (wl cy ad x) U.heap ∧ va_K D vwCl (tys cy) U ∧ NW U)) (Qc (AA ad sz)) 0 0 (AA ad sz) := by
  refine Met.ofW (cc := cc) (maxL := nL) (ret := ret) hy rfl ?_
  intro p e s m args below meth c s₁ B hml hv
  obtain ⟨rfl, hsz, hP, hK, hN⟩ := hv
  subst hsz
  have hts := atoms_spec (ws := .code y cc nL ret :: TB) B.pre
  have hc : CX p s m As.toArray meth c cc nL y.cls ret D cy ad := ⟨⟨B.exec, B.bytes, hml, findClass_of_methodNamed B.named, fun w h => hts w (List.mem_cons_of_mem _ h)⟩, B.returns, B.notSynchronized, hK, hI, hN⟩
  have h := body p e s m As.toArray below meth c hc
  rw [lg_entry_eq]
  exact h s.heap [] _ hP va_S.rf (lv_entry As hl)
end
section
section ROWS
variable {p : Program} {l : Launch} {e : Env} {R : Room} {s : State} {m : MethodId} {args : Array Value} {below : List Frame} {meth : Method} {c : Code} {cc : ByteArray} {nL : Nat} {own : String} {ret : Option FieldType} {D : va_G} {cy : Nat → ClassId} {ad : Ads} {A : Nat → Prop} {G : Heap → Prop} {nc ns : Nat} {Q : State → Prop} {x : Mem} {pc : Nat} {ls : List (Nat × Value)} {st : List Value}
def lk : List (Nat × Value) → Nat → Option Value
  | [], _ => none
  | q :: t, i => cond (Nat.beq q.1 i) (some q.2) (lk t i)
theorem lk_mem : ∀ {ls : List (Nat × Value)} {i : Nat} {v : Value}, lk ls i = some v → (i, v) ∈ ls
  | [], _, _, h => by cases h
  | q :: t, i, v, h => by
    unfold lk at h
    cases hb : Nat.beq q.1 i with
    | true =>
      rw [hb] at h
      have h1 : q.2 = v := Option.some.inj h
      have h2 : q.1 = i := Nat.eq_of_beq_eq_true hb
      rw [← h1, ← h2]
      exact List.mem_cons_self
    | false =>
      rw [hb] at h
      exact List.mem_cons_of_mem _ (lk_mem h)
theorem lk_at {la : Array Slot} {n i : Nat} {ls : List (Nat × Value)} {v : Value} (h : lv_has la n ls) (hk : lk ls i = some v) : la[i]? = some (.val v) := h.2.2 (i, v) (lk_mem hk)
def ins (i : Nat) (v : Value) : List (Nat × Value) → List (Nat × Value)
  | [] => [(i, v)]
  | q :: t => cond (Nat.blt i q.1) ((i, v) :: q :: t) (q :: ins i v t)
theorem ins_mem {i : Nat} {v : Value} : ∀ {ls : List (Nat × Value)} {q : Nat × Value}, q ∈ ins i v ls → q ∈ (i, v) :: ls
  | [], _, h => h
  | a :: t, q, h => by
    unfold ins at h
    cases hb : Nat.blt i a.1 with
    | true => rw [hb] at h; exact h
    | false =>
      rw [hb] at h
      rcases List.mem_cons.mp h with h1 | h1
      · rw [h1]; exact List.mem_cons_of_mem _ List.mem_cons_self
      · rcases List.mem_cons.mp (ins_mem h1) with h2 | h2
        · rw [h2]; exact List.mem_cons_self
        · exact List.mem_cons_of_mem _ (List.mem_cons_of_mem _ h2)
theorem has_mono {la : Array Slot} {n : Nat} {ls ls' : List (Nat × Value)} (h : lv_has la n ls) (hs : ∀ q ∈ ls', q ∈ ls) : lv_has la n ls' := ⟨h.1, h.2.1, fun q hq => h.2.2 q (hs q hq)⟩
def l1 (i : Nat) (v : Value) (ls : List (Nat × Value)) : List (Nat × Value) := ins i v (ls.filter (fun q => !(q.1 == i) && !(q.1 + 1 == i && q.2.category == 2)))
def l2 (i : Nat) (v : Value) (ls : List (Nat × Value)) : List (Nat × Value) := ins i v (ls.filter (fun q => !(q.1 == i) && (!(q.1 == i + 1) && !(q.1 + 1 == i && q.2.category == 2))))
/-- a part of the locals: by their places -/
def pk (ls : List (Nat × Value)) (ks : List Nat) : List (Nat × Value) := ks.filterMap (fun k => (lk ls k).map (fun v => (k, v)))
theorem pk_mem {ls : List (Nat × Value)} {ks : List Nat} {q : Nat × Value} (h : q ∈ pk ls ks) : q ∈ ls := by
  obtain ⟨k, -, hk⟩ := List.mem_filterMap.mp h
  cases hl : lk ls k with
  | none => rw [hl] at hk; cases hk
  | some v => rw [hl] at hk; cases hk; exact lk_mem hl
theorem rm_iconst (hc : CX p s m args meth c cc nL own ret D cy ad) {n : Int} {v : Int32} (hd : decode cc pc = .ok (.iconst n, 1)) (hv : Int32.ofInt n = v) (kk : RM p l e R s m args below meth c nL A G nc ns Q (pc + 1) ls (.int v :: st)) : RM p l e R s m args below meth c nL A G nc ns Q pc ls st :=
  fun H locs la hP hS hl => lv_iconst hc.1.1 hc.1.2.1 hd hv (kk H locs la hP hS hl)
theorem rm_bipush (hc : CX p s m args meth c cc nL own ret D cy ad) {n : Int} {v : Int32} (hd : decode cc pc = .ok (.bipush n, 2)) (hv : (Int8.ofInt n).toInt32 = v) (kk : RM p l e R s m args below meth c nL A G nc ns Q (pc + 2) ls (.int v :: st)) : RM p l e R s m args below meth c nL A G nc ns Q pc ls st :=
  fun H locs la hP hS hl => lv_bipush hc.1.1 hc.1.2.1 hd hv (kk H locs la hP hS hl)
theorem rm_sipush (hc : CX p s m args meth c cc nL own ret D cy ad) {n : Int} {v : Int32} (hd : decode cc pc = .ok (.sipush n, 3)) (hv : (Int16.ofInt n).toInt32 = v) (kk : RM p l e R s m args below meth c nL A G nc ns Q (pc + 3) ls (.int v :: st)) : RM p l e R s m args below meth c nL A G nc ns Q pc ls st :=
  fun H locs la hP hS hl => lv_sipush hc.1.1 hc.1.2.1 hd hv (kk H locs la hP hS hl)
theorem rm_lconst (hc : CX p s m args meth c cc nL own ret D cy ad) {n : Fin 2} {v : Int64} (hd : decode cc pc = .ok (.lconst n, 1)) (hv : Int64.ofNat (n : Nat) = v) (kk : RM p l e R s m args below meth c nL A G nc ns Q (pc + 1) ls (.long v :: st)) : RM p l e R s m args below meth c nL A G nc ns Q pc ls st :=
  fun H locs la hP hS hl => lv_lconst hc.1.1 hc.1.2.1 hd hv (kk H locs la hP hS hl)
theorem rm_dconst0 (hc : CX p s m args meth c cc nL own ret D cy ad) (hd : decode cc pc = .ok (.dconst 0, 1)) (kk : RM p l e R s m args below meth c nL A G nc ns Q (pc + 1) ls (.double FP.dconst0 :: st)) : RM p l e R s m args below meth c nL A G nc ns Q pc ls st :=
  fun H locs la hP hS hl => lv_dconst0 hc.1.1 hc.1.2.1 hd (kk H locs la hP hS hl)
theorem rm_dconst1 (hc : CX p s m args meth c cc nL own ret D cy ad) (hd : decode cc pc = .ok (.dconst 1, 1)) (kk : RM p l e R s m args below meth c nL A G nc ns Q (pc + 1) ls (.double FP.dconst1 :: st)) : RM p l e R s m args below meth c nL A G nc ns Q pc ls st :=
  fun H locs la hP hS hl => lv_dconst1 hc.1.1 hc.1.2.1 hd (kk H locs la hP hS hl)
theorem rm_ldc (hc : CX p s m args meth c cc nL own ret D cy ad) {i : Nat} {v : Int32} (hd : decode cc pc = .ok (.ldc i, 2)) (hk : Cond.constant own i v ∈ TB) (kk : RM p l e R s m args below meth c nL A G nc ns Q (pc + 2) ls (.int v :: st)) : RM p l e R s m args below meth c nL A G nc ns Q pc ls st :=
  fun H locs la hP hS hl => lv_ldc hc.1.1 hc.1.2.1 hc.1.2.2.2.1 (hc.1.2.2.2.2 _ hk) hd (kk H locs la hP hS hl)
theorem rm_ldc2 (hc : CX p s m args meth c cc nL own ret D cy ad) {i : Nat} {v : Int64} (hd : decode cc pc = .ok (.ldc2_w i, 3)) (hk : Cond.constantLong own i v ∈ TB) (kk : RM p l e R s m args below meth c nL A G nc ns Q (pc + 3) ls (.long v :: st)) : RM p l e R s m args below meth c nL A G nc ns Q pc ls st :=
  fun H locs la hP hS hl => lv_ldc2 hc.1.1 hc.1.2.1 hc.1.2.2.2.1 (hc.1.2.2.2.2 _ hk) hd (kk H locs la hP hS hl)
theorem rm_ldc2d (hc : CX p s m args meth c cc nL own ret D cy ad) {i : Nat} {v : UInt64} (hd : decode cc pc = .ok (.ldc2_w i, 3)) (hk : Cond.constantDouble own i v ∈ TB) (kk : RM p l e R s m args below meth c nL A G nc ns Q (pc + 3) ls (.double v :: st)) : RM p l e R s m args below meth c nL A G nc ns Q pc ls st :=
  fun H locs la hP hS hl => lv_ldc2d hc.1.1 hc.1.2.1 hc.1.2.2.2.1 (hc.1.2.2.2.2 _ hk) hd (kk H locs la hP hS hl)
theorem rm_iload_n (hc : CX p s m args meth c cc nL own ret D cy ad) {k : Fin 4} {i : Nat} {v : Int32} (hd : decode cc pc = .ok (.iload_n k, 1)) (hi : (k : Nat) = i) (hk : lk ls i = some (.int v)) (kk : RM p l e R s m args below meth c nL A G nc ns Q (pc + 1) ls (.int v :: st)) : RM p l e R s m args below meth c nL A G nc ns Q pc ls st :=
  fun H locs la hP hS hl => lv_iload_n hc.1.1 hc.1.2.1 hd hi (lk_at hl hk) (kk H locs la hP hS hl)
theorem rm_iload (hc : CX p s m args meth c cc nL own ret D cy ad) {i : Nat} {v : Int32} (hd : decode cc pc = .ok (.iload i, 2)) (hk : lk ls i = some (.int v)) (kk : RM p l e R s m args below meth c nL A G nc ns Q (pc + 2) ls (.int v :: st)) : RM p l e R s m args below meth c nL A G nc ns Q pc ls st :=
  fun H locs la hP hS hl => lv_iload hc.1.1 hc.1.2.1 hd (lk_at hl hk) (kk H locs la hP hS hl)
theorem rm_lload_n (hc : CX p s m args meth c cc nL own ret D cy ad) {k : Fin 4} {i : Nat} {v : Int64} (hd : decode cc pc = .ok (.lload_n k, 1)) (hi : (k : Nat) = i) (hk : lk ls i = some (.long v)) (kk : RM p l e R s m args below meth c nL A G nc ns Q (pc + 1) ls (.long v :: st)) : RM p l e R s m args below meth c nL A G nc ns Q pc ls st :=
  fun H locs la hP hS hl => lv_lload_n hc.1.1 hc.1.2.1 hd hi (lk_at hl hk) (kk H locs la hP hS hl)
theorem rm_lload (hc : CX p s m args meth c cc nL own ret D cy ad) {i : Nat} {v : Int64} (hd : decode cc pc = .ok (.lload i, 2)) (hk : lk ls i = some (.long v)) (kk : RM p l e R s m args below meth c nL A G nc ns Q (pc + 2) ls (.long v :: st)) : RM p l e R s m args below meth c nL A G nc ns Q pc ls st :=
  fun H locs la hP hS hl => lv_lload hc.1.1 hc.1.2.1 hd (lk_at hl hk) (kk H locs la hP hS hl)
theorem rm_dload_n (hc : CX p s m args meth c cc nL own ret D cy ad) {k : Fin 4} {i : Nat} {v : UInt64} (hd : decode cc pc = .ok (.dload_n k, 1)) (hi : (k : Nat) = i) (hk : lk ls i = some (.double v)) (kk : RM p l e R s m args below meth c nL A G nc ns Q (pc + 1) ls (.double v :: st)) : RM p l e R s m args below meth c nL A G nc ns Q pc ls st :=
  fun H locs la hP hS hl => lv_dload_n hc.1.1 hc.1.2.1 hd hi (lk_at hl hk) (kk H locs la hP hS hl)
theorem rm_dload (hc : CX p s m args meth c cc nL own ret D cy ad) {i : Nat} {v : UInt64} (hd : decode cc pc = .ok (.dload i, 2)) (hk : lk ls i = some (.double v)) (kk : RM p l e R s m args below meth c nL A G nc ns Q (pc + 2) ls (.double v :: st)) : RM p l e R s m args below meth c nL A G nc ns Q pc ls st :=
  fun H locs la hP hS hl => lv_dload hc.1.1 hc.1.2.1 hd (lk_at hl hk) (kk H locs la hP hS hl)
theorem rm_aload_n (hc : CX p s m args meth c cc nL own ret D cy ad) {k : Fin 4} {i : Nat} {v : Nat} (hd : decode cc pc = .ok (.aload_n k, 1)) (hi : (k : Nat) = i) (hk : lk ls i = some (.ref v)) (kk : RM p l e R s m args below meth c nL A G nc ns Q (pc + 1) ls (.ref v :: st)) : RM p l e R s m args below meth c nL A G nc ns Q pc ls st :=
  fun H locs la hP hS hl => lv_aload_n hc.1.1 hc.1.2.1 hd hi (lk_at hl hk) (kk H locs la hP hS hl)
theorem rm_aload (hc : CX p s m args meth c cc nL own ret D cy ad) {i : Nat} {v : Nat} (hd : decode cc pc = .ok (.aload i, 2)) (hk : lk ls i = some (.ref v)) (kk : RM p l e R s m args below meth c nL A G nc ns Q (pc + 2) ls (.ref v :: st)) : RM p l e R s m args below meth c nL A G nc ns Q pc ls st :=
  fun H locs la hP hS hl => lv_aload hc.1.1 hc.1.2.1 hd (lk_at hl hk) (kk H locs la hP hS hl)
theorem rm_istore_n (hc : CX p s m args meth c cc nL own ret D cy ad) {k : Fin 4} {i : Nat} {v : Int32} {ls' : List (Nat × Value)} (hd : decode cc pc = .ok (.istore_n k, 1)) (hi : (k : Nat) = i) (hn : i < nL) (hl' : l1 i (.int v) ls = ls') (kk : RM p l e R s m args below meth c nL A G nc ns Q (pc + 1) ls' st) : RM p l e R s m args below meth c nL A G nc ns Q pc ls (.int v :: st) :=
  fun H locs la hP hS hl => lv_istore_n hc.1.1 hc.1.2.1 hd hi hl hn rfl (fun la' h' => kk H locs la' hP hS (has_mono h' (fun q hq => by rw [← hl'] at hq; exact ins_mem hq)))
theorem rm_istore (hc : CX p s m args meth c cc nL own ret D cy ad) {i : Nat} {v : Int32} {ls' : List (Nat × Value)} (hd : decode cc pc = .ok (.istore i, 2)) (hn : i < nL) (hl' : l1 i (.int v) ls = ls') (kk : RM p l e R s m args below meth c nL A G nc ns Q (pc + 2) ls' st) : RM p l e R s m args below meth c nL A G nc ns Q pc ls (.int v :: st) :=
  fun H locs la hP hS hl => lv_istore hc.1.1 hc.1.2.1 hd hl hn rfl (fun la' h' => kk H locs la' hP hS (has_mono h' (fun q hq => by rw [← hl'] at hq; exact ins_mem hq)))
theorem rm_lstore_n (hc : CX p s m args meth c cc nL own ret D cy ad) {k : Fin 4} {i : Nat} {v : Int64} {ls' : List (Nat × Value)} (hd : decode cc pc = .ok (.lstore_n k, 1)) (hi : (k : Nat) = i) (hn : i + 1 < nL) (hl' : l2 i (.long v) ls = ls') (kk : RM p l e R s m args below meth c nL A G nc ns Q (pc + 1) ls' st) : RM p l e R s m args below meth c nL A G nc ns Q pc ls (.long v :: st) :=
  fun H locs la hP hS hl => lv_lstore_n hc.1.1 hc.1.2.1 hd hi hl hn rfl (fun la' h' => kk H locs la' hP hS (has_mono h' (fun q hq => by rw [← hl'] at hq; exact ins_mem hq)))
theorem rm_lstore (hc : CX p s m args meth c cc nL own ret D cy ad) {i : Nat} {v : Int64} {ls' : List (Nat × Value)} (hd : decode cc pc = .ok (.lstore i, 2)) (hn : i + 1 < nL) (hl' : l2 i (.long v) ls = ls') (kk : RM p l e R s m args below meth c nL A G nc ns Q (pc + 2) ls' st) : RM p l e R s m args below meth c nL A G nc ns Q pc ls (.long v :: st) :=
  fun H locs la hP hS hl => lv_lstore hc.1.1 hc.1.2.1 hd hl hn rfl (fun la' h' => kk H locs la' hP hS (has_mono h' (fun q hq => by rw [← hl'] at hq; exact ins_mem hq)))
theorem rm_dstore_n (hc : CX p s m args meth c cc nL own ret D cy ad) {k : Fin 4} {i : Nat} {v : UInt64} {ls' : List (Nat × Value)} (hd : decode cc pc = .ok (.dstore_n k, 1)) (hi : (k : Nat) = i) (hn : i + 1 < nL) (hl' : l2 i (.double v) ls = ls') (kk : RM p l e R s m args below meth c nL A G nc ns Q (pc + 1) ls' st) : RM p l e R s m args below meth c nL A G nc ns Q pc ls (.double v :: st) :=
  fun H locs la hP hS hl => lv_dstore_n hc.1.1 hc.1.2.1 hd hi hl hn rfl (fun la' h' => kk H locs la' hP hS (has_mono h' (fun q hq => by rw [← hl'] at hq; exact ins_mem hq)))
theorem rm_dstore (hc : CX p s m args meth c cc nL own ret D cy ad) {i : Nat} {v : UInt64} {ls' : List (Nat × Value)} (hd : decode cc pc = .ok (.dstore i, 2)) (hn : i + 1 < nL) (hl' : l2 i (.double v) ls = ls') (kk : RM p l e R s m args below meth c nL A G nc ns Q (pc + 2) ls' st) : RM p l e R s m args below meth c nL A G nc ns Q pc ls (.double v :: st) :=
  fun H locs la hP hS hl => lv_dstore hc.1.1 hc.1.2.1 hd hl hn rfl (fun la' h' => kk H locs la' hP hS (has_mono h' (fun q hq => by rw [← hl'] at hq; exact ins_mem hq)))
theorem rm_astore_n (hc : CX p s m args meth c cc nL own ret D cy ad) {k : Fin 4} {i : Nat} {v : Nat} {ls' : List (Nat × Value)} (hd : decode cc pc = .ok (.astore_n k, 1)) (hi : (k : Nat) = i) (hn : i < nL) (hl' : l1 i (.ref v) ls = ls') (kk : RM p l e R s m args below meth c nL A G nc ns Q (pc + 1) ls' st) : RM p l e R s m args below meth c nL A G nc ns Q pc ls (.ref v :: st) :=
  fun H locs la hP hS hl => lv_astore_n hc.1.1 hc.1.2.1 hd hi hl hn rfl (fun la' h' => kk H locs la' hP hS (has_mono h' (fun q hq => by rw [← hl'] at hq; exact ins_mem hq)))
theorem rm_astore (hc : CX p s m args meth c cc nL own ret D cy ad) {i : Nat} {v : Nat} {ls' : List (Nat × Value)} (hd : decode cc pc = .ok (.astore i, 2)) (hn : i < nL) (hl' : l1 i (.ref v) ls = ls') (kk : RM p l e R s m args below meth c nL A G nc ns Q (pc + 2) ls' st) : RM p l e R s m args below meth c nL A G nc ns Q pc ls (.ref v :: st) :=
  fun H locs la hP hS hl => lv_astore hc.1.1 hc.1.2.1 hd hl hn rfl (fun la' h' => kk H locs la' hP hS (has_mono h' (fun q hq => by rw [← hl'] at hq; exact ins_mem hq)))
theorem rm_iinc (hc : CX p s m args meth c cc nL own ret D cy ad) {i : Nat} {n : Int} {a v : Int32} {ls' : List (Nat × Value)} (hd : decode cc pc = .ok (.iinc i n, 3)) (hk : lk ls i = some (.int a)) (hv : a + Int32.ofInt n = v) (hn : i < nL) (hl' : l1 i (.int v) ls = ls') (kk : RM p l e R s m args below meth c nL A G nc ns Q (pc + 3) ls' st) : RM p l e R s m args below meth c nL A G nc ns Q pc ls st := by
  intro H locs la hP hS hl
  obtain ⟨k0, hk0⟩ := List.getElem?_of_mem (lk_mem hk)
  exact lv_iinc hc.1.1 hc.1.2.1 hd hl hk0 hv hn rfl (fun la' h' => kk H locs la' hP hS (has_mono h' (fun q hq => by rw [← hl'] at hq; exact ins_mem hq)))
theorem rm_iadd (hc : CX p s m args meth c cc nL own ret D cy ad) {a b : Int32} (hd : decode cc pc = .ok (.iadd, 1)) (kk : ∀ v : Int32, v = a + b → RM p l e R s m args below meth c nL A G nc ns Q (pc + 1) ls (.int v :: st)) : RM p l e R s m args below meth c nL A G nc ns Q pc ls (.int b :: .int a :: st) :=
  fun H locs la hP hS hl => lv_iadd hc.1.1 hc.1.2.1 hd (kk _ rfl H locs la hP hS hl)
theorem rm_isub (hc : CX p s m args meth c cc nL own ret D cy ad) {a b : Int32} (hd : decode cc pc = .ok (.isub, 1)) (kk : ∀ v : Int32, v = a - b → RM p l e R s m args below meth c nL A G nc ns Q (pc + 1) ls (.int v :: st)) : RM p l e R s m args below meth c nL A G nc ns Q pc ls (.int b :: .int a :: st) :=
  fun H locs la hP hS hl => lv_isub hc.1.1 hc.1.2.1 hd (kk _ rfl H locs la hP hS hl)
theorem rm_imul (hc : CX p s m args meth c cc nL own ret D cy ad) {a b : Int32} (hd : decode cc pc = .ok (.imul, 1)) (kk : ∀ v : Int32, v = a * b → RM p l e R s m args below meth c nL A G nc ns Q (pc + 1) ls (.int v :: st)) : RM p l e R s m args below meth c nL A G nc ns Q pc ls (.int b :: .int a :: st) :=
  fun H locs la hP hS hl => lv_imul hc.1.1 hc.1.2.1 hd (kk _ rfl H locs la hP hS hl)
theorem rm_iand (hc : CX p s m args meth c cc nL own ret D cy ad) {a b : Int32} (hd : decode cc pc = .ok (.iand, 1)) (kk : ∀ v : Int32, v = a &&& b → RM p l e R s m args below meth c nL A G nc ns Q (pc + 1) ls (.int v :: st)) : RM p l e R s m args below meth c nL A G nc ns Q pc ls (.int b :: .int a :: st) :=
  fun H locs la hP hS hl => lv_iand hc.1.1 hc.1.2.1 hd (kk _ rfl H locs la hP hS hl)
theorem rm_ior (hc : CX p s m args meth c cc nL own ret D cy ad) {a b : Int32} (hd : decode cc pc = .ok (.ior, 1)) (kk : ∀ v : Int32, v = a ||| b → RM p l e R s m args below meth c nL A G nc ns Q (pc + 1) ls (.int v :: st)) : RM p l e R s m args below meth c nL A G nc ns Q pc ls (.int b :: .int a :: st) :=
  fun H locs la hP hS hl => lv_ior hc.1.1 hc.1.2.1 hd (kk _ rfl H locs la hP hS hl)
theorem rm_ixor (hc : CX p s m args meth c cc nL own ret D cy ad) {a b : Int32} (hd : decode cc pc = .ok (.ixor, 1)) (kk : ∀ v : Int32, v = a ^^^ b → RM p l e R s m args below meth c nL A G nc ns Q (pc + 1) ls (.int v :: st)) : RM p l e R s m args below meth c nL A G nc ns Q pc ls (.int b :: .int a :: st) :=
  fun H locs la hP hS hl => lv_ixor hc.1.1 hc.1.2.1 hd (kk _ rfl H locs la hP hS hl)
theorem rm_ishl (hc : CX p s m args meth c cc nL own ret D cy ad) {a b : Int32} (hd : decode cc pc = .ok (.ishl, 1)) (kk : ∀ v : Int32, v = a <<< (b &&& 31) → RM p l e R s m args below meth c nL A G nc ns Q (pc + 1) ls (.int v :: st)) : RM p l e R s m args below meth c nL A G nc ns Q pc ls (.int b :: .int a :: st) :=
  fun H locs la hP hS hl => lv_ishl hc.1.1 hc.1.2.1 hd (kk _ rfl H locs la hP hS hl)
theorem rm_ishr (hc : CX p s m args meth c cc nL own ret D cy ad) {a b : Int32} (hd : decode cc pc = .ok (.ishr, 1)) (kk : ∀ v : Int32, v = a >>> (b &&& 31) → RM p l e R s m args below meth c nL A G nc ns Q (pc + 1) ls (.int v :: st)) : RM p l e R s m args below meth c nL A G nc ns Q pc ls (.int b :: .int a :: st) :=
  fun H locs la hP hS hl => lv_ishr hc.1.1 hc.1.2.1 hd (kk _ rfl H locs la hP hS hl)
theorem rm_idiv (hc : CX p s m args meth c cc nL own ret D cy ad) {a b : Int32} (hd : decode cc pc = .ok (.idiv, 1)) (hne : ¬ b = 0) (kk : ∀ v : Int32, v = a / b → RM p l e R s m args below meth c nL A G nc ns Q (pc + 1) ls (.int v :: st)) : RM p l e R s m args below meth c nL A G nc ns Q pc ls (.int b :: .int a :: st) :=
  fun H locs la hP hS hl => lv_idiv hc.1.1 hc.1.2.1 hd hne (kk _ rfl H locs la hP hS hl)
theorem rm_irem (hc : CX p s m args meth c cc nL own ret D cy ad) {a b : Int32} (hd : decode cc pc = .ok (.irem, 1)) (hne : ¬ b = 0) (kk : ∀ v : Int32, v = a - a / b * b → RM p l e R s m args below meth c nL A G nc ns Q (pc + 1) ls (.int v :: st)) : RM p l e R s m args below meth c nL A G nc ns Q pc ls (.int b :: .int a :: st) :=
  fun H locs la hP hS hl => lv_irem hc.1.1 hc.1.2.1 hd hne (kk _ rfl H locs la hP hS hl)
theorem rm_ladd (hc : CX p s m args meth c cc nL own ret D cy ad) {a b : Int64} (hd : decode cc pc = .ok (.ladd, 1)) (kk : ∀ v : Int64, v = a + b → RM p l e R s m args below meth c nL A G nc ns Q (pc + 1) ls (.long v :: st)) : RM p l e R s m args below meth c nL A G nc ns Q pc ls (.long b :: .long a :: st) :=
  fun H locs la hP hS hl => lv_ladd hc.1.1 hc.1.2.1 hd (kk _ rfl H locs la hP hS hl)
theorem rm_lsub (hc : CX p s m args meth c cc nL own ret D cy ad) {a b : Int64} (hd : decode cc pc = .ok (.lsub, 1)) (kk : ∀ v : Int64, v = a - b → RM p l e R s m args below meth c nL A G nc ns Q (pc + 1) ls (.long v :: st)) : RM p l e R s m args below meth c nL A G nc ns Q pc ls (.long b :: .long a :: st) :=
  fun H locs la hP hS hl => lv_lsub hc.1.1 hc.1.2.1 hd (kk _ rfl H locs la hP hS hl)
theorem rm_lmul (hc : CX p s m args meth c cc nL own ret D cy ad) {a b : Int64} (hd : decode cc pc = .ok (.lmul, 1)) (kk : ∀ v : Int64, v = a * b → RM p l e R s m args below meth c nL A G nc ns Q (pc + 1) ls (.long v :: st)) : RM p l e R s m args below meth c nL A G nc ns Q pc ls (.long b :: .long a :: st) :=
  fun H locs la hP hS hl => lv_lmul hc.1.1 hc.1.2.1 hd (kk _ rfl H locs la hP hS hl)
theorem rm_lshl (hc : CX p s m args meth c cc nL own ret D cy ad) {a : Int64} {b : Int32} (hd : decode cc pc = .ok (.lshl, 1)) (kk : ∀ v : Int64, v = a <<< (b.toInt64 &&& 63) → RM p l e R s m args below meth c nL A G nc ns Q (pc + 1) ls (.long v :: st)) : RM p l e R s m args below meth c nL A G nc ns Q pc ls (.int b :: .long a :: st) :=
  fun H locs la hP hS hl => lv_lshl hc.1.1 hc.1.2.1 hd rfl (kk _ rfl H locs la hP hS hl)
theorem rm_i2l (hc : CX p s m args meth c cc nL own ret D cy ad) {a : Int32} (hd : decode cc pc = .ok (.i2l, 1)) (kk : ∀ v : Int64, v = a.toInt64 → RM p l e R s m args below meth c nL A G nc ns Q (pc + 1) ls (.long v :: st)) : RM p l e R s m args below meth c nL A G nc ns Q pc ls (.int a :: st) :=
  fun H locs la hP hS hl => lv_i2l hc.1.1 hc.1.2.1 hd rfl (kk _ rfl H locs la hP hS hl)
theorem rm_i2d (hc : CX p s m args meth c cc nL own ret D cy ad) {a : Int32} (hd : decode cc pc = .ok (.i2d, 1)) (kk : ∀ v : UInt64, v = FP.i2d a → RM p l e R s m args below meth c nL A G nc ns Q (pc + 1) ls (.double v :: st)) : RM p l e R s m args below meth c nL A G nc ns Q pc ls (.int a :: st) :=
  fun H locs la hP hS hl => lv_i2d hc.1.1 hc.1.2.1 hd (kk _ rfl H locs la hP hS hl)
theorem rm_d2l (hc : CX p s m args meth c cc nL own ret D cy ad) {a : UInt64} (hd : decode cc pc = .ok (.d2l, 1)) (kk : ∀ v : Int64, v = FP.d2l a → RM p l e R s m args below meth c nL A G nc ns Q (pc + 1) ls (.long v :: st)) : RM p l e R s m args below meth c nL A G nc ns Q pc ls (.double a :: st) :=
  fun H locs la hP hS hl => lv_d2l hc.1.1 hc.1.2.1 hd (kk _ rfl H locs la hP hS hl)
theorem rm_ddiv (hc : CX p s m args meth c cc nL own ret D cy ad) {a b : UInt64} (hd : decode cc pc = .ok (.ddiv, 1)) (hne : vf_n64 (FP.ddiv a b)) (kk : ∀ v : UInt64, v = FP.ddiv a b → RM p l e R s m args below meth c nL A G nc ns Q (pc + 1) ls (.double v :: st)) : RM p l e R s m args below meth c nL A G nc ns Q pc ls (.double b :: .double a :: st) :=
  fun H locs la hP hS hl => lv_ddiv hc.1.1 hc.1.2.1 hd hne (kk _ rfl H locs la hP hS hl)
theorem rm_dmul (hc : CX p s m args meth c cc nL own ret D cy ad) {a b : UInt64} (hd : decode cc pc = .ok (.dmul, 1)) (hne : vf_n64 (FP.dmul a b)) (kk : ∀ v : UInt64, v = FP.dmul a b → RM p l e R s m args below meth c nL A G nc ns Q (pc + 1) ls (.double v :: st)) : RM p l e R s m args below meth c nL A G nc ns Q pc ls (.double b :: .double a :: st) :=
  fun H locs la hP hS hl => lv_dmul hc.1.1 hc.1.2.1 hd hne (kk _ rfl H locs la hP hS hl)
theorem rm_dsub (hc : CX p s m args meth c cc nL own ret D cy ad) {a b : UInt64} (hd : decode cc pc = .ok (.dsub, 1)) (hne : vf_n64 (FP.dsub a b)) (kk : ∀ v : UInt64, v = FP.dsub a b → RM p l e R s m args below meth c nL A G nc ns Q (pc + 1) ls (.double v :: st)) : RM p l e R s m args below meth c nL A G nc ns Q pc ls (.double b :: .double a :: st) :=
  fun H locs la hP hS hl => lv_dsub hc.1.1 hc.1.2.1 hd hne (kk _ rfl H locs la hP hS hl)
theorem rm_dcmp (hc : CX p s m args meth c cc nL own ret D cy ad) {a b : UInt64} {op : CmpOp} (hd : decode cc pc = .ok (.dcmp op, 1)) (kk : ∀ v : Int32, v = Op.cmpValue (FP.dcmp a b) op → RM p l e R s m args below meth c nL A G nc ns Q (pc + 1) ls (.int v :: st)) : RM p l e R s m args below meth c nL A G nc ns Q pc ls (.double b :: .double a :: st) :=
  fun H locs la hP hS hl => lv_dcmp hc.1.1 hc.1.2.1 hd (kk _ rfl H locs la hP hS hl)
theorem rm_dup (hc : CX p s m args meth c cc nL own ret D cy ad) {a : Value} (hd : decode cc pc = .ok (.dup, 1)) (ha : a.category = 1) (kk : RM p l e R s m args below meth c nL A G nc ns Q (pc + 1) ls (a :: a :: st)) : RM p l e R s m args below meth c nL A G nc ns Q pc ls (a :: st) :=
  fun H locs la hP hS hl => lv_dup hc.1.1 hc.1.2.1 hd ha (kk H locs la hP hS hl)
theorem rm_pop (hc : CX p s m args meth c cc nL own ret D cy ad) {a : Value} (hd : decode cc pc = .ok (.pop, 1)) (ha : a.category = 1) (kk : RM p l e R s m args below meth c nL A G nc ns Q (pc + 1) ls st) : RM p l e R s m args below meth c nL A G nc ns Q pc ls (a :: st) :=
  fun H locs la hP hS hl => lv_pop hc.1.1 hc.1.2.1 hd ha (kk H locs la hP hS hl)
theorem rm_dup2 (hc : CX p s m args meth c cc nL own ret D cy ad) {a b : Value} (hd : decode cc pc = .ok (.dup2, 1)) (ha : a.category = 1) (hb : b.category = 1) (kk : RM p l e R s m args below meth c nL A G nc ns Q (pc + 1) ls (a :: b :: a :: b :: st)) : RM p l e R s m args below meth c nL A G nc ns Q pc ls (a :: b :: st) :=
  fun H locs la hP hS hl => lv_dup2_11 hc.1.1 hc.1.2.1 hd ha hb (kk H locs la hP hS hl)
theorem rm_dup_x1 (hc : CX p s m args meth c cc nL own ret D cy ad) {a b : Value} (hd : decode cc pc = .ok (.dup_x1, 1)) (ha : a.category = 1) (hb : b.category = 1) (kk : RM p l e R s m args below meth c nL A G nc ns Q (pc + 1) ls (a :: b :: a :: st)) : RM p l e R s m args below meth c nL A G nc ns Q pc ls (a :: b :: st) :=
  fun H locs la hP hS hl => lv_dup_x1 hc.1.1 hc.1.2.1 hd ha hb (kk H locs la hP hS hl)
theorem rm_if_eq (hc : CX p s m args meth c cc nL own ret D cy ad) {a : Int32} {off : Int} {tgt : Nat} (hd : decode cc pc = .ok (.ifCond .eq off, 3)) (ht : (pc : Int) + off = (tgt : Int)) (kt : a = 0 → RM p l e R s m args below meth c nL A G nc ns Q tgt ls st) (kf : ¬ a = 0 → RM p l e R s m args below meth c nL A G nc ns Q (pc + 3) ls st) : RM p l e R s m args below meth c nL A G nc ns Q pc ls (.int a :: st) :=
  fun H locs la hP hS hl => lv_if_eq hc.1.1 hc.1.2.1 hd ht (fun h => kt h H locs la hP hS hl) (fun h => kf h H locs la hP hS hl)
theorem rm_icmp_eq (hc : CX p s m args meth c cc nL own ret D cy ad) {a b : Int32} {off : Int} {tgt : Nat} (hd : decode cc pc = .ok (.if_icmp .eq off, 3)) (ht : (pc : Int) + off = (tgt : Int)) (kt : a = b → RM p l e R s m args below meth c nL A G nc ns Q tgt ls st) (kf : ¬ a = b → RM p l e R s m args below meth c nL A G nc ns Q (pc + 3) ls st) : RM p l e R s m args below meth c nL A G nc ns Q pc ls (.int b :: .int a :: st) :=
  fun H locs la hP hS hl => lv_icmp_eq hc.1.1 hc.1.2.1 hd ht (fun h => kt h H locs la hP hS hl) (fun h => kf h H locs la hP hS hl)
theorem rm_if_ne (hc : CX p s m args meth c cc nL own ret D cy ad) {a : Int32} {off : Int} {tgt : Nat} (hd : decode cc pc = .ok (.ifCond .ne off, 3)) (ht : (pc : Int) + off = (tgt : Int)) (kt : ¬ a = 0 → RM p l e R s m args below meth c nL A G nc ns Q tgt ls st) (kf : a = 0 → RM p l e R s m args below meth c nL A G nc ns Q (pc + 3) ls st) : RM p l e R s m args below meth c nL A G nc ns Q pc ls (.int a :: st) :=
  fun H locs la hP hS hl => lv_if_ne hc.1.1 hc.1.2.1 hd ht (fun h => kt h H locs la hP hS hl) (fun h => kf h H locs la hP hS hl)
theorem rm_icmp_ne (hc : CX p s m args meth c cc nL own ret D cy ad) {a b : Int32} {off : Int} {tgt : Nat} (hd : decode cc pc = .ok (.if_icmp .ne off, 3)) (ht : (pc : Int) + off = (tgt : Int)) (kt : ¬ a = b → RM p l e R s m args below meth c nL A G nc ns Q tgt ls st) (kf : a = b → RM p l e R s m args below meth c nL A G nc ns Q (pc + 3) ls st) : RM p l e R s m args below meth c nL A G nc ns Q pc ls (.int b :: .int a :: st) :=
  fun H locs la hP hS hl => lv_icmp_ne hc.1.1 hc.1.2.1 hd ht (fun h => kt h H locs la hP hS hl) (fun h => kf h H locs la hP hS hl)
theorem rm_if_lt (hc : CX p s m args meth c cc nL own ret D cy ad) {a : Int32} {off : Int} {tgt : Nat} (hd : decode cc pc = .ok (.ifCond .lt off, 3)) (ht : (pc : Int) + off = (tgt : Int)) (kt : a < 0 → RM p l e R s m args below meth c nL A G nc ns Q tgt ls st) (kf : ¬ a < 0 → RM p l e R s m args below meth c nL A G nc ns Q (pc + 3) ls st) : RM p l e R s m args below meth c nL A G nc ns Q pc ls (.int a :: st) :=
  fun H locs la hP hS hl => lv_if_lt hc.1.1 hc.1.2.1 hd ht (fun h => kt h H locs la hP hS hl) (fun h => kf h H locs la hP hS hl)
theorem rm_icmp_lt (hc : CX p s m args meth c cc nL own ret D cy ad) {a b : Int32} {off : Int} {tgt : Nat} (hd : decode cc pc = .ok (.if_icmp .lt off, 3)) (ht : (pc : Int) + off = (tgt : Int)) (kt : a < b → RM p l e R s m args below meth c nL A G nc ns Q tgt ls st) (kf : ¬ a < b → RM p l e R s m args below meth c nL A G nc ns Q (pc + 3) ls st) : RM p l e R s m args below meth c nL A G nc ns Q pc ls (.int b :: .int a :: st) :=
  fun H locs la hP hS hl => lv_icmp_lt hc.1.1 hc.1.2.1 hd ht (fun h => kt h H locs la hP hS hl) (fun h => kf h H locs la hP hS hl)
theorem rm_if_ge (hc : CX p s m args meth c cc nL own ret D cy ad) {a : Int32} {off : Int} {tgt : Nat} (hd : decode cc pc = .ok (.ifCond .ge off, 3)) (ht : (pc : Int) + off = (tgt : Int)) (kt : 0 ≤ a → RM p l e R s m args below meth c nL A G nc ns Q tgt ls st) (kf : ¬ 0 ≤ a → RM p l e R s m args below meth c nL A G nc ns Q (pc + 3) ls st) : RM p l e R s m args below meth c nL A G nc ns Q pc ls (.int a :: st) :=
  fun H locs la hP hS hl => lv_if_ge hc.1.1 hc.1.2.1 hd ht (fun h => kt h H locs la hP hS hl) (fun h => kf h H locs la hP hS hl)
theorem rm_icmp_ge (hc : CX p s m args meth c cc nL own ret D cy ad) {a b : Int32} {off : Int} {tgt : Nat} (hd : decode cc pc = .ok (.if_icmp .ge off, 3)) (ht : (pc : Int) + off = (tgt : Int)) (kt : b ≤ a → RM p l e R s m args below meth c nL A G nc ns Q tgt ls st) (kf : ¬ b ≤ a → RM p l e R s m args below meth c nL A G nc ns Q (pc + 3) ls st) : RM p l e R s m args below meth c nL A G nc ns Q pc ls (.int b :: .int a :: st) :=
  fun H locs la hP hS hl => lv_icmp_ge hc.1.1 hc.1.2.1 hd ht (fun h => kt h H locs la hP hS hl) (fun h => kf h H locs la hP hS hl)
theorem rm_if_gt (hc : CX p s m args meth c cc nL own ret D cy ad) {a : Int32} {off : Int} {tgt : Nat} (hd : decode cc pc = .ok (.ifCond .gt off, 3)) (ht : (pc : Int) + off = (tgt : Int)) (kt : 0 < a → RM p l e R s m args below meth c nL A G nc ns Q tgt ls st) (kf : ¬ 0 < a → RM p l e R s m args below meth c nL A G nc ns Q (pc + 3) ls st) : RM p l e R s m args below meth c nL A G nc ns Q pc ls (.int a :: st) :=
  fun H locs la hP hS hl => lv_if_gt hc.1.1 hc.1.2.1 hd ht (fun h => kt h H locs la hP hS hl) (fun h => kf h H locs la hP hS hl)
theorem rm_icmp_gt (hc : CX p s m args meth c cc nL own ret D cy ad) {a b : Int32} {off : Int} {tgt : Nat} (hd : decode cc pc = .ok (.if_icmp .gt off, 3)) (ht : (pc : Int) + off = (tgt : Int)) (kt : b < a → RM p l e R s m args below meth c nL A G nc ns Q tgt ls st) (kf : ¬ b < a → RM p l e R s m args below meth c nL A G nc ns Q (pc + 3) ls st) : RM p l e R s m args below meth c nL A G nc ns Q pc ls (.int b :: .int a :: st) :=
  fun H locs la hP hS hl => lv_icmp_gt hc.1.1 hc.1.2.1 hd ht (fun h => kt h H locs la hP hS hl) (fun h => kf h H locs la hP hS hl)
theorem rm_if_le (hc : CX p s m args meth c cc nL own ret D cy ad) {a : Int32} {off : Int} {tgt : Nat} (hd : decode cc pc = .ok (.ifCond .le off, 3)) (ht : (pc : Int) + off = (tgt : Int)) (kt : a ≤ 0 → RM p l e R s m args below meth c nL A G nc ns Q tgt ls st) (kf : ¬ a ≤ 0 → RM p l e R s m args below meth c nL A G nc ns Q (pc + 3) ls st) : RM p l e R s m args below meth c nL A G nc ns Q pc ls (.int a :: st) :=
  fun H locs la hP hS hl => lv_if_le hc.1.1 hc.1.2.1 hd ht (fun h => kt h H locs la hP hS hl) (fun h => kf h H locs la hP hS hl)
theorem rm_icmp_le (hc : CX p s m args meth c cc nL own ret D cy ad) {a b : Int32} {off : Int} {tgt : Nat} (hd : decode cc pc = .ok (.if_icmp .le off, 3)) (ht : (pc : Int) + off = (tgt : Int)) (kt : a ≤ b → RM p l e R s m args below meth c nL A G nc ns Q tgt ls st) (kf : ¬ a ≤ b → RM p l e R s m args below meth c nL A G nc ns Q (pc + 3) ls st) : RM p l e R s m args below meth c nL A G nc ns Q pc ls (.int b :: .int a :: st) :=
  fun H locs la hP hS hl => lv_icmp_le hc.1.1 hc.1.2.1 hd ht (fun h => kt h H locs la hP hS hl) (fun h => kf h H locs la hP hS hl)
theorem rm_goto (hc : CX p s m args meth c cc nL own ret D cy ad) {off : Int} {tgt : Nat} (hd : decode cc pc = .ok (.goto off, 3)) (ht : (pc : Int) + off = (tgt : Int)) (kk : RM p l e R s m args below meth c nL A G nc ns Q tgt ls st) : RM p l e R s m args below meth c nL A G nc ns Q pc ls st :=
  fun H locs la hP hS hl => lv_goto hc.1.1 hc.1.2.1 hd ht (kk H locs la hP hS hl)
theorem rm_tout (hc : CX p s m args meth c cc nL own ret D cy ad) {dflt lo hi : Int} {offs : Array Int} {len : Nat} {a : Int32} {tgt : Nat} (hd : decode cc pc = .ok (.tableswitch dflt lo hi offs, len)) (h : a.toInt < lo ∨ hi < a.toInt) (ht : (pc : Int) + dflt = (tgt : Int)) (kk : RM p l e R s m args below meth c nL A G nc ns Q tgt ls st) : RM p l e R s m args below meth c nL A G nc ns Q pc ls (.int a :: st) :=
  fun H locs la hP hS hl => lv_tableOut hc.1.1 hc.1.2.1 hd h ht (kk H locs la hP hS hl)
theorem rm_tin (hc : CX p s m args meth c cc nL own ret D cy ad) {dflt lo hi : Int} {offs : Array Int} {len : Nat} {a : Int32} {off : Int} {tgt : Nat} (hd : decode cc pc = .ok (.tableswitch dflt lo hi offs, len)) (h1 : ¬ a.toInt < lo) (h2 : ¬ hi < a.toInt) (ho : offs[(a.toInt - lo).toNat]? = some off) (ht : (pc : Int) + off = (tgt : Int)) (kk : RM p l e R s m args below meth c nL A G nc ns Q tgt ls st) : RM p l e R s m args below meth c nL A G nc ns Q pc ls (.int a :: st) :=
  fun H locs la hP hS hl => lv_tableIn hc.1.1 hc.1.2.1 hd h1 h2 ho ht (kk H locs la hP hS hl)
theorem rm_lkup (hc : CX p s m args meth c cc nL own ret D cy ad) {dflt : Int} {ps : Array (Int × Int)} {len : Nat} {a : Int32} {off : Int} {tgt : Nat} (hd : decode cc pc = .ok (.lookupswitch dflt ps, len)) (hp : (ps.toList.zip (ps.toList.drop 1)).all (fun (a, next) => a.1 < next.1) = true) (ho : Op.lookupswitch.offset ps.toList dflt a.toInt = off) (ht : (pc : Int) + off = (tgt : Int)) (kk : RM p l e R s m args below meth c nL A G nc ns Q tgt ls st) : RM p l e R s m args below meth c nL A G nc ns Q pc ls (.int a :: st) :=
  fun H locs la hP hS hl => lv_lookup hc.1.1 hc.1.2.1 hd hp ho ht (kk H locs la hP hS hl)
theorem rm_sub {ls' : List (Nat × Value)} (ks : List Nat) (hk : pk ls ks = ls') (kk : RM p l e R s m args below meth c nL A G nc ns Q pc ls' st) : RM p l e R s m args below meth c nL A G nc ns Q pc ls st :=
  fun H locs la hP hS hl => kk H locs la hP hS (has_mono hl (fun q hq => by rw [← hk] at hq; exact pk_mem hq))
theorem rm_mem {G' : Heap → Prop} (h : ∀ H, G H → G' H) (kk : RM p l e R s m args below meth c nL A  G' nc ns Q pc ls st) : RM p l e R s m args below meth c nL A G nc ns Q pc ls st :=
  fun H locs la hP hS hl => kk H locs la (h H hP) hS hl
end ROWS
end
section
section ROWS2
variable {p : Program} {l : Launch} {e : Env} {R : Room} {s : State} {m : MethodId} {args : Array Value} {below : List Frame} {meth : Method} {c : Code} {cc : ByteArray} {nL : Nat} {own : String} {ret : Option FieldType} {D : va_G} {cy : Nat → ClassId} {ad : Ads} {A : Nat → Prop} {G : Heap → Prop} {nc ns : Nat} {Q : State → Prop} {x : Mem} {pc : Nat} {ls : List (Nat × Value)} {st : List Value}
/-- a field, by its class's place in vwCl and its place in the class -/
def FL (own : String) (index ci f : Nat) : Prop := ∃ (C : String) (T : u_T) (N : Nat), vwCl[ci]? = some (C, T, N) ∧ f < N ∧ Cond.fieldLink own index (T f).1 (T f).2.1 (T f).2.2.1 ∈ TB
theorem tyTB : ∀ q ∈ vwCl, ∀ k, k < q.2.2 → (parseFieldDescriptor (q.2.1 k).2.2.1).isSome = true := by decide +kernel
theorem ty_of {q : vw_C} (h : q ∈ vwCl) : ∀ k, k < q.2.2 → parseFieldDescriptor (q.2.1 k).2.2.1 = some ((parseFieldDescriptor (q.2.1 k).2.2.1).getD .int) := fun k hk => by
  obtain ⟨t, ht⟩ := Option.isSome_iff_exists.mp (tyTB q h k hk)
  rw [ht]; rfl
def SO (cy : Nat → ClassId) (ad : Ads) (x y : Mem) (k c j : Nat) (e : va_E) : Prop := EE cy ad y k c j = e ∧ ∀ k' c' j', dm k' c' j' → (k', c', j') ≠ (k, c, j) → EE cy ad y k' c' j' = EE cy ad x k' c' j'
theorem so_up {cy : Nat → ClassId} {ad : Ads} {x : Mem} {k c j b n : Nat} {v : Int32} {e : va_E} (ho : ow b n = (k, c, j)) (he : EE cy ad (up x b n v) k c j = e) : SO cy ad x (up x b n v) k c j e :=
  ⟨he, fun k' c' j' hd hne => EE_up hd (fun h => hne (h.symm.trans ho))⟩
theorem GG_congr {D : va_G} {cy : Nat → ClassId} {ad : Ads} {x y : Mem} {H : Heap} (h : ∀ k c j, dm k c j → EE cy ad y k c j = EE cy ad x k c j) (hP : GG D cy ad x H) : GG D cy ad y H := by
  intro q0 q hq
  obtain ⟨i, h1, h2, rfl⟩ := wl_at hq
  obtain ⟨k, c, j⟩ := i
  rw [h k c j (mem_dm h2)]
  exact hP q0 _ (by unfold wl; rw [List.getElem?_map, h1]; rfl)
theorem rm_get (hc : CX p s m args meth c cc nL own ret D cy ad) {index ci f k c0 j : Nat} {fs : List Value} {v : Value} (hd : decode cc pc = .ok (.getfield index, 3)) (hf : FL own index ci f) (hm : dm k c0 j) (hE : EE cy ad x k c0 j = .inr (ci, fs)) (hv : fs[f]? = some v) (kk : RM p l e R s m args below meth c nL A (GG D cy ad x) nc ns Q (pc + 3) ls (v :: st)) : RM p l e R s m args below meth c nL A (GG D cy ad x) nc ns Q pc ls (.ref (ad k c0 j) :: st) := by
  intro H locs la hP hS hl
  obtain ⟨C, T, N, h1, h2, h3⟩ := hf
  obtain ⟨q0, hq, -⟩ := wl_get (cy := cy) (ad := ad) x hm
  rw [hE] at hq
  exact va_get (ci := ci) (T := T) (N := N) hc.1.1 hc.1.2.1 hc.1.2.2.2.2 (fwTB _ (List.mem_of_getElem? h1)) hc.1.2.2.2.1 hc.2.2.2.1 hP q0 hq h1 f h2 (hc.1.2.2.2.2 _ h3) (fun _ h => h) hv hd (kk H locs la hP hS hl)
theorem rm_geti (hc : CX p s m args meth c cc nL own ret D cy ad) {index ci f k c0 j : Nat} {fs : List Value} {w : Int32} (hd : decode cc pc = .ok (.getfield index, 3)) (hf : FL own index ci f) (hm : dm k c0 j) (hE : EE cy ad x k c0 j = .inr (ci, fs)) (hv : fs[f]? = some (.int w)) (kk : ∀ v : Int32, v = w → RM p l e R s m args below meth c nL A (GG D cy ad x) nc ns Q (pc + 3) ls (.int v :: st)) : RM p l e R s m args below meth c nL A (GG D cy ad x) nc ns Q pc ls (.ref (ad k c0 j) :: st) :=
  rm_get hc hd hf hm hE hv (kk _ rfl)
theorem rm_put (hc : CX p s m args meth c cc nL own ret D cy ad) {index ci f k c0 j : Nat} {fs : List Value} {v : Int32} {y : Mem} {ty : FieldType} (hd : decode cc pc = .ok (.putfield index, 3)) (hf : FL own index ci f) (hm : dm k c0 j) (hE : EE cy ad x k c0 j = .inr (ci, fs)) (hl2 : f < fs.length) (hT : ∀ q, vwCl[ci]? = some q → (q.2.1 f).2.2.2 = false ∧ parseFieldDescriptor (q.2.1 f).2.2.1 = some ty) (hn : narrow ty (.int v) = .int v) (hfit : fits ty (.int v) = true) (hs : SO cy ad x y k c0 j (.inr (ci, fs.set f (.int v)))) (kk : RM p l e R s m args below meth c nL (AA ad s.heap.size) (GG D cy ad y) nc ns Q (pc + 3) ls st) : RM p l e R s m args below meth c nL (AA ad s.heap.size) (GG D cy ad x) nc ns Q pc ls (.int v :: .ref (ad k c0 j) :: st) := by
  intro H locs la hP hS hl
  obtain ⟨C, T, N, h1, h2, h3⟩ := hf
  obtain ⟨q0, hq, hi⟩ := wl_get (cy := cy) (ad := ad) x hm
  rw [hE] at hq
  have hmem := List.mem_of_getElem? h1
  refine va_put (ci := ci) (T := T) (N := N) (A := AA ad s.heap.size) hc.1.1 hc.1.2.1 hc.1.2.2.2.2 (fwTB _ hmem) _ (ty_of hmem) (nmTB _ hmem) hc.1.2.2.2.1 hc.2.2.2.1 hP (wl_D hc.2.2.2.2.1 AA_in) hS q0 hq h1 f h2 (hc.1.2.2.2.2 _ h3) (fun _ h => h) (hT _ h1).1 (hT _ h1).2 hn hfit hl2 hd (fun H1 locs1 hP1 hD1 hS1 => ?_)
  have e := wl_set (cy := cy) (ad := ad) (x := x) (y := y) hi hs.2
  rw [hs.1] at e
  rw [e] at hP1
  exact kk H1 locs1 la hP1 hS1 hl
theorem rm_aald (hc : CX p s m args meth c cc nL own ret D cy ad) {k c0 j t0 n i : Nat} {cA : ClassId} {C : String} {f : Nat → Option Nat} {iv : Int32} {v : Value} (hd : decode cc pc = .ok (.aaload, 1)) (hm : dm k c0 j) (hE : EE cy ad x k c0 j = .inl (cA, n, .inr (.inr (.inr (.inr f))))) (ht : (tys cy)[t0]? = some (cA, .object C)) (hi : i < n) (hn : n < 2 ^ 31) (hiv : iv = nI i) (hv : va_rf (f i) = v) (kk : RM p l e R s m args below meth c nL A (GG D cy ad x) nc ns Q (pc + 1) ls (v :: st)) : RM p l e R s m args below meth c nL A (GG D cy ad x) nc ns Q pc ls (.int iv :: .ref (ad k c0 j) :: st) := by
  intro H locs la hP hS hl
  obtain ⟨q0, hq, -⟩ := wl_get (cy := cy) (ad := ad) x hm
  rw [hE] at hq
  subst hiv
  refine va_aldq hc.1.1 hc.1.2.1 hc.2.2.2.1 hP q0 t0 hq ht (vp_in_nI hi hn) hd ?_
  rw [nI_clamp (by omega), hv]
  exact kk H locs la hP hS hl
theorem rm_iald (hc : CX p s m args meth c cc nL own ret D cy ad) {k c0 j n i : Nat} {f : Nat → Int32} {iv : Int32} (hd : decode cc pc = .ok (.iaload, 1)) (hm : dm k c0 j) (hE : EE cy ad x k c0 j = .inl (cy 0, n, .inl f)) (hi : i < n) (hn : n < 2 ^ 31) (hiv : iv = nI i) (kk : ∀ v : Int32, v = f i → RM p l e R s m args below meth c nL A (GG D cy ad x) nc ns Q (pc + 1) ls (.int v :: st)) : RM p l e R s m args below meth c nL A (GG D cy ad x) nc ns Q pc ls (.int iv :: .ref (ad k c0 j) :: st) := by
  intro H locs la hP hS hl
  obtain ⟨q0, hq, -⟩ := wl_get (cy := cy) (ad := ad) x hm
  rw [hE] at hq
  subst hiv
  refine va_iald hc.1.1 hc.1.2.1 hc.2.2.2.1 hP q0 0 hq rfl (vp_in_nI hi hn) hd ?_
  rw [nI_clamp (by omega)]
  exact kk _ rfl H locs la hP hS hl
theorem rm_iast (hc : CX p s m args meth c cc nL own ret D cy ad) {k c0 j n i : Nat} {f : Nat → Int32} {iv v : Int32} {y : Mem} (hd : decode cc pc = .ok (.iastore, 1)) (hm : dm k c0 j) (hE : EE cy ad x k c0 j = .inl (cy 0, n, .inl f)) (hi : i < n) (hn : n < 2 ^ 31) (hiv : iv = nI i) (hs : SO cy ad x y k c0 j (.inl (cy 0, n, .inl (upd f i v)))) (kk : RM p l e R s m args below meth c nL (AA ad s.heap.size) (GG D cy ad y) nc ns Q (pc + 1) ls st) : RM p l e R s m args below meth c nL (AA ad s.heap.size) (GG D cy ad x) nc ns Q pc ls (.int v :: .int iv :: .ref (ad k c0 j) :: st) := by
  intro H locs la hP hS hl
  obtain ⟨q0, hq, hix⟩ := wl_get (cy := cy) (ad := ad) x hm
  rw [hE] at hq
  subst hiv
  refine va_iast (A := AA ad s.heap.size) hc.1.1 hc.1.2.1 hc.2.2.2.1 hP (wl_D hc.2.2.2.2.1 AA_in) hS q0 0 hq rfl (vp_in_nI hi hn) hd (fun H1 locs1 hP1 hD1 hS1 => ?_)
  rw [nI_clamp (by omega)] at hP1
  have e := wl_set (cy := cy) (ad := ad) (x := x) (y := y) hix hs.2
  rw [hs.1] at e
  rw [e] at hP1
  exact kk H1 locs1 la hP1 hS1 hl
theorem rm_alen (hc : CX p s m args meth c cc nL own ret D cy ad) {k c0 j n t0 : Nat} {cA : ClassId} {ty : FieldType} {z : vp_A} {v : Int32} (hd : decode cc pc = .ok (.arraylength, 1)) (hm : dm k c0 j) (hE : EE cy ad x k c0 j = .inl (cA, z)) (ht : (tys cy)[t0]? = some (cA, ty)) (hv : Int32.ofNat z.1 = v) (kk : RM p l e R s m args below meth c nL A (GG D cy ad x) nc ns Q (pc + 1) ls (.int v :: st)) : RM p l e R s m args below meth c nL A (GG D cy ad x) nc ns Q pc ls (.ref (ad k c0 j) :: st) := by
  intro H locs la hP hS hl
  obtain ⟨q0, hq, -⟩ := wl_get (cy := cy) (ad := ad) x hm
  rw [hE] at hq
  exact va_alen hc.1.1 hc.1.2.1 hc.2.2.2.1 hP q0 t0 hq ht hv hd (kk H locs la hP hS hl)
theorem rm_iret (hc : CX p s m args meth c cc nL own (some .int) D cy ad) {v : Int32} {post : Int32 → Mem → Prop} (hd : decode cc pc = .ok (.ireturn, 1)) (hp : post v x) : RM p l e R s m args below meth c nL (AA ad s.heap.size) (GG D cy ad x) 0 0 (QQ (Qi D cy ad post) below args s ad) pc ls [.int v] := by
  intro H locs la hP hS hl
  have hlk : meth.locks = false := hc.2.2.1
  exact W.iret hc.1.1 hc.1.2.1 hc.2.1 (fun t ht hW => ⟨⟨v, x, rfl, hp, by show va_P D vwCl (wl cy ad x) t.heap; rw [ht]; exact hP⟩, hS.F ht⟩) hS.2.2 hd
theorem rm_lret (hc : CX p s m args meth c cc nL own (some .long) D cy ad) {v : Int64} {post : Int64 → Mem → Prop} (hd : decode cc pc = .ok (.lreturn, 1)) (hp : post v x) : RM p l e R s m args below meth c nL (AA ad s.heap.size) (GG D cy ad x) 0 0 (QQ (Ql D cy ad post) below args s ad) pc ls [.long v] := by
  intro H locs la hP hS hl
  have hlk : meth.locks = false := hc.2.2.1
  exact W.lret hc.1.1 hc.1.2.1 hc.2.1 (fun t ht hW => ⟨⟨v, x, rfl, hp, by show va_P D vwCl (wl cy ad x) t.heap; rw [ht]; exact hP⟩, hS.F ht⟩) hS.2.2 hd
theorem rm_dret (hc : CX p s m args meth c cc nL own (some .double) D cy ad) {v : UInt64} {post : UInt64 → Mem → Prop} (hd : decode cc pc = .ok (.dreturn, 1)) (hp : post v x) : RM p l e R s m args below meth c nL (AA ad s.heap.size) (GG D cy ad x) 0 0 (QQ (Qd D cy ad post) below args s ad) pc ls [.double v] := by
  intro H locs la hP hS hl
  have hlk : meth.locks = false := hc.2.2.1
  exact W.dret hc.1.1 hc.1.2.1 hc.2.1 (fun t ht hW => ⟨⟨v, x, rfl, hp, by show va_P D vwCl (wl cy ad x) t.heap; rw [ht]; exact hP⟩, hS.F ht⟩) hS.2.2 hd
theorem rm_zret (hc : CX p s m args meth c cc nL own (some .boolean) D cy ad) {v : Int32} {post : Int32 → Mem → Prop} (hd : decode cc pc = .ok (.ireturn, 1)) (hn : narrow .boolean (.int v) = .int v) (hp : post v x) : RM p l e R s m args below meth c nL (AA ad s.heap.size) (GG D cy ad x) 0 0 (QQ (Qi D cy ad post) below args s ad) pc ls [.int v] := by
  intro H locs la hP hS hl
  have hlk : meth.locks = false := hc.2.2.1
  exact W.zret hc.1.1 hc.1.2.1 hc.2.1 hn (fun t ht hW => ⟨⟨v, x, rfl, hp, by show va_P D vwCl (wl cy ad x) t.heap; rw [ht]; exact hP⟩, hS.F ht⟩) hS.2.2 hd
theorem rm_vret (hc : CX p s m args meth c cc nL own none D cy ad) {post : Mem → Prop} (hd : decode cc pc = .ok (.return_, 1)) (hp : post x) : RM p l e R s m args below meth c nL (AA ad s.heap.size) (GG D cy ad x) 0 0 (QQ (Qv D cy ad post) below args s ad) pc ls [] := by
  intro H locs la hP hS hl
  have hlk : meth.locks = false := hc.2.2.1
  exact W.vret hc.1.1 hc.1.2.1 hc.2.1 (fun t ht hW => ⟨⟨x, rfl, hp, by show va_P D vwCl (wl cy ad x) t.heap; rw [ht]; exact hP⟩, hS.F ht⟩) hS.2.2 hd
/-- a method that is called by the entry 'index' of own's file -/
def ML (own : String) (index : Nat) (y : MethodName) (bytes : ByteArray) (maxL : Nat) (rt : Option FieldType) (n : Nat) : Prop := Cond.methodLink own index y ∈ TB ∧ Cond.initialized y.cls ∈ TB ∧ Cond.code y bytes maxL rt ∈ TB ∧ (y.cls ≠ "java/lang/invoke/MethodHandle" ∧ y.cls ≠ "java/lang/invoke/VarHandle" ∧ (parseMethodDescriptor y.desc).map (fun d => d.parameters.length) = some n)
def MV (own : String) (index : Nat) (y : MethodName) (bytes : ByteArray) (maxL : Nat) (rt : Option FieldType) (n : Nat) : Prop := ML own index y bytes maxL rt n ∧ Cond.instanceMethod y ∈ TB ∧ Cond.selects y.cls y y ∈ TB
def MS (own : String) (index : Nat) (y : MethodName) (bytes : ByteArray) (maxL : Nat) (rt : Option FieldType) (n : Nat) : Prop := ML own index y bytes maxL rt n ∧ Cond.static y ∈ TB
def MN (own : String) (index : Nat) (y : MethodName) (host : String) (bytes : ByteArray) (maxL : Nat) (rt : Option FieldType) (n : Nat) : Prop := ((own, index, y, host) ∈ nestL ∧ Cond.initialized y.cls ∈ TB ∧ Cond.code y bytes maxL rt ∈ TB ∧ (y.cls ≠ "java/lang/invoke/MethodHandle" ∧ y.cls ≠ "java/lang/invoke/VarHandle" ∧ (parseMethodDescriptor y.desc).map (fun d => d.parameters.length) = some n)) ∧ Cond.static y ∈ TB
def RmOk (rm R : Room) (maxL : Nat) : Prop := (rm.cells = 0 ∧ rm.slots = 0) ∧ rm.frames + 1 ≤ R.frames ∧ 8 + (maxL + 11) + rm.locals ≤ R.locals
theorem rm_calliV (hc : CX p s m args meth c cc nL own ret D cy ad) {y0 : MethodName} {bytes : ByteArray} {maxL n : Nat} {rt : Option FieldType} {rm : Room} {index : Nat} {As rest : List Value} {post : Int32 → Mem → Prop} {k c0 j ci N : Nat} {T : u_T} {fs : List Value} (hd : decode cc pc = .ok (.invokevirtual index, 3)) (hC : Cti l y0 bytes maxL rt rm D cy ad (.ref (ad k c0 j) :: As) x post) (hL : MV own index y0 bytes maxL rt n) (hm : dm k c0 j) (hE : EE cy ad x k c0 j = .inr (ci, fs)) (hcl : vwCl[ci]? = some (y0.cls, T, N)) (hn : As.length = n) (hst : st = As.reverse ++ .ref (ad k c0 j) :: rest) (hw : (rest.map fun v => v.category).sum ≤ 8) (hR : RmOk rm R maxL) (hnc : nc ≤ R.cells ∧ ns ≤ R.slots) (kk : ∀ (r : Int32) (y : Mem), post r y → RM p l e R s m args below meth c nL (AA ad s.heap.size) (GG D cy ad y) nc ns Q (pc + 3) ls (.int r :: rest)) : RM p l e R s m args below meth c nL (AA ad s.heap.size) (GG D cy ad x) nc ns Q pc ls st := by
  intro H locs la hP hS hl
  subst hst
  have hF : ∀ q, AA ad H.size q → AA ad s.heap.size q := fun q h => h.elim Or.inl (fun h => Or.inr (Nat.le_trans hS.1 h))
  obtain ⟨q0, hq, -⟩ := wl_get (cy := cy) (ad := ad) x hm
  rw [hE] at hq
  have cw : CallW R s args own y0.cls index y0 bytes maxL rt (.code y0 bytes maxL rt :: TB) rm 0 0 n := ⟨callB_of n hc.1.2.2.2.2 (goodTB hL.1.2.2.1) rfl hR.1.1 hR.1.2 (hc.1.2.2.2.2 _ hL.1.2.1) (hc.1.2.2.2.2 _ hL.1.1) hL.1.2.2.2 hR.2, hc.1.2.2.2.2 _ hL.2.1, hc.1.2.2.2.2 _ hL.2.2⟩
  exact va_calli (va_runV (As := As) (rest := rest) hc.1 (hC H.size) cw ⟨fun a U g mk q => by obtain ⟨q0, q1, qP, qK, qN⟩ := q; exact ⟨q0, q1, qP, va_K.moved (u := U) (U := U.calling g mk a) (Vm.Alike.refl U.vm) qK, NW.same (u := U) (U := U.calling g mk a) rfl qN⟩, va_recv hc.2.2.2.1 hP hcl hq, fun U hU hW => ⟨rfl, by rw [hU], by rw [hU]; exact hP, va_K.moved hW.alike hc.2.2.2.1, hc.2.2.2.2.2.warm hW⟩⟩ rfl hn hl.1 rfl (lv_room hw) hd ⟨hnc.1, hnc.2⟩) (hS) (fun q _ h => hF q h) hF (fun r u t H1 locs1 ht hvm hw hB hz1 hk1 hS1 => kk r u hw H1 locs1 la (by rw [← ht]; exact hB) hS1 hl)
theorem rm_calliS (hc : CX p s m args meth c cc nL own ret D cy ad) {y0 : MethodName} {bytes : ByteArray} {maxL n : Nat} {rt : Option FieldType} {rm : Room} {index : Nat} {As rest : List Value} {post : Int32 → Mem → Prop} (hd : decode cc pc = .ok (.invokestatic index, 3)) (hC : Cti l y0 bytes maxL rt rm D cy ad As x post) (hL : MS own index y0 bytes maxL rt n) (hn : As.length = n) (hst : st = As.reverse ++ rest) (hw : (rest.map fun v => v.category).sum ≤ 8) (hR : RmOk rm R maxL) (hnc : nc ≤ R.cells ∧ ns ≤ R.slots) (kk : ∀ (r : Int32) (y : Mem), post r y → RM p l e R s m args below meth c nL (AA ad s.heap.size) (GG D cy ad y) nc ns Q (pc + 3) ls (.int r :: rest)) : RM p l e R s m args below meth c nL (AA ad s.heap.size) (GG D cy ad x) nc ns Q pc ls st := by
  intro H locs la hP hS hl
  subst hst
  have hF : ∀ q, AA ad H.size q → AA ad s.heap.size q := fun q h => h.elim Or.inl (fun h => Or.inr (Nat.le_trans hS.1 h))
  exact va_calli (va_runS (As := As) (rest := rest) hc.1 (hC H.size) ⟨callB_of n hc.1.2.2.2.2 (goodTB hL.1.2.2.1) rfl hR.1.1 hR.1.2 (hc.1.2.2.2.2 _ hL.1.2.1) (hc.1.2.2.2.2 _ hL.1.1) hL.1.2.2.2 hR.2, hc.1.2.2.2.2 _ hL.2⟩ ⟨fun a U g mk q => by obtain ⟨q0, q1, qP, qK, qN⟩ := q; exact ⟨q0, q1, qP, va_K.moved (u := U) (U := U.calling g mk a) (Vm.Alike.refl U.vm) qK, NW.same (u := U) (U := U.calling g mk a) rfl qN⟩, fun U hU hW => ⟨rfl, by rw [hU], by rw [hU]; exact hP, va_K.moved hW.alike hc.2.2.2.1, hc.2.2.2.2.2.warm hW⟩⟩ rfl hn hl.1 rfl (lv_room hw) hd ⟨hnc.1, hnc.2⟩) (hS) (fun q _ h => hF q h) hF (fun r u t H1 locs1 ht hvm hw hB hz1 hk1 hS1 => kk r u hw H1 locs1 la (by rw [← ht]; exact hB) hS1 hl)
theorem rm_calliN (hc : CX p s m args meth c cc nL own ret D cy ad) {y0 : MethodName} {bytes : ByteArray} {maxL n : Nat} {rt : Option FieldType} {rm : Room} {index : Nat} {As rest : List Value} {post : Int32 → Mem → Prop} {host : String} (hd : decode cc pc = .ok (.invokestatic index, 3)) (hC : Cti l y0 bytes maxL rt rm D cy ad As x post) (hL : MN own index y0 host bytes maxL rt n) (hn : As.length = n) (hst : st = As.reverse ++ rest) (hw : (rest.map fun v => v.category).sum ≤ 8) (hR : RmOk rm R maxL) (hnc : nc ≤ R.cells ∧ ns ≤ R.slots) (kk : ∀ (r : Int32) (y : Mem), post r y → RM p l e R s m args below meth c nL (AA ad s.heap.size) (GG D cy ad y) nc ns Q (pc + 3) ls (.int r :: rest)) : RM p l e R s m args below meth c nL (AA ad s.heap.size) (GG D cy ad x) nc ns Q pc ls st := by
  intro H locs la hP hS hl
  subst hst
  have hF : ∀ q, AA ad H.size q → AA ad s.heap.size q := fun q h => h.elim Or.inl (fun h => Or.inr (Nat.le_trans hS.1 h))
  exact va_calli (va_runSN (As := As) (rest := rest) hc.1 (hC H.size) ⟨va_cnB n hc.1.2.2.2.2 (goodTB hL.1.2.2.1) rfl hR.1.1 hR.1.2 (hc.2.2.2.2.2 _ hL.1.1) (hc.1.2.2.2.2 _ hL.1.2.1) hL.1.2.2.2 hR.2, hc.1.2.2.2.2 _ hL.2, trivial⟩ ⟨fun a U g mk q => by obtain ⟨q0, q1, qP, qK, qN⟩ := q; exact ⟨q0, q1, qP, va_K.moved (u := U) (U := U.calling g mk a) (Vm.Alike.refl U.vm) qK, NW.same (u := U) (U := U.calling g mk a) rfl qN⟩, fun U hU hW => ⟨rfl, by rw [hU], by rw [hU]; exact hP, va_K.moved hW.alike hc.2.2.2.1, hc.2.2.2.2.2.warm hW⟩⟩ rfl hn hl.1 rfl (lv_room hw) hd ⟨hnc.1, hnc.2⟩) (hS) (fun q _ h => hF q h) hF (fun r u t H1 locs1 ht hvm hw hB hz1 hk1 hS1 => kk r u hw H1 locs1 la (by rw [← ht]; exact hB) hS1 hl)
theorem rm_calllV (hc : CX p s m args meth c cc nL own ret D cy ad) {y0 : MethodName} {bytes : ByteArray} {maxL n : Nat} {rt : Option FieldType} {rm : Room} {index : Nat} {As rest : List Value} {post : Int64 → Mem → Prop} {k c0 j ci N : Nat} {T : u_T} {fs : List Value} (hd : decode cc pc = .ok (.invokevirtual index, 3)) (hC : Ctl l y0 bytes maxL rt rm D cy ad (.ref (ad k c0 j) :: As) x post) (hL : MV own index y0 bytes maxL rt n) (hm : dm k c0 j) (hE : EE cy ad x k c0 j = .inr (ci, fs)) (hcl : vwCl[ci]? = some (y0.cls, T, N)) (hn : As.length = n) (hst : st = As.reverse ++ .ref (ad k c0 j) :: rest) (hw : (rest.map fun v => v.category).sum ≤ 8) (hR : RmOk rm R maxL) (hnc : nc ≤ R.cells ∧ ns ≤ R.slots) (kk : ∀ (r : Int64) (y : Mem), post r y → RM p l e R s m args below meth c nL (AA ad s.heap.size) (GG D cy ad y) nc ns Q (pc + 3) ls (.long r :: rest)) : RM p l e R s m args below meth c nL (AA ad s.heap.size) (GG D cy ad x) nc ns Q pc ls st := by
  intro H locs la hP hS hl
  subst hst
  have hF : ∀ q, AA ad H.size q → AA ad s.heap.size q := fun q h => h.elim Or.inl (fun h => Or.inr (Nat.le_trans hS.1 h))
  obtain ⟨q0, hq, -⟩ := wl_get (cy := cy) (ad := ad) x hm
  rw [hE] at hq
  have cw : CallW R s args own y0.cls index y0 bytes maxL rt (.code y0 bytes maxL rt :: TB) rm 0 0 n := ⟨callB_of n hc.1.2.2.2.2 (goodTB hL.1.2.2.1) rfl hR.1.1 hR.1.2 (hc.1.2.2.2.2 _ hL.1.2.1) (hc.1.2.2.2.2 _ hL.1.1) hL.1.2.2.2 hR.2, hc.1.2.2.2.2 _ hL.2.1, hc.1.2.2.2.2 _ hL.2.2⟩
  exact va_calll (va_runV (As := As) (rest := rest) hc.1 (hC H.size) cw ⟨fun a U g mk q => by obtain ⟨q0, q1, qP, qK, qN⟩ := q; exact ⟨q0, q1, qP, va_K.moved (u := U) (U := U.calling g mk a) (Vm.Alike.refl U.vm) qK, NW.same (u := U) (U := U.calling g mk a) rfl qN⟩, va_recv hc.2.2.2.1 hP hcl hq, fun U hU hW => ⟨rfl, by rw [hU], by rw [hU]; exact hP, va_K.moved hW.alike hc.2.2.2.1, hc.2.2.2.2.2.warm hW⟩⟩ rfl hn hl.1 rfl (lv_room hw) hd ⟨hnc.1, hnc.2⟩) (hS) (fun q _ h => hF q h) hF (fun r u t H1 locs1 ht hvm hw hB hz1 hk1 hS1 => kk r u hw H1 locs1 la (by rw [← ht]; exact hB) hS1 hl)
theorem rm_calllS (hc : CX p s m args meth c cc nL own ret D cy ad) {y0 : MethodName} {bytes : ByteArray} {maxL n : Nat} {rt : Option FieldType} {rm : Room} {index : Nat} {As rest : List Value} {post : Int64 → Mem → Prop} (hd : decode cc pc = .ok (.invokestatic index, 3)) (hC : Ctl l y0 bytes maxL rt rm D cy ad As x post) (hL : MS own index y0 bytes maxL rt n) (hn : As.length = n) (hst : st = As.reverse ++ rest) (hw : (rest.map fun v => v.category).sum ≤ 8) (hR : RmOk rm R maxL) (hnc : nc ≤ R.cells ∧ ns ≤ R.slots) (kk : ∀ (r : Int64) (y : Mem), post r y → RM p l e R s m args below meth c nL (AA ad s.heap.size) (GG D cy ad y) nc ns Q (pc + 3) ls (.long r :: rest)) : RM p l e R s m args below meth c nL (AA ad s.heap.size) (GG D cy ad x) nc ns Q pc ls st := by
  intro H locs la hP hS hl
  subst hst
  have hF : ∀ q, AA ad H.size q → AA ad s.heap.size q := fun q h => h.elim Or.inl (fun h => Or.inr (Nat.le_trans hS.1 h))
  exact va_calll (va_runS (As := As) (rest := rest) hc.1 (hC H.size) ⟨callB_of n hc.1.2.2.2.2 (goodTB hL.1.2.2.1) rfl hR.1.1 hR.1.2 (hc.1.2.2.2.2 _ hL.1.2.1) (hc.1.2.2.2.2 _ hL.1.1) hL.1.2.2.2 hR.2, hc.1.2.2.2.2 _ hL.2⟩ ⟨fun a U g mk q => by obtain ⟨q0, q1, qP, qK, qN⟩ := q; exact ⟨q0, q1, qP, va_K.moved (u := U) (U := U.calling g mk a) (Vm.Alike.refl U.vm) qK, NW.same (u := U) (U := U.calling g mk a) rfl qN⟩, fun U hU hW => ⟨rfl, by rw [hU], by rw [hU]; exact hP, va_K.moved hW.alike hc.2.2.2.1, hc.2.2.2.2.2.warm hW⟩⟩ rfl hn hl.1 rfl (lv_room hw) hd ⟨hnc.1, hnc.2⟩) (hS) (fun q _ h => hF q h) hF (fun r u t H1 locs1 ht hvm hw hB hz1 hk1 hS1 => kk r u hw H1 locs1 la (by rw [← ht]; exact hB) hS1 hl)
theorem rm_calldV (hc : CX p s m args meth c cc nL own ret D cy ad) {y0 : MethodName} {bytes : ByteArray} {maxL n : Nat} {rt : Option FieldType} {rm : Room} {index : Nat} {As rest : List Value} {post : UInt64 → Mem → Prop} {k c0 j ci N : Nat} {T : u_T} {fs : List Value} (hd : decode cc pc = .ok (.invokevirtual index, 3)) (hC : Ctd l y0 bytes maxL rt rm D cy ad (.ref (ad k c0 j) :: As) x post) (hL : MV own index y0 bytes maxL rt n) (hm : dm k c0 j) (hE : EE cy ad x k c0 j = .inr (ci, fs)) (hcl : vwCl[ci]? = some (y0.cls, T, N)) (hn : As.length = n) (hst : st = As.reverse ++ .ref (ad k c0 j) :: rest) (hw : (rest.map fun v => v.category).sum ≤ 8) (hR : RmOk rm R maxL) (hnc : nc ≤ R.cells ∧ ns ≤ R.slots) (kk : ∀ (r : UInt64) (y : Mem), post r y → RM p l e R s m args below meth c nL (AA ad s.heap.size) (GG D cy ad y) nc ns Q (pc + 3) ls (.double r :: rest)) : RM p l e R s m args below meth c nL (AA ad s.heap.size) (GG D cy ad x) nc ns Q pc ls st := by
  intro H locs la hP hS hl
  subst hst
  have hF : ∀ q, AA ad H.size q → AA ad s.heap.size q := fun q h => h.elim Or.inl (fun h => Or.inr (Nat.le_trans hS.1 h))
  obtain ⟨q0, hq, -⟩ := wl_get (cy := cy) (ad := ad) x hm
  rw [hE] at hq
  have cw : CallW R s args own y0.cls index y0 bytes maxL rt (.code y0 bytes maxL rt :: TB) rm 0 0 n := ⟨callB_of n hc.1.2.2.2.2 (goodTB hL.1.2.2.1) rfl hR.1.1 hR.1.2 (hc.1.2.2.2.2 _ hL.1.2.1) (hc.1.2.2.2.2 _ hL.1.1) hL.1.2.2.2 hR.2, hc.1.2.2.2.2 _ hL.2.1, hc.1.2.2.2.2 _ hL.2.2⟩
  exact va_calld (va_runV (As := As) (rest := rest) hc.1 (hC H.size) cw ⟨fun a U g mk q => by obtain ⟨q0, q1, qP, qK, qN⟩ := q; exact ⟨q0, q1, qP, va_K.moved (u := U) (U := U.calling g mk a) (Vm.Alike.refl U.vm) qK, NW.same (u := U) (U := U.calling g mk a) rfl qN⟩, va_recv hc.2.2.2.1 hP hcl hq, fun U hU hW => ⟨rfl, by rw [hU], by rw [hU]; exact hP, va_K.moved hW.alike hc.2.2.2.1, hc.2.2.2.2.2.warm hW⟩⟩ rfl hn hl.1 rfl (lv_room hw) hd ⟨hnc.1, hnc.2⟩) (hS) (fun q _ h => hF q h) hF (fun r u t H1 locs1 ht hvm hw hB hz1 hk1 hS1 => kk r u hw H1 locs1 la (by rw [← ht]; exact hB) hS1 hl)
theorem rm_calldS (hc : CX p s m args meth c cc nL own ret D cy ad) {y0 : MethodName} {bytes : ByteArray} {maxL n : Nat} {rt : Option FieldType} {rm : Room} {index : Nat} {As rest : List Value} {post : UInt64 → Mem → Prop} (hd : decode cc pc = .ok (.invokestatic index, 3)) (hC : Ctd l y0 bytes maxL rt rm D cy ad As x post) (hL : MS own index y0 bytes maxL rt n) (hn : As.length = n) (hst : st = As.reverse ++ rest) (hw : (rest.map fun v => v.category).sum ≤ 8) (hR : RmOk rm R maxL) (hnc : nc ≤ R.cells ∧ ns ≤ R.slots) (kk : ∀ (r : UInt64) (y : Mem), post r y → RM p l e R s m args below meth c nL (AA ad s.heap.size) (GG D cy ad y) nc ns Q (pc + 3) ls (.double r :: rest)) : RM p l e R s m args below meth c nL (AA ad s.heap.size) (GG D cy ad x) nc ns Q pc ls st := by
  intro H locs la hP hS hl
  subst hst
  have hF : ∀ q, AA ad H.size q → AA ad s.heap.size q := fun q h => h.elim Or.inl (fun h => Or.inr (Nat.le_trans hS.1 h))
  exact va_calld (va_runS (As := As) (rest := rest) hc.1 (hC H.size) ⟨callB_of n hc.1.2.2.2.2 (goodTB hL.1.2.2.1) rfl hR.1.1 hR.1.2 (hc.1.2.2.2.2 _ hL.1.2.1) (hc.1.2.2.2.2 _ hL.1.1) hL.1.2.2.2 hR.2, hc.1.2.2.2.2 _ hL.2⟩ ⟨fun a U g mk q => by obtain ⟨q0, q1, qP, qK, qN⟩ := q; exact ⟨q0, q1, qP, va_K.moved (u := U) (U := U.calling g mk a) (Vm.Alike.refl U.vm) qK, NW.same (u := U) (U := U.calling g mk a) rfl qN⟩, fun U hU hW => ⟨rfl, by rw [hU], by rw [hU]; exact hP, va_K.moved hW.alike hc.2.2.2.1, hc.2.2.2.2.2.warm hW⟩⟩ rfl hn hl.1 rfl (lv_room hw) hd ⟨hnc.1, hnc.2⟩) (hS) (fun q _ h => hF q h) hF (fun r u t H1 locs1 ht hvm hw hB hz1 hk1 hS1 => kk r u hw H1 locs1 la (by rw [← ht]; exact hB) hS1 hl)
theorem rm_callvV (hc : CX p s m args meth c cc nL own ret D cy ad) {y0 : MethodName} {bytes : ByteArray} {maxL n : Nat} {rt : Option FieldType} {rm : Room} {index : Nat} {As rest : List Value} {post : Mem → Prop} {k c0 j ci N : Nat} {T : u_T} {fs : List Value} (hd : decode cc pc = .ok (.invokevirtual index, 3)) (hC : Ctv l y0 bytes maxL rt rm D cy ad (.ref (ad k c0 j) :: As) x post) (hL : MV own index y0 bytes maxL rt n) (hm : dm k c0 j) (hE : EE cy ad x k c0 j = .inr (ci, fs)) (hcl : vwCl[ci]? = some (y0.cls, T, N)) (hn : As.length = n) (hst : st = As.reverse ++ .ref (ad k c0 j) :: rest) (hw : (rest.map fun v => v.category).sum ≤ 8) (hR : RmOk rm R maxL) (hnc : nc ≤ R.cells ∧ ns ≤ R.slots) (kk : ∀ (y : Mem), post y → RM p l e R s m args below meth c nL (AA ad s.heap.size) (GG D cy ad y) nc ns Q (pc + 3) ls rest) : RM p l e R s m args below meth c nL (AA ad s.heap.size) (GG D cy ad x) nc ns Q pc ls st := by
  intro H locs la hP hS hl
  subst hst
  have hF : ∀ q, AA ad H.size q → AA ad s.heap.size q := fun q h => h.elim Or.inl (fun h => Or.inr (Nat.le_trans hS.1 h))
  obtain ⟨q0, hq, -⟩ := wl_get (cy := cy) (ad := ad) x hm
  rw [hE] at hq
  have cw : CallW R s args own y0.cls index y0 bytes maxL rt (.code y0 bytes maxL rt :: TB) rm 0 0 n := ⟨callB_of n hc.1.2.2.2.2 (goodTB hL.1.2.2.1) rfl hR.1.1 hR.1.2 (hc.1.2.2.2.2 _ hL.1.2.1) (hc.1.2.2.2.2 _ hL.1.1) hL.1.2.2.2 hR.2, hc.1.2.2.2.2 _ hL.2.1, hc.1.2.2.2.2 _ hL.2.2⟩
  exact va_callv (va_runV (As := As) (rest := rest) hc.1 (hC H.size) cw ⟨fun a U g mk q => by obtain ⟨q0, q1, qP, qK, qN⟩ := q; exact ⟨q0, q1, qP, va_K.moved (u := U) (U := U.calling g mk a) (Vm.Alike.refl U.vm) qK, NW.same (u := U) (U := U.calling g mk a) rfl qN⟩, va_recv hc.2.2.2.1 hP hcl hq, fun U hU hW => ⟨rfl, by rw [hU], by rw [hU]; exact hP, va_K.moved hW.alike hc.2.2.2.1, hc.2.2.2.2.2.warm hW⟩⟩ rfl hn hl.1 rfl (lv_room hw) hd ⟨hnc.1, hnc.2⟩) (hS) (fun q _ h => hF q h) hF (fun u t H1 locs1 ht hvm hw hB hz1 hk1 hS1 => kk u hw H1 locs1 la (by rw [← ht]; exact hB) hS1 hl)
theorem rm_callvS (hc : CX p s m args meth c cc nL own ret D cy ad) {y0 : MethodName} {bytes : ByteArray} {maxL n : Nat} {rt : Option FieldType} {rm : Room} {index : Nat} {As rest : List Value} {post : Mem → Prop} (hd : decode cc pc = .ok (.invokestatic index, 3)) (hC : Ctv l y0 bytes maxL rt rm D cy ad As x post) (hL : MS own index y0 bytes maxL rt n) (hn : As.length = n) (hst : st = As.reverse ++ rest) (hw : (rest.map fun v => v.category).sum ≤ 8) (hR : RmOk rm R maxL) (hnc : nc ≤ R.cells ∧ ns ≤ R.slots) (kk : ∀ (y : Mem), post y → RM p l e R s m args below meth c nL (AA ad s.heap.size) (GG D cy ad y) nc ns Q (pc + 3) ls rest) : RM p l e R s m args below meth c nL (AA ad s.heap.size) (GG D cy ad x) nc ns Q pc ls st := by
  intro H locs la hP hS hl
  subst hst
  have hF : ∀ q, AA ad H.size q → AA ad s.heap.size q := fun q h => h.elim Or.inl (fun h => Or.inr (Nat.le_trans hS.1 h))
  exact va_callv (va_runS (As := As) (rest := rest) hc.1 (hC H.size) ⟨callB_of n hc.1.2.2.2.2 (goodTB hL.1.2.2.1) rfl hR.1.1 hR.1.2 (hc.1.2.2.2.2 _ hL.1.2.1) (hc.1.2.2.2.2 _ hL.1.1) hL.1.2.2.2 hR.2, hc.1.2.2.2.2 _ hL.2⟩ ⟨fun a U g mk q => by obtain ⟨q0, q1, qP, qK, qN⟩ := q; exact ⟨q0, q1, qP, va_K.moved (u := U) (U := U.calling g mk a) (Vm.Alike.refl U.vm) qK, NW.same (u := U) (U := U.calling g mk a) rfl qN⟩, fun U hU hW => ⟨rfl, by rw [hU], by rw [hU]; exact hP, va_K.moved hW.alike hc.2.2.2.1, hc.2.2.2.2.2.warm hW⟩⟩ rfl hn hl.1 rfl (lv_room hw) hd ⟨hnc.1, hnc.2⟩) (hS) (fun q _ h => hF q h) hF (fun u t H1 locs1 ht hvm hw hB hz1 hk1 hS1 => kk u hw H1 locs1 la (by rw [← ht]; exact hB) hS1 hl)
end ROWS2
end
section
theorem yk_X8_clearBuffer : Cond.initialized yX8_clearBuffer.cls ∈ TB ∧ Cond.code yX8_clearBuffer cX8_clearBuffer 2 (some .int) ∈ TB ∧ (yX8_clearBuffer.cls ≠ "java/lang/invoke/MethodHandle" ∧ yX8_clearBuffer.cls ≠ "java/lang/invoke/VarHandle" ∧ (parseMethodDescriptor yX8_clearBuffer.desc).map (fun d => d.parameters.length) = some 0) := ⟨tbm (i := 36) (by decide +kernel) (by decide +kernel), tbm (i := 265) (by decide +kernel) (by decide +kernel), by decide +kernel⟩
theorem yk_X8_firstError : Cond.initialized yX8_firstError.cls ∈ TB ∧ Cond.code yX8_firstError cX8_firstError 1 (some .int) ∈ TB ∧ (yX8_firstError.cls ≠ "java/lang/invoke/MethodHandle" ∧ yX8_firstError.cls ≠ "java/lang/invoke/VarHandle" ∧ (parseMethodDescriptor yX8_firstError.desc).map (fun d => d.parameters.length) = some 0) := ⟨tbm (i := 36) (by decide +kernel) (by decide +kernel), tbm (i := 269) (by decide +kernel) (by decide +kernel), by decide +kernel⟩
theorem yk_X7_goodLength : Cond.initialized yX7_goodLength.cls ∈ TB ∧ Cond.code yX7_goodLength cX7_goodLength 3 (some .int) ∈ TB ∧ (yX7_goodLength.cls ≠ "java/lang/invoke/MethodHandle" ∧ yX7_goodLength.cls ≠ "java/lang/invoke/VarHandle" ∧ (parseMethodDescriptor yX7_goodLength.desc).map (fun d => d.parameters.length) = some 0) := ⟨tbm (i := 44) (by decide +kernel) (by decide +kernel), tbm (i := 273) (by decide +kernel) (by decide +kernel), by decide +kernel⟩
theorem yk_X7_code : Cond.initialized yX7_code.cls ∈ TB ∧ Cond.code yX7_code cX7_code 2 (some .int) ∈ TB ∧ (yX7_code.cls ≠ "java/lang/invoke/MethodHandle" ∧ yX7_code.cls ≠ "java/lang/invoke/VarHandle" ∧ (parseMethodDescriptor yX7_code.desc).map (fun d => d.parameters.length) = some 1) := ⟨tbm (i := 44) (by decide +kernel) (by decide +kernel), tbm (i := 277) (by decide +kernel) (by decide +kernel), by decide +kernel⟩
theorem yk_X7_expectedBehind : Cond.initialized yX7_expectedBehind.cls ∈ TB ∧ Cond.code yX7_expectedBehind cX7_expectedBehind 2 (some .int) ∈ TB ∧ (yX7_expectedBehind.cls ≠ "java/lang/invoke/MethodHandle" ∧ yX7_expectedBehind.cls ≠ "java/lang/invoke/VarHandle" ∧ (parseMethodDescriptor yX7_expectedBehind.desc).map (fun d => d.parameters.length) = some 2) := ⟨tbm (i := 44) (by decide +kernel) (by decide +kernel), tbm (i := 280) (by decide +kernel) (by decide +kernel), by decide +kernel⟩
theorem yk_X7_expectedInPart : Cond.initialized yX7_expectedInPart.cls ∈ TB ∧ Cond.code yX7_expectedInPart cX7_expectedInPart 1 (some .int) ∈ TB ∧ (yX7_expectedInPart.cls ≠ "java/lang/invoke/MethodHandle" ∧ yX7_expectedInPart.cls ≠ "java/lang/invoke/VarHandle" ∧ (parseMethodDescriptor yX7_expectedInPart.desc).map (fun d => d.parameters.length) = some 1) := ⟨tbm (i := 44) (by decide +kernel) (by decide +kernel), tbm (i := 283) (by decide +kernel) (by decide +kernel), by decide +kernel⟩
theorem yk_X7_expectedInSet : Cond.initialized yX7_expectedInSet.cls ∈ TB ∧ Cond.code yX7_expectedInSet cX7_expectedInSet 3 (some .int) ∈ TB ∧ (yX7_expectedInSet.cls ≠ "java/lang/invoke/MethodHandle" ∧ yX7_expectedInSet.cls ≠ "java/lang/invoke/VarHandle" ∧ (parseMethodDescriptor yX7_expectedInSet.desc).map (fun d => d.parameters.length) = some 2) := ⟨tbm (i := 44) (by decide +kernel) (by decide +kernel), tbm (i := 286) (by decide +kernel) (by decide +kernel), by decide +kernel⟩
theorem yk_X8_openShare : Cond.initialized yX8_openShare.cls ∈ TB ∧ Cond.code yX8_openShare cX8_openShare 3 (some .double) ∈ TB ∧ (yX8_openShare.cls ≠ "java/lang/invoke/MethodHandle" ∧ yX8_openShare.cls ≠ "java/lang/invoke/VarHandle" ∧ (parseMethodDescriptor yX8_openShare.desc).map (fun d => d.parameters.length) = some 0) := ⟨tbm (i := 36) (by decide +kernel) (by decide +kernel), tbm (i := 290) (by decide +kernel) (by decide +kernel), by decide +kernel⟩
theorem yk_X6_timesOpened : Cond.initialized yX6_timesOpened.cls ∈ TB ∧ Cond.code yX6_timesOpened cX6_timesOpened 6 (some .int) ∈ TB ∧ (yX6_timesOpened.cls ≠ "java/lang/invoke/MethodHandle" ∧ yX6_timesOpened.cls ≠ "java/lang/invoke/VarHandle" ∧ (parseMethodDescriptor yX6_timesOpened.desc).map (fun d => d.parameters.length) = some 0) := ⟨tbm (i := 37) (by decide +kernel) (by decide +kernel), tbm (i := 294) (by decide +kernel) (by decide +kernel), by decide +kernel⟩
theorem yk_X6_wrongNumbers : Cond.initialized yX6_wrongNumbers.cls ∈ TB ∧ Cond.code yX6_wrongNumbers cX6_wrongNumbers 6 (some .int) ∈ TB ∧ (yX6_wrongNumbers.cls ≠ "java/lang/invoke/MethodHandle" ∧ yX6_wrongNumbers.cls ≠ "java/lang/invoke/VarHandle" ∧ (parseMethodDescriptor yX6_wrongNumbers.desc).map (fun d => d.parameters.length) = some 0) := ⟨tbm (i := 37) (by decide +kernel) (by decide +kernel), tbm (i := 298) (by decide +kernel) (by decide +kernel), by decide +kernel⟩
theorem yk_X8_digest : Cond.initialized yX8_digest.cls ∈ TB ∧ Cond.code yX8_digest cX8_digest 8 (some .long) ∈ TB ∧ (yX8_digest.cls ≠ "java/lang/invoke/MethodHandle" ∧ yX8_digest.cls ≠ "java/lang/invoke/VarHandle" ∧ (parseMethodDescriptor yX8_digest.desc).map (fun d => d.parameters.length) = some 0) := ⟨tbm (i := 36) (by decide +kernel) (by decide +kernel), tbm (i := 302) (by decide +kernel) (by decide +kernel), by decide +kernel⟩
theorem yk_X8_counted : Cond.initialized yX8_counted.cls ∈ TB ∧ Cond.code yX8_counted cX8_counted 2 (some .int) ∈ TB ∧ (yX8_counted.cls ≠ "java/lang/invoke/MethodHandle" ∧ yX8_counted.cls ≠ "java/lang/invoke/VarHandle" ∧ (parseMethodDescriptor yX8_counted.desc).map (fun d => d.parameters.length) = some 1) := ⟨tbm (i := 36) (by decide +kernel) (by decide +kernel), tbm (i := 307) (by decide +kernel) (by decide +kernel), by decide +kernel⟩
theorem yk_X6_presses : Cond.initialized yX6_presses.cls ∈ TB ∧ Cond.code yX6_presses cX6_presses 6 (some .int) ∈ TB ∧ (yX6_presses.cls ≠ "java/lang/invoke/MethodHandle" ∧ yX6_presses.cls ≠ "java/lang/invoke/VarHandle" ∧ (parseMethodDescriptor yX6_presses.desc).map (fun d => d.parameters.length) = some 0) := ⟨tbm (i := 37) (by decide +kernel) (by decide +kernel), tbm (i := 311) (by decide +kernel) (by decide +kernel), by decide +kernel⟩
theorem yk_X6_openDoors : Cond.initialized yX6_openDoors.cls ∈ TB ∧ Cond.code yX6_openDoors cX6_openDoors 6 (some .int) ∈ TB ∧ (yX6_openDoors.cls ≠ "java/lang/invoke/MethodHandle" ∧ yX6_openDoors.cls ≠ "java/lang/invoke/VarHandle" ∧ (parseMethodDescriptor yX6_openDoors.desc).map (fun d => d.parameters.length) = some 0) := ⟨tbm (i := 37) (by decide +kernel) (by decide +kernel), tbm (i := 315) (by decide +kernel) (by decide +kernel), by decide +kernel⟩
theorem yk_X6_lockedDoors : Cond.initialized yX6_lockedDoors.cls ∈ TB ∧ Cond.code yX6_lockedDoors cX6_lockedDoors 6 (some .int) ∈ TB ∧ (yX6_lockedDoors.cls ≠ "java/lang/invoke/MethodHandle" ∧ yX6_lockedDoors.cls ≠ "java/lang/invoke/VarHandle" ∧ (parseMethodDescriptor yX6_lockedDoors.desc).map (fun d => d.parameters.length) = some 0) := ⟨tbm (i := 37) (by decide +kernel) (by decide +kernel), tbm (i := 319) (by decide +kernel) (by decide +kernel), by decide +kernel⟩
theorem yk_X1_isLocked : Cond.initialized yX1_isLocked.cls ∈ TB ∧ Cond.code yX1_isLocked cX1_isLocked 2 (some .boolean) ∈ TB ∧ (yX1_isLocked.cls ≠ "java/lang/invoke/MethodHandle" ∧ yX1_isLocked.cls ≠ "java/lang/invoke/VarHandle" ∧ (parseMethodDescriptor yX1_isLocked.desc).map (fun d => d.parameters.length) = some 1) := ⟨tbm (i := 39) (by decide +kernel) (by decide +kernel), tbm (i := 323) (by decide +kernel) (by decide +kernel), by decide +kernel⟩
theorem yk_X8_mixed : Cond.initialized yX8_mixed.cls ∈ TB ∧ Cond.code yX8_mixed cX8_mixed 4 (some .long) ∈ TB ∧ (yX8_mixed.cls ≠ "java/lang/invoke/MethodHandle" ∧ yX8_mixed.cls ≠ "java/lang/invoke/VarHandle" ∧ (parseMethodDescriptor yX8_mixed.desc).map (fun d => d.parameters.length) = some 2) := ⟨tbm (i := 36) (by decide +kernel) (by decide +kernel), tbm (i := 326) (by decide +kernel) (by decide +kernel), by decide +kernel⟩
theorem yk_X4_value : Cond.initialized yX4_value.cls ∈ TB ∧ Cond.code yX4_value cX4_value 2 (some .int) ∈ TB ∧ (yX4_value.cls ≠ "java/lang/invoke/MethodHandle" ∧ yX4_value.cls ≠ "java/lang/invoke/VarHandle" ∧ (parseMethodDescriptor yX4_value.desc).map (fun d => d.parameters.length) = some 1) := ⟨tbm (i := 42) (by decide +kernel) (by decide +kernel), tbm (i := 331) (by decide +kernel) (by decide +kernel), by decide +kernel⟩
theorem yk_X2_look : Cond.initialized yX2_look.cls ∈ TB ∧ Cond.code yX2_look cX2_look 2 (some .int) ∈ TB ∧ (yX2_look.cls ≠ "java/lang/invoke/MethodHandle" ∧ yX2_look.cls ≠ "java/lang/invoke/VarHandle" ∧ (parseMethodDescriptor yX2_look.desc).map (fun d => d.parameters.length) = some 1) := ⟨tbm (i := 38) (by decide +kernel) (by decide +kernel), tbm (i := 335) (by decide +kernel) (by decide +kernel), by decide +kernel⟩
theorem yk_X8_counterBehind : Cond.initialized yX8_counterBehind.cls ∈ TB ∧ Cond.code yX8_counterBehind cX8_counterBehind 1 (some .int) ∈ TB ∧ (yX8_counterBehind.cls ≠ "java/lang/invoke/MethodHandle" ∧ yX8_counterBehind.cls ≠ "java/lang/invoke/VarHandle" ∧ (parseMethodDescriptor yX8_counterBehind.desc).map (fun d => d.parameters.length) = some 1) := ⟨tbm (i := 36) (by decide +kernel) (by decide +kernel), tbm (i := 338) (by decide +kernel) (by decide +kernel), by decide +kernel⟩
theorem yk_X8_numberOf : Cond.initialized yX8_numberOf.cls ∈ TB ∧ Cond.code yX8_numberOf cX8_numberOf 2 (some .int) ∈ TB ∧ (yX8_numberOf.cls ≠ "java/lang/invoke/MethodHandle" ∧ yX8_numberOf.cls ≠ "java/lang/invoke/VarHandle" ∧ (parseMethodDescriptor yX8_numberOf.desc).map (fun d => d.parameters.length) = some 2) := ⟨tbm (i := 36) (by decide +kernel) (by decide +kernel), tbm (i := 341) (by decide +kernel) (by decide +kernel), by decide +kernel⟩
theorem yk_X8_mixedDoor : Cond.initialized yX8_mixedDoor.cls ∈ TB ∧ Cond.code yX8_mixedDoor cX8_mixedDoor 11 (some .long) ∈ TB ∧ (yX8_mixedDoor.cls ≠ "java/lang/invoke/MethodHandle" ∧ yX8_mixedDoor.cls ≠ "java/lang/invoke/VarHandle" ∧ (parseMethodDescriptor yX8_mixedDoor.desc).map (fun d => d.parameters.length) = some 2) := ⟨tbm (i := 36) (by decide +kernel) (by decide +kernel), tbm (i := 347) (by decide +kernel) (by decide +kernel), by decide +kernel⟩
theorem yk_X1_look : Cond.initialized yX1_look.cls ∈ TB ∧ Cond.code yX1_look cX1_look 3 (some .int) ∈ TB ∧ (yX1_look.cls ≠ "java/lang/invoke/MethodHandle" ∧ yX1_look.cls ≠ "java/lang/invoke/VarHandle" ∧ (parseMethodDescriptor yX1_look.desc).map (fun d => d.parameters.length) = some 2) := ⟨tbm (i := 39) (by decide +kernel) (by decide +kernel), tbm (i := 351) (by decide +kernel) (by decide +kernel), by decide +kernel⟩
theorem yk_X1_learntSlots : Cond.initialized yX1_learntSlots.cls ∈ TB ∧ Cond.code yX1_learntSlots cX1_learntSlots 6 (some .int) ∈ TB ∧ (yX1_learntSlots.cls ≠ "java/lang/invoke/MethodHandle" ∧ yX1_learntSlots.cls ≠ "java/lang/invoke/VarHandle" ∧ (parseMethodDescriptor yX1_learntSlots.desc).map (fun d => d.parameters.length) = some 0) := ⟨tbm (i := 39) (by decide +kernel) (by decide +kernel), tbm (i := 356) (by decide +kernel) (by decide +kernel), by decide +kernel⟩
theorem yk_X5_look : Cond.initialized yX5_look.cls ∈ TB ∧ Cond.code yX5_look cX5_look 2 (some .int) ∈ TB ∧ (yX5_look.cls ≠ "java/lang/invoke/MethodHandle" ∧ yX5_look.cls ≠ "java/lang/invoke/VarHandle" ∧ (parseMethodDescriptor yX5_look.desc).map (fun d => d.parameters.length) = some 1) := ⟨tbm (i := 40) (by decide +kernel) (by decide +kernel), tbm (i := 360) (by decide +kernel) (by decide +kernel), by decide +kernel⟩
theorem yk_X8_firstUseful : Cond.initialized yX8_firstUseful.cls ∈ TB ∧ Cond.code yX8_firstUseful cX8_firstUseful 3 (some .int) ∈ TB ∧ (yX8_firstUseful.cls ≠ "java/lang/invoke/MethodHandle" ∧ yX8_firstUseful.cls ≠ "java/lang/invoke/VarHandle" ∧ (parseMethodDescriptor yX8_firstUseful.desc).map (fun d => d.parameters.length) = some 1) := ⟨tbm (i := 36) (by decide +kernel) (by decide +kernel), tbm (i := 365) (by decide +kernel) (by decide +kernel), by decide +kernel⟩
theorem yk_X0_number : Cond.initialized yX0_number.cls ∈ TB ∧ Cond.code yX0_number cX0_number 2 (some .int) ∈ TB ∧ (yX0_number.cls ≠ "java/lang/invoke/MethodHandle" ∧ yX0_number.cls ≠ "java/lang/invoke/VarHandle" ∧ (parseMethodDescriptor yX0_number.desc).map (fun d => d.parameters.length) = some 1) := ⟨tbm (i := 41) (by decide +kernel) (by decide +kernel), tbm (i := 369) (by decide +kernel) (by decide +kernel), by decide +kernel⟩
theorem yk_X8_tryNumber : Cond.initialized yX8_tryNumber.cls ∈ TB ∧ Cond.code yX8_tryNumber cX8_tryNumber 3 (some .int) ∈ TB ∧ (yX8_tryNumber.cls ≠ "java/lang/invoke/MethodHandle" ∧ yX8_tryNumber.cls ≠ "java/lang/invoke/VarHandle" ∧ (parseMethodDescriptor yX8_tryNumber.desc).map (fun d => d.parameters.length) = some 2) := ⟨tbm (i := 36) (by decide +kernel) (by decide +kernel), tbm (i := 373) (by decide +kernel) (by decide +kernel), by decide +kernel⟩
theorem yk_X1_copyFrom : Cond.initialized yX1_copyFrom.cls ∈ TB ∧ Cond.code yX1_copyFrom cX1_copyFrom 3 none ∈ TB ∧ (yX1_copyFrom.cls ≠ "java/lang/invoke/MethodHandle" ∧ yX1_copyFrom.cls ≠ "java/lang/invoke/VarHandle" ∧ (parseMethodDescriptor yX1_copyFrom.desc).map (fun d => d.parameters.length) = some 1) := ⟨tbm (i := 39) (by decide +kernel) (by decide +kernel), tbm (i := 377) (by decide +kernel) (by decide +kernel), by decide +kernel⟩
theorem yk_X5_copyFrom : Cond.initialized yX5_copyFrom.cls ∈ TB ∧ Cond.code yX5_copyFrom cX5_copyFrom 2 none ∈ TB ∧ (yX5_copyFrom.cls ≠ "java/lang/invoke/MethodHandle" ∧ yX5_copyFrom.cls ≠ "java/lang/invoke/VarHandle" ∧ (parseMethodDescriptor yX5_copyFrom.desc).map (fun d => d.parameters.length) = some 1) := ⟨tbm (i := 40) (by decide +kernel) (by decide +kernel), tbm (i := 381) (by decide +kernel) (by decide +kernel), by decide +kernel⟩
theorem yk_X1_hear : Cond.initialized yX1_hear.cls ∈ TB ∧ Cond.code yX1_hear cX1_hear 8 (some .int) ∈ TB ∧ (yX1_hear.cls ≠ "java/lang/invoke/MethodHandle" ∧ yX1_hear.cls ≠ "java/lang/invoke/VarHandle" ∧ (parseMethodDescriptor yX1_hear.desc).map (fun d => d.parameters.length) = some 2) := ⟨tbm (i := 39) (by decide +kernel) (by decide +kernel), tbm (i := 385) (by decide +kernel) (by decide +kernel), by decide +kernel⟩
theorem yk_X5_stepsTo : Cond.initialized yX5_stepsTo.cls ∈ TB ∧ Cond.code yX5_stepsTo cX5_stepsTo 5 (some .int) ∈ TB ∧ (yX5_stepsTo.cls ≠ "java/lang/invoke/MethodHandle" ∧ yX5_stepsTo.cls ≠ "java/lang/invoke/VarHandle" ∧ (parseMethodDescriptor yX5_stepsTo.desc).map (fun d => d.parameters.length) = some 2) := ⟨tbm (i := 40) (by decide +kernel) (by decide +kernel), tbm (i := 389) (by decide +kernel) (by decide +kernel), by decide +kernel⟩
theorem yk_X5_take : Cond.initialized yX5_take.cls ∈ TB ∧ Cond.code yX5_take cX5_take 4 (some .boolean) ∈ TB ∧ (yX5_take.cls ≠ "java/lang/invoke/MethodHandle" ∧ yX5_take.cls ≠ "java/lang/invoke/VarHandle" ∧ (parseMethodDescriptor yX5_take.desc).map (fun d => d.parameters.length) = some 2) := ⟨tbm (i := 40) (by decide +kernel) (by decide +kernel), tbm (i := 395) (by decide +kernel) (by decide +kernel), by decide +kernel⟩
theorem yk_X8_pressesToOpen : Cond.initialized yX8_pressesToOpen.cls ∈ TB ∧ Cond.code yX8_pressesToOpen cX8_pressesToOpen 7 (some .int) ∈ TB ∧ (yX8_pressesToOpen.cls ≠ "java/lang/invoke/MethodHandle" ∧ yX8_pressesToOpen.cls ≠ "java/lang/invoke/VarHandle" ∧ (parseMethodDescriptor yX8_pressesToOpen.desc).map (fun d => d.parameters.length) = some 2) := ⟨tbm (i := 36) (by decide +kernel) (by decide +kernel), tbm (i := 399) (by decide +kernel) (by decide +kernel), by decide +kernel⟩
theorem yk_X8_mostUnheard : Cond.initialized yX8_mostUnheard.cls ∈ TB ∧ Cond.code yX8_mostUnheard cX8_mostUnheard 6 (some .int) ∈ TB ∧ (yX8_mostUnheard.cls ≠ "java/lang/invoke/MethodHandle" ∧ yX8_mostUnheard.cls ≠ "java/lang/invoke/VarHandle" ∧ (parseMethodDescriptor yX8_mostUnheard.desc).map (fun d => d.parameters.length) = some 2) := ⟨tbm (i := 36) (by decide +kernel) (by decide +kernel), tbm (i := 408) (by decide +kernel) (by decide +kernel), by decide +kernel⟩
theorem yk_X8_shareBits : Cond.initialized yX8_shareBits.cls ∈ TB ∧ Cond.code yX8_shareBits cX8_shareBits 6 (some .long) ∈ TB ∧ (yX8_shareBits.cls ≠ "java/lang/invoke/MethodHandle" ∧ yX8_shareBits.cls ≠ "java/lang/invoke/VarHandle" ∧ (parseMethodDescriptor yX8_shareBits.desc).map (fun d => d.parameters.length) = some 1) := ⟨tbm (i := 36) (by decide +kernel) (by decide +kernel), tbm (i := 412) (by decide +kernel) (by decide +kernel), by decide +kernel⟩
theorem yk_X8_make : Cond.initialized yX8_make.cls ∈ TB ∧ Cond.code yX8_make cX8_make 6 (some .int) ∈ TB ∧ (yX8_make.cls ≠ "java/lang/invoke/MethodHandle" ∧ yX8_make.cls ≠ "java/lang/invoke/VarHandle" ∧ (parseMethodDescriptor yX8_make.desc).map (fun d => d.parameters.length) = some 3) := ⟨tbm (i := 36) (by decide +kernel) (by decide +kernel), tbm (i := 425) (by decide +kernel) (by decide +kernel), by decide +kernel⟩
theorem yk_X8_needIndex : Cond.initialized yX8_needIndex.cls ∈ TB ∧ Cond.code yX8_needIndex cX8_needIndex 2 none ∈ TB ∧ (yX8_needIndex.cls ≠ "java/lang/invoke/MethodHandle" ∧ yX8_needIndex.cls ≠ "java/lang/invoke/VarHandle" ∧ (parseMethodDescriptor yX8_needIndex.desc).map (fun d => d.parameters.length) = some 2) := ⟨tbm (i := 36) (by decide +kernel) (by decide +kernel), tbm (i := 428) (by decide +kernel) (by decide +kernel), by decide +kernel⟩
theorem yk_X8_needRange : Cond.initialized yX8_needRange.cls ∈ TB ∧ Cond.code yX8_needRange cX8_needRange 3 none ∈ TB ∧ (yX8_needRange.cls ≠ "java/lang/invoke/MethodHandle" ∧ yX8_needRange.cls ≠ "java/lang/invoke/VarHandle" ∧ (parseMethodDescriptor yX8_needRange.desc).map (fun d => d.parameters.length) = some 3) := ⟨tbm (i := 36) (by decide +kernel) (by decide +kernel), tbm (i := 494) (by decide +kernel) (by decide +kernel), by decide +kernel⟩
theorem yk_X8_needArgument : Cond.initialized yX8_needArgument.cls ∈ TB ∧ Cond.code yX8_needArgument cX8_needArgument 1 none ∈ TB ∧ (yX8_needArgument.cls ≠ "java/lang/invoke/MethodHandle" ∧ yX8_needArgument.cls ≠ "java/lang/invoke/VarHandle" ∧ (parseMethodDescriptor yX8_needArgument.desc).map (fun d => d.parameters.length) = some 1) := ⟨tbm (i := 36) (by decide +kernel) (by decide +kernel), tbm (i := 497) (by decide +kernel) (by decide +kernel), by decide +kernel⟩
theorem yk_X3_keep : Cond.initialized yX3_keep.cls ∈ TB ∧ Cond.code yX3_keep cX3_keep 2 none ∈ TB ∧ (yX3_keep.cls ≠ "java/lang/invoke/MethodHandle" ∧ yX3_keep.cls ≠ "java/lang/invoke/VarHandle" ∧ (parseMethodDescriptor yX3_keep.desc).map (fun d => d.parameters.length) = some 1) := ⟨tbm (i := 43) (by decide +kernel) (by decide +kernel), tbm (i := 516) (by decide +kernel) (by decide +kernel), by decide +kernel⟩
theorem yk_X6_copyFrom : Cond.initialized yX6_copyFrom.cls ∈ TB ∧ Cond.code yX6_copyFrom cX6_copyFrom 3 none ∈ TB ∧ (yX6_copyFrom.cls ≠ "java/lang/invoke/MethodHandle" ∧ yX6_copyFrom.cls ≠ "java/lang/invoke/VarHandle" ∧ (parseMethodDescriptor yX6_copyFrom.desc).map (fun d => d.parameters.length) = some 1) := ⟨tbm (i := 37) (by decide +kernel) (by decide +kernel), tbm (i := 520) (by decide +kernel) (by decide +kernel), by decide +kernel⟩
theorem yk_X2_copyFrom : Cond.initialized yX2_copyFrom.cls ∈ TB ∧ Cond.code yX2_copyFrom cX2_copyFrom 2 none ∈ TB ∧ (yX2_copyFrom.cls ≠ "java/lang/invoke/MethodHandle" ∧ yX2_copyFrom.cls ≠ "java/lang/invoke/VarHandle" ∧ (parseMethodDescriptor yX2_copyFrom.desc).map (fun d => d.parameters.length) = some 1) := ⟨tbm (i := 38) (by decide +kernel) (by decide +kernel), tbm (i := 524) (by decide +kernel) (by decide +kernel), by decide +kernel⟩
theorem yk_X0_copyFrom : Cond.initialized yX0_copyFrom.cls ∈ TB ∧ Cond.code yX0_copyFrom cX0_copyFrom 2 none ∈ TB ∧ (yX0_copyFrom.cls ≠ "java/lang/invoke/MethodHandle" ∧ yX0_copyFrom.cls ≠ "java/lang/invoke/VarHandle" ∧ (parseMethodDescriptor yX0_copyFrom.desc).map (fun d => d.parameters.length) = some 1) := ⟨tbm (i := 41) (by decide +kernel) (by decide +kernel), tbm (i := 529) (by decide +kernel) (by decide +kernel), by decide +kernel⟩
theorem yk_X4_copyFrom : Cond.initialized yX4_copyFrom.cls ∈ TB ∧ Cond.code yX4_copyFrom cX4_copyFrom 2 none ∈ TB ∧ (yX4_copyFrom.cls ≠ "java/lang/invoke/MethodHandle" ∧ yX4_copyFrom.cls ≠ "java/lang/invoke/VarHandle" ∧ (parseMethodDescriptor yX4_copyFrom.desc).map (fun d => d.parameters.length) = some 1) := ⟨tbm (i := 42) (by decide +kernel) (by decide +kernel), tbm (i := 536) (by decide +kernel) (by decide +kernel), by decide +kernel⟩
theorem yk_X8_battery : Cond.initialized yX8_battery.cls ∈ TB ∧ Cond.code yX8_battery cX8_battery 5 (some .int) ∈ TB ∧ (yX8_battery.cls ≠ "java/lang/invoke/MethodHandle" ∧ yX8_battery.cls ≠ "java/lang/invoke/VarHandle" ∧ (parseMethodDescriptor yX8_battery.desc).map (fun d => d.parameters.length) = some 2) := ⟨tbm (i := 36) (by decide +kernel) (by decide +kernel), tbm (i := 544) (by decide +kernel) (by decide +kernel), by decide +kernel⟩
theorem yk_X8_press : Cond.initialized yX8_press.cls ∈ TB ∧ Cond.code yX8_press cX8_press 3 (some .int) ∈ TB ∧ (yX8_press.cls ≠ "java/lang/invoke/MethodHandle" ∧ yX8_press.cls ≠ "java/lang/invoke/VarHandle" ∧ (parseMethodDescriptor yX8_press.desc).map (fun d => d.parameters.length) = some 2) := ⟨tbm (i := 36) (by decide +kernel) (by decide +kernel), tbm (i := 552) (by decide +kernel) (by decide +kernel), by decide +kernel⟩
theorem yk_X6_canPress : Cond.initialized yX6_canPress.cls ∈ TB ∧ Cond.code yX6_canPress cX6_canPress 2 (some .boolean) ∈ TB ∧ (yX6_canPress.cls ≠ "java/lang/invoke/MethodHandle" ∧ yX6_canPress.cls ≠ "java/lang/invoke/VarHandle" ∧ (parseMethodDescriptor yX6_canPress.desc).map (fun d => d.parameters.length) = some 1) := ⟨tbm (i := 37) (by decide +kernel) (by decide +kernel), tbm (i := 556) (by decide +kernel) (by decide +kernel), by decide +kernel⟩
theorem yk_X8_needState : Cond.initialized yX8_needState.cls ∈ TB ∧ Cond.code yX8_needState cX8_needState 1 none ∈ TB ∧ (yX8_needState.cls ≠ "java/lang/invoke/MethodHandle" ∧ yX8_needState.cls ≠ "java/lang/invoke/VarHandle" ∧ (parseMethodDescriptor yX8_needState.desc).map (fun d => d.parameters.length) = some 1) := ⟨tbm (i := 36) (by decide +kernel) (by decide +kernel), tbm (i := 559) (by decide +kernel) (by decide +kernel), by decide +kernel⟩
theorem yk_X6_pressFob : Cond.initialized yX6_pressFob.cls ∈ TB ∧ Cond.code yX6_pressFob cX6_pressFob 4 (some .int) ∈ TB ∧ (yX6_pressFob.cls ≠ "java/lang/invoke/MethodHandle" ∧ yX6_pressFob.cls ≠ "java/lang/invoke/VarHandle" ∧ (parseMethodDescriptor yX6_pressFob.desc).map (fun d => d.parameters.length) = some 2) := ⟨tbm (i := 37) (by decide +kernel) (by decide +kernel), tbm (i := 578) (by decide +kernel) (by decide +kernel), by decide +kernel⟩
theorem yk_X2_sendNext : Cond.initialized yX2_sendNext.cls ∈ TB ∧ Cond.code yX2_sendNext cX2_sendNext 1 (some .int) ∈ TB ∧ (yX2_sendNext.cls ≠ "java/lang/invoke/MethodHandle" ∧ yX2_sendNext.cls ≠ "java/lang/invoke/VarHandle" ∧ (parseMethodDescriptor yX2_sendNext.desc).map (fun d => d.parameters.length) = some 0) := ⟨tbm (i := 38) (by decide +kernel) (by decide +kernel), tbm (i := 583) (by decide +kernel) (by decide +kernel), by decide +kernel⟩
theorem yk_X0_record : Cond.initialized yX0_record.cls ∈ TB ∧ Cond.code yX0_record cX0_record 2 none ∈ TB ∧ (yX0_record.cls ≠ "java/lang/invoke/MethodHandle" ∧ yX0_record.cls ≠ "java/lang/invoke/VarHandle" ∧ (parseMethodDescriptor yX0_record.desc).map (fun d => d.parameters.length) = some 1) := ⟨tbm (i := 41) (by decide +kernel) (by decide +kernel), tbm (i := 587) (by decide +kernel) (by decide +kernel), by decide +kernel⟩
theorem yk_X6_send : Cond.initialized yX6_send.cls ∈ TB ∧ Cond.code yX6_send cX6_send 6 (some .int) ∈ TB ∧ (yX6_send.cls ≠ "java/lang/invoke/MethodHandle" ∧ yX6_send.cls ≠ "java/lang/invoke/VarHandle" ∧ (parseMethodDescriptor yX6_send.desc).map (fun d => d.parameters.length) = some 2) := ⟨tbm (i := 37) (by decide +kernel) (by decide +kernel), tbm (i := 592) (by decide +kernel) (by decide +kernel), by decide +kernel⟩
theorem yk_X8_again : Cond.initialized yX8_again.cls ∈ TB ∧ Cond.code yX8_again cX8_again 3 (some .int) ∈ TB ∧ (yX8_again.cls ≠ "java/lang/invoke/MethodHandle" ∧ yX8_again.cls ≠ "java/lang/invoke/VarHandle" ∧ (parseMethodDescriptor yX8_again.desc).map (fun d => d.parameters.length) = some 2) := ⟨tbm (i := 36) (by decide +kernel) (by decide +kernel), tbm (i := 600) (by decide +kernel) (by decide +kernel), by decide +kernel⟩
theorem yk_X6_sendAgain : Cond.initialized yX6_sendAgain.cls ∈ TB ∧ Cond.code yX6_sendAgain cX6_sendAgain 4 (some .int) ∈ TB ∧ (yX6_sendAgain.cls ≠ "java/lang/invoke/MethodHandle" ∧ yX6_sendAgain.cls ≠ "java/lang/invoke/VarHandle" ∧ (parseMethodDescriptor yX6_sendAgain.desc).map (fun d => d.parameters.length) = some 2) := ⟨tbm (i := 37) (by decide +kernel) (by decide +kernel), tbm (i := 604) (by decide +kernel) (by decide +kernel), by decide +kernel⟩
theorem yk_X6_canSendAgain : Cond.initialized yX6_canSendAgain.cls ∈ TB ∧ Cond.code yX6_canSendAgain cX6_canSendAgain 2 (some .boolean) ∈ TB ∧ (yX6_canSendAgain.cls ≠ "java/lang/invoke/MethodHandle" ∧ yX6_canSendAgain.cls ≠ "java/lang/invoke/VarHandle" ∧ (parseMethodDescriptor yX6_canSendAgain.desc).map (fun d => d.parameters.length) = some 1) := ⟨tbm (i := 37) (by decide +kernel) (by decide +kernel), tbm (i := 608) (by decide +kernel) (by decide +kernel), by decide +kernel⟩
theorem yk_X8_learn : Cond.initialized yX8_learn.cls ∈ TB ∧ Cond.code yX8_learn cX8_learn 5 (some .int) ∈ TB ∧ (yX8_learn.cls ≠ "java/lang/invoke/MethodHandle" ∧ yX8_learn.cls ≠ "java/lang/invoke/VarHandle" ∧ (parseMethodDescriptor yX8_learn.desc).map (fun d => d.parameters.length) = some 3) := ⟨tbm (i := 36) (by decide +kernel) (by decide +kernel), tbm (i := 622) (by decide +kernel) (by decide +kernel), by decide +kernel⟩
theorem yk_X5_learnFrom : Cond.initialized yX5_learnFrom.cls ∈ TB ∧ Cond.code yX5_learnFrom cX5_learnFrom 2 none ∈ TB ∧ (yX5_learnFrom.cls ≠ "java/lang/invoke/MethodHandle" ∧ yX5_learnFrom.cls ≠ "java/lang/invoke/VarHandle" ∧ (parseMethodDescriptor yX5_learnFrom.desc).map (fun d => d.parameters.length) = some 1) := ⟨tbm (i := 40) (by decide +kernel) (by decide +kernel), tbm (i := 626) (by decide +kernel) (by decide +kernel), by decide +kernel⟩
theorem yk_X8_forget : Cond.initialized yX8_forget.cls ∈ TB ∧ Cond.code yX8_forget cX8_forget 5 (some .int) ∈ TB ∧ (yX8_forget.cls ≠ "java/lang/invoke/MethodHandle" ∧ yX8_forget.cls ≠ "java/lang/invoke/VarHandle" ∧ (parseMethodDescriptor yX8_forget.desc).map (fun d => d.parameters.length) = some 2) := ⟨tbm (i := 36) (by decide +kernel) (by decide +kernel), tbm (i := 634) (by decide +kernel) (by decide +kernel), by decide +kernel⟩
theorem yk_X5_empty : Cond.initialized yX5_empty.cls ∈ TB ∧ Cond.code yX5_empty cX5_empty 1 none ∈ TB ∧ (yX5_empty.cls ≠ "java/lang/invoke/MethodHandle" ∧ yX5_empty.cls ≠ "java/lang/invoke/VarHandle" ∧ (parseMethodDescriptor yX5_empty.desc).map (fun d => d.parameters.length) = some 0) := ⟨tbm (i := 40) (by decide +kernel) (by decide +kernel), tbm (i := 638) (by decide +kernel) (by decide +kernel), by decide +kernel⟩
theorem yk_X8_shut : Cond.initialized yX8_shut.cls ∈ TB ∧ Cond.code yX8_shut cX8_shut 4 (some .int) ∈ TB ∧ (yX8_shut.cls ≠ "java/lang/invoke/MethodHandle" ∧ yX8_shut.cls ≠ "java/lang/invoke/VarHandle" ∧ (parseMethodDescriptor yX8_shut.desc).map (fun d => d.parameters.length) = some 1) := ⟨tbm (i := 36) (by decide +kernel) (by decide +kernel), tbm (i := 645) (by decide +kernel) (by decide +kernel), by decide +kernel⟩
theorem yk_X8_unlock : Cond.initialized yX8_unlock.cls ∈ TB ∧ Cond.code yX8_unlock cX8_unlock 4 (some .int) ∈ TB ∧ (yX8_unlock.cls ≠ "java/lang/invoke/MethodHandle" ∧ yX8_unlock.cls ≠ "java/lang/invoke/VarHandle" ∧ (parseMethodDescriptor yX8_unlock.desc).map (fun d => d.parameters.length) = some 1) := ⟨tbm (i := 36) (by decide +kernel) (by decide +kernel), tbm (i := 652) (by decide +kernel) (by decide +kernel), by decide +kernel⟩
theorem yk_X8_set : Cond.initialized yX8_set.cls ∈ TB ∧ Cond.code yX8_set cX8_set 4 (some .int) ∈ TB ∧ (yX8_set.cls ≠ "java/lang/invoke/MethodHandle" ∧ yX8_set.cls ≠ "java/lang/invoke/VarHandle" ∧ (parseMethodDescriptor yX8_set.desc).map (fun d => d.parameters.length) = some 2) := ⟨tbm (i := 36) (by decide +kernel) (by decide +kernel), tbm (i := 659) (by decide +kernel) (by decide +kernel), by decide +kernel⟩
theorem yk_X4_least : Cond.initialized yX4_least.cls ∈ TB ∧ Cond.code yX4_least cX4_least 1 (some .int) ∈ TB ∧ (yX4_least.cls ≠ "java/lang/invoke/MethodHandle" ∧ yX4_least.cls ≠ "java/lang/invoke/VarHandle" ∧ (parseMethodDescriptor yX4_least.desc).map (fun d => d.parameters.length) = some 1) := ⟨tbm (i := 42) (by decide +kernel) (by decide +kernel), tbm (i := 662) (by decide +kernel) (by decide +kernel), by decide +kernel⟩
theorem yk_X4_most : Cond.initialized yX4_most.cls ∈ TB ∧ Cond.code yX4_most cX4_most 1 (some .int) ∈ TB ∧ (yX4_most.cls ≠ "java/lang/invoke/MethodHandle" ∧ yX4_most.cls ≠ "java/lang/invoke/VarHandle" ∧ (parseMethodDescriptor yX4_most.desc).map (fun d => d.parameters.length) = some 1) := ⟨tbm (i := 42) (by decide +kernel) (by decide +kernel), tbm (i := 665) (by decide +kernel) (by decide +kernel), by decide +kernel⟩
theorem yk_X4_change : Cond.initialized yX4_change.cls ∈ TB ∧ Cond.code yX4_change cX4_change 3 none ∈ TB ∧ (yX4_change.cls ≠ "java/lang/invoke/MethodHandle" ∧ yX4_change.cls ≠ "java/lang/invoke/VarHandle" ∧ (parseMethodDescriptor yX4_change.desc).map (fun d => d.parameters.length) = some 2) := ⟨tbm (i := 42) (by decide +kernel) (by decide +kernel), tbm (i := 669) (by decide +kernel) (by decide +kernel), by decide +kernel⟩
theorem yk_X8_append : Cond.initialized yX8_append.cls ∈ TB ∧ Cond.code yX8_append cX8_append 2 (some .int) ∈ TB ∧ (yX8_append.cls ≠ "java/lang/invoke/MethodHandle" ∧ yX8_append.cls ≠ "java/lang/invoke/VarHandle" ∧ (parseMethodDescriptor yX8_append.desc).map (fun d => d.parameters.length) = some 1) := ⟨tbm (i := 36) (by decide +kernel) (by decide +kernel), tbm (i := 676) (by decide +kernel) (by decide +kernel), by decide +kernel⟩
theorem yk_X7_add : Cond.initialized yX7_add.cls ∈ TB ∧ Cond.code yX7_add cX7_add 2 none ∈ TB ∧ (yX7_add.cls ≠ "java/lang/invoke/MethodHandle" ∧ yX7_add.cls ≠ "java/lang/invoke/VarHandle" ∧ (parseMethodDescriptor yX7_add.desc).map (fun d => d.parameters.length) = some 1) := ⟨tbm (i := 44) (by decide +kernel) (by decide +kernel), tbm (i := 680) (by decide +kernel) (by decide +kernel), by decide +kernel⟩
theorem yk_X8_play : Cond.initialized yX8_play.cls ∈ TB ∧ Cond.code yX8_play cX8_play 4 (some .int) ∈ TB ∧ (yX8_play.cls ≠ "java/lang/invoke/MethodHandle" ∧ yX8_play.cls ≠ "java/lang/invoke/VarHandle" ∧ (parseMethodDescriptor yX8_play.desc).map (fun d => d.parameters.length) = some 0) := ⟨tbm (i := 36) (by decide +kernel) (by decide +kernel), tbm (i := 687) (by decide +kernel) (by decide +kernel), by decide +kernel⟩
theorem yk_X7_isComplete : Cond.initialized yX7_isComplete.cls ∈ TB ∧ Cond.code yX7_isComplete cX7_isComplete 3 (some .boolean) ∈ TB ∧ (yX7_isComplete.cls ≠ "java/lang/invoke/MethodHandle" ∧ yX7_isComplete.cls ≠ "java/lang/invoke/VarHandle" ∧ (parseMethodDescriptor yX7_isComplete.desc).map (fun d => d.parameters.length) = some 0) := ⟨tbm (i := 44) (by decide +kernel) (by decide +kernel), tbm (i := 691) (by decide +kernel) (by decide +kernel), by decide +kernel⟩
theorem yk_X7_endsPart : Cond.initialized yX7_endsPart.cls ∈ TB ∧ Cond.code yX7_endsPart cX7_endsPart 2 (some .boolean) ∈ TB ∧ (yX7_endsPart.cls ≠ "java/lang/invoke/MethodHandle" ∧ yX7_endsPart.cls ≠ "java/lang/invoke/VarHandle" ∧ (parseMethodDescriptor yX7_endsPart.desc).map (fun d => d.parameters.length) = some 1) := ⟨tbm (i := 44) (by decide +kernel) (by decide +kernel), tbm (i := 695) (by decide +kernel) (by decide +kernel), by decide +kernel⟩
theorem yk_X8_playPart : Cond.initialized yX8_playPart.cls ∈ TB ∧ Cond.code yX8_playPart cX8_playPart 4 (some .boolean) ∈ TB ∧ (yX8_playPart.cls ≠ "java/lang/invoke/MethodHandle" ∧ yX8_playPart.cls ≠ "java/lang/invoke/VarHandle" ∧ (parseMethodDescriptor yX8_playPart.desc).map (fun d => d.parameters.length) = some 2) := ⟨tbm (i := 36) (by decide +kernel) (by decide +kernel), tbm (i := 699) (by decide +kernel) (by decide +kernel), by decide +kernel⟩
theorem yk_X7_digit : Cond.initialized yX7_digit.cls ∈ TB ∧ Cond.code yX7_digit cX7_digit 3 (some .int) ∈ TB ∧ (yX7_digit.cls ≠ "java/lang/invoke/MethodHandle" ∧ yX7_digit.cls ≠ "java/lang/invoke/VarHandle" ∧ (parseMethodDescriptor yX7_digit.desc).map (fun d => d.parameters.length) = some 1) := ⟨tbm (i := 44) (by decide +kernel) (by decide +kernel), tbm (i := 703) (by decide +kernel) (by decide +kernel), by decide +kernel⟩
theorem yk_X7_mask : Cond.initialized yX7_mask.cls ∈ TB ∧ Cond.code yX7_mask cX7_mask 6 (some .int) ∈ TB ∧ (yX7_mask.cls ≠ "java/lang/invoke/MethodHandle" ∧ yX7_mask.cls ≠ "java/lang/invoke/VarHandle" ∧ (parseMethodDescriptor yX7_mask.desc).map (fun d => d.parameters.length) = some 2) := ⟨tbm (i := 44) (by decide +kernel) (by decide +kernel), tbm (i := 707) (by decide +kernel) (by decide +kernel), by decide +kernel⟩
theorem yk_X6_shutDoor : Cond.initialized yX6_shutDoor.cls ∈ TB ∧ Cond.code yX6_shutDoor cX6_shutDoor 2 (some .boolean) ∈ TB ∧ (yX6_shutDoor.cls ≠ "java/lang/invoke/MethodHandle" ∧ yX6_shutDoor.cls ≠ "java/lang/invoke/VarHandle" ∧ (parseMethodDescriptor yX6_shutDoor.desc).map (fun d => d.parameters.length) = some 1) := ⟨tbm (i := 37) (by decide +kernel) (by decide +kernel), tbm (i := 713) (by decide +kernel) (by decide +kernel), by decide +kernel⟩
theorem yk_X8_undo : Cond.initialized yX8_undo.cls ∈ TB ∧ Cond.code yX8_undo cX8_undo 1 (some .int) ∈ TB ∧ (yX8_undo.cls ≠ "java/lang/invoke/MethodHandle" ∧ yX8_undo.cls ≠ "java/lang/invoke/VarHandle" ∧ (parseMethodDescriptor yX8_undo.desc).map (fun d => d.parameters.length) = some 0) := ⟨tbm (i := 36) (by decide +kernel) (by decide +kernel), tbm (i := 720) (by decide +kernel) (by decide +kernel), by decide +kernel⟩
theorem yk_X3_restore : Cond.initialized yX3_restore.cls ∈ TB ∧ Cond.code yX3_restore cX3_restore 2 none ∈ TB ∧ (yX3_restore.cls ≠ "java/lang/invoke/MethodHandle" ∧ yX3_restore.cls ≠ "java/lang/invoke/VarHandle" ∧ (parseMethodDescriptor yX3_restore.desc).map (fun d => d.parameters.length) = some 1) := ⟨tbm (i := 43) (by decide +kernel) (by decide +kernel), tbm (i := 724) (by decide +kernel) (by decide +kernel), by decide +kernel⟩
theorem yk_X8_fob : Cond.initialized yX8_fob.cls ∈ TB ∧ Cond.code yX8_fob cX8_fob 3 (some .int) ∈ TB ∧ (yX8_fob.cls ≠ "java/lang/invoke/MethodHandle" ∧ yX8_fob.cls ≠ "java/lang/invoke/VarHandle" ∧ (parseMethodDescriptor yX8_fob.desc).map (fun d => d.parameters.length) = some 2) := ⟨tbm (i := 36) (by decide +kernel) (by decide +kernel), tbm (i := 731) (by decide +kernel) (by decide +kernel), by decide +kernel⟩
theorem yk_X8_slot : Cond.initialized yX8_slot.cls ∈ TB ∧ Cond.code yX8_slot cX8_slot 4 (some .int) ∈ TB ∧ (yX8_slot.cls ≠ "java/lang/invoke/MethodHandle" ∧ yX8_slot.cls ≠ "java/lang/invoke/VarHandle" ∧ (parseMethodDescriptor yX8_slot.desc).map (fun d => d.parameters.length) = some 3) := ⟨tbm (i := 36) (by decide +kernel) (by decide +kernel), tbm (i := 738) (by decide +kernel) (by decide +kernel), by decide +kernel⟩
theorem yk_X8_door : Cond.initialized yX8_door.cls ∈ TB ∧ Cond.code yX8_door cX8_door 3 (some .int) ∈ TB ∧ (yX8_door.cls ≠ "java/lang/invoke/MethodHandle" ∧ yX8_door.cls ≠ "java/lang/invoke/VarHandle" ∧ (parseMethodDescriptor yX8_door.desc).map (fun d => d.parameters.length) = some 2) := ⟨tbm (i := 36) (by decide +kernel) (by decide +kernel), tbm (i := 745) (by decide +kernel) (by decide +kernel), by decide +kernel⟩
theorem yk_X8_air : Cond.initialized yX8_air.cls ∈ TB ∧ Cond.code yX8_air cX8_air 2 (some .int) ∈ TB ∧ (yX8_air.cls ≠ "java/lang/invoke/MethodHandle" ∧ yX8_air.cls ≠ "java/lang/invoke/VarHandle" ∧ (parseMethodDescriptor yX8_air.desc).map (fun d => d.parameters.length) = some 1) := ⟨tbm (i := 36) (by decide +kernel) (by decide +kernel), tbm (i := 752) (by decide +kernel) (by decide +kernel), by decide +kernel⟩
theorem yk_X8_count : Cond.initialized yX8_count.cls ∈ TB ∧ Cond.code yX8_count cX8_count 2 (some .int) ∈ TB ∧ (yX8_count.cls ≠ "java/lang/invoke/MethodHandle" ∧ yX8_count.cls ≠ "java/lang/invoke/VarHandle" ∧ (parseMethodDescriptor yX8_count.desc).map (fun d => d.parameters.length) = some 1) := ⟨tbm (i := 36) (by decide +kernel) (by decide +kernel), tbm (i := 759) (by decide +kernel) (by decide +kernel), by decide +kernel⟩
theorem yk_X8_setting : Cond.initialized yX8_setting.cls ∈ TB ∧ Cond.code yX8_setting cX8_setting 2 (some .int) ∈ TB ∧ (yX8_setting.cls ≠ "java/lang/invoke/MethodHandle" ∧ yX8_setting.cls ≠ "java/lang/invoke/VarHandle" ∧ (parseMethodDescriptor yX8_setting.desc).map (fun d => d.parameters.length) = some 1) := ⟨tbm (i := 36) (by decide +kernel) (by decide +kernel), tbm (i := 766) (by decide +kernel) (by decide +kernel), by decide +kernel⟩
theorem yk_X8_ifHeard : Cond.initialized yX8_ifHeard.cls ∈ TB ∧ Cond.code yX8_ifHeard cX8_ifHeard 3 (some .int) ∈ TB ∧ (yX8_ifHeard.cls ≠ "java/lang/invoke/MethodHandle" ∧ yX8_ifHeard.cls ≠ "java/lang/invoke/VarHandle" ∧ (parseMethodDescriptor yX8_ifHeard.desc).map (fun d => d.parameters.length) = some 2) := ⟨tbm (i := 36) (by decide +kernel) (by decide +kernel), tbm (i := 773) (by decide +kernel) (by decide +kernel), by decide +kernel⟩
theorem yk_X8_opensIn : Cond.initialized yX8_opensIn.cls ∈ TB ∧ Cond.code yX8_opensIn cX8_opensIn 3 (some .int) ∈ TB ∧ (yX8_opensIn.cls ≠ "java/lang/invoke/MethodHandle" ∧ yX8_opensIn.cls ≠ "java/lang/invoke/VarHandle" ∧ (parseMethodDescriptor yX8_opensIn.desc).map (fun d => d.parameters.length) = some 2) := ⟨tbm (i := 36) (by decide +kernel) (by decide +kernel), tbm (i := 780) (by decide +kernel) (by decide +kernel), by decide +kernel⟩
theorem yk_X8_unheard : Cond.initialized yX8_unheard.cls ∈ TB ∧ Cond.code yX8_unheard cX8_unheard 3 (some .int) ∈ TB ∧ (yX8_unheard.cls ≠ "java/lang/invoke/MethodHandle" ∧ yX8_unheard.cls ≠ "java/lang/invoke/VarHandle" ∧ (parseMethodDescriptor yX8_unheard.desc).map (fun d => d.parameters.length) = some 2) := ⟨tbm (i := 36) (by decide +kernel) (by decide +kernel), tbm (i := 787) (by decide +kernel) (by decide +kernel), by decide +kernel⟩
theorem yk_X8_useful : Cond.initialized yX8_useful.cls ∈ TB ∧ Cond.code yX8_useful cX8_useful 2 (some .int) ∈ TB ∧ (yX8_useful.cls ≠ "java/lang/invoke/MethodHandle" ∧ yX8_useful.cls ≠ "java/lang/invoke/VarHandle" ∧ (parseMethodDescriptor yX8_useful.desc).map (fun d => d.parameters.length) = some 1) := ⟨tbm (i := 36) (by decide +kernel) (by decide +kernel), tbm (i := 794) (by decide +kernel) (by decide +kernel), by decide +kernel⟩
theorem yk_X9_thrown : Cond.initialized yX9_thrown.cls ∈ TB ∧ Cond.code yX9_thrown cX9_thrown 1 (some .int) ∈ TB ∧ (yX9_thrown.cls ≠ "java/lang/invoke/MethodHandle" ∧ yX9_thrown.cls ≠ "java/lang/invoke/VarHandle" ∧ (parseMethodDescriptor yX9_thrown.desc).map (fun d => d.parameters.length) = some 0) := ⟨tbm (i := 45) (by decide +kernel) (by decide +kernel), tbm (i := 844) (by decide +kernel) (by decide +kernel), by decide +kernel⟩
theorem yk_X9_undo : Cond.initialized yX9_undo.cls ∈ TB ∧ Cond.code yX9_undo cX9_undo 1 (some .int) ∈ TB ∧ (yX9_undo.cls ≠ "java/lang/invoke/MethodHandle" ∧ yX9_undo.cls ≠ "java/lang/invoke/VarHandle" ∧ (parseMethodDescriptor yX9_undo.desc).map (fun d => d.parameters.length) = some 0) := ⟨tbm (i := 45) (by decide +kernel) (by decide +kernel), tbm (i := 848) (by decide +kernel) (by decide +kernel), by decide +kernel⟩
theorem yk_X9_fails : Cond.initialized yX9_fails.cls ∈ TB ∧ Cond.code yX9_fails cX9_fails 2 (some .int) ∈ TB ∧ (yX9_fails.cls ≠ "java/lang/invoke/MethodHandle" ∧ yX9_fails.cls ≠ "java/lang/invoke/VarHandle" ∧ (parseMethodDescriptor yX9_fails.desc).map (fun d => d.parameters.length) = some 1) := ⟨tbm (i := 45) (by decide +kernel) (by decide +kernel), tbm (i := 852) (by decide +kernel) (by decide +kernel), by decide +kernel⟩
theorem yk_X9_copies : Cond.initialized yX9_copies.cls ∈ TB ∧ Cond.code yX9_copies cX9_copies 5 none ∈ TB ∧ (yX9_copies.cls ≠ "java/lang/invoke/MethodHandle" ∧ yX9_copies.cls ≠ "java/lang/invoke/VarHandle" ∧ (parseMethodDescriptor yX9_copies.desc).map (fun d => d.parameters.length) = some 4) := ⟨tbm (i := 45) (by decide +kernel) (by decide +kernel), tbm (i := 855) (by decide +kernel) (by decide +kernel), by decide +kernel⟩
theorem yk_X9_make : Cond.initialized yX9_make.cls ∈ TB ∧ Cond.code yX9_make cX9_make 4 (some .int) ∈ TB ∧ (yX9_make.cls ≠ "java/lang/invoke/MethodHandle" ∧ yX9_make.cls ≠ "java/lang/invoke/VarHandle" ∧ (parseMethodDescriptor yX9_make.desc).map (fun d => d.parameters.length) = some 3) := ⟨tbm (i := 45) (by decide +kernel) (by decide +kernel), tbm (i := 859) (by decide +kernel) (by decide +kernel), by decide +kernel⟩
theorem yk_X9_isFob : Cond.initialized yX9_isFob.cls ∈ TB ∧ Cond.code yX9_isFob cX9_isFob 1 (some .boolean) ∈ TB ∧ (yX9_isFob.cls ≠ "java/lang/invoke/MethodHandle" ∧ yX9_isFob.cls ≠ "java/lang/invoke/VarHandle" ∧ (parseMethodDescriptor yX9_isFob.desc).map (fun d => d.parameters.length) = some 1) := ⟨tbm (i := 45) (by decide +kernel) (by decide +kernel), tbm (i := 862) (by decide +kernel) (by decide +kernel), by decide +kernel⟩
theorem yk_X9_in : Cond.initialized yX9_in.cls ∈ TB ∧ Cond.code yX9_in cX9_in 3 (some .boolean) ∈ TB ∧ (yX9_in.cls ≠ "java/lang/invoke/MethodHandle" ∧ yX9_in.cls ≠ "java/lang/invoke/VarHandle" ∧ (parseMethodDescriptor yX9_in.desc).map (fun d => d.parameters.length) = some 3) := ⟨tbm (i := 45) (by decide +kernel) (by decide +kernel), tbm (i := 865) (by decide +kernel) (by decide +kernel), by decide +kernel⟩
theorem yk_X9_saves : Cond.initialized yX9_saves.cls ∈ TB ∧ Cond.code yX9_saves cX9_saves 2 none ∈ TB ∧ (yX9_saves.cls ≠ "java/lang/invoke/MethodHandle" ∧ yX9_saves.cls ≠ "java/lang/invoke/VarHandle" ∧ (parseMethodDescriptor yX9_saves.desc).map (fun d => d.parameters.length) = some 0) := ⟨tbm (i := 45) (by decide +kernel) (by decide +kernel), tbm (i := 869) (by decide +kernel) (by decide +kernel), by decide +kernel⟩
theorem yk_X9_changes : Cond.initialized yX9_changes.cls ∈ TB ∧ Cond.code yX9_changes cX9_changes 4 (some .int) ∈ TB ∧ (yX9_changes.cls ≠ "java/lang/invoke/MethodHandle" ∧ yX9_changes.cls ≠ "java/lang/invoke/VarHandle" ∧ (parseMethodDescriptor yX9_changes.desc).map (fun d => d.parameters.length) = some 2) := ⟨tbm (i := 45) (by decide +kernel) (by decide +kernel), tbm (i := 873) (by decide +kernel) (by decide +kernel), by decide +kernel⟩
theorem yk_X9_battery : Cond.initialized yX9_battery.cls ∈ TB ∧ Cond.code yX9_battery cX9_battery 3 (some .int) ∈ TB ∧ (yX9_battery.cls ≠ "java/lang/invoke/MethodHandle" ∧ yX9_battery.cls ≠ "java/lang/invoke/VarHandle" ∧ (parseMethodDescriptor yX9_battery.desc).map (fun d => d.parameters.length) = some 2) := ⟨tbm (i := 45) (by decide +kernel) (by decide +kernel), tbm (i := 877) (by decide +kernel) (by decide +kernel), by decide +kernel⟩
theorem yk_X9_press : Cond.initialized yX9_press.cls ∈ TB ∧ Cond.code yX9_press cX9_press 3 (some .int) ∈ TB ∧ (yX9_press.cls ≠ "java/lang/invoke/MethodHandle" ∧ yX9_press.cls ≠ "java/lang/invoke/VarHandle" ∧ (parseMethodDescriptor yX9_press.desc).map (fun d => d.parameters.length) = some 2) := ⟨tbm (i := 45) (by decide +kernel) (by decide +kernel), tbm (i := 881) (by decide +kernel) (by decide +kernel), by decide +kernel⟩
theorem yk_X9_presses : Cond.initialized yX9_presses.cls ∈ TB ∧ Cond.code yX9_presses cX9_presses 7 (some .int) ∈ TB ∧ (yX9_presses.cls ≠ "java/lang/invoke/MethodHandle" ∧ yX9_presses.cls ≠ "java/lang/invoke/VarHandle" ∧ (parseMethodDescriptor yX9_presses.desc).map (fun d => d.parameters.length) = some 3) := ⟨tbm (i := 45) (by decide +kernel) (by decide +kernel), tbm (i := 885) (by decide +kernel) (by decide +kernel), by decide +kernel⟩
theorem yk_X9_next : Cond.initialized yX9_next.cls ∈ TB ∧ Cond.code yX9_next cX9_next 2 (some .int) ∈ TB ∧ (yX9_next.cls ≠ "java/lang/invoke/MethodHandle" ∧ yX9_next.cls ≠ "java/lang/invoke/VarHandle" ∧ (parseMethodDescriptor yX9_next.desc).map (fun d => d.parameters.length) = some 2) := ⟨tbm (i := 45) (by decide +kernel) (by decide +kernel), tbm (i := 888) (by decide +kernel) (by decide +kernel), by decide +kernel⟩
theorem yk_X9_ahead : Cond.initialized yX9_ahead.cls ∈ TB ∧ Cond.code yX9_ahead cX9_ahead 2 (some .int) ∈ TB ∧ (yX9_ahead.cls ≠ "java/lang/invoke/MethodHandle" ∧ yX9_ahead.cls ≠ "java/lang/invoke/VarHandle" ∧ (parseMethodDescriptor yX9_ahead.desc).map (fun d => d.parameters.length) = some 2) := ⟨tbm (i := 45) (by decide +kernel) (by decide +kernel), tbm (i := 891) (by decide +kernel) (by decide +kernel), by decide +kernel⟩
theorem yk_X9_numberOf : Cond.initialized yX9_numberOf.cls ∈ TB ∧ Cond.code yX9_numberOf cX9_numberOf 2 (some .int) ∈ TB ∧ (yX9_numberOf.cls ≠ "java/lang/invoke/MethodHandle" ∧ yX9_numberOf.cls ≠ "java/lang/invoke/VarHandle" ∧ (parseMethodDescriptor yX9_numberOf.desc).map (fun d => d.parameters.length) = some 2) := ⟨tbm (i := 45) (by decide +kernel) (by decide +kernel), tbm (i := 894) (by decide +kernel) (by decide +kernel), by decide +kernel⟩
theorem yk_X9_heard : Cond.initialized yX9_heard.cls ∈ TB ∧ Cond.code yX9_heard cX9_heard 6 (some .int) ∈ TB ∧ (yX9_heard.cls ≠ "java/lang/invoke/MethodHandle" ∧ yX9_heard.cls ≠ "java/lang/invoke/VarHandle" ∧ (parseMethodDescriptor yX9_heard.desc).map (fun d => d.parameters.length) = some 3) := ⟨tbm (i := 45) (by decide +kernel) (by decide +kernel), tbm (i := 900) (by decide +kernel) (by decide +kernel), by decide +kernel⟩
theorem yk_X9_hears : Cond.initialized yX9_hears.cls ∈ TB ∧ Cond.code yX9_hears cX9_hears 8 (some .boolean) ∈ TB ∧ (yX9_hears.cls ≠ "java/lang/invoke/MethodHandle" ∧ yX9_hears.cls ≠ "java/lang/invoke/VarHandle" ∧ (parseMethodDescriptor yX9_hears.desc).map (fun d => d.parameters.length) = some 3) := ⟨tbm (i := 45) (by decide +kernel) (by decide +kernel), tbm (i := 904) (by decide +kernel) (by decide +kernel), by decide +kernel⟩
theorem yk_X9_would : Cond.initialized yX9_would.cls ∈ TB ∧ Cond.code yX9_would cX9_would 6 (some .int) ∈ TB ∧ (yX9_would.cls ≠ "java/lang/invoke/MethodHandle" ∧ yX9_would.cls ≠ "java/lang/invoke/VarHandle" ∧ (parseMethodDescriptor yX9_would.desc).map (fun d => d.parameters.length) = some 3) := ⟨tbm (i := 45) (by decide +kernel) (by decide +kernel), tbm (i := 908) (by decide +kernel) (by decide +kernel), by decide +kernel⟩
theorem yk_X9_isLocked : Cond.initialized yX9_isLocked.cls ∈ TB ∧ Cond.code yX9_isLocked cX9_isLocked 2 (some .boolean) ∈ TB ∧ (yX9_isLocked.cls ≠ "java/lang/invoke/MethodHandle" ∧ yX9_isLocked.cls ≠ "java/lang/invoke/VarHandle" ∧ (parseMethodDescriptor yX9_isLocked.desc).map (fun d => d.parameters.length) = some 2) := ⟨tbm (i := 45) (by decide +kernel) (by decide +kernel), tbm (i := 911) (by decide +kernel) (by decide +kernel), by decide +kernel⟩
theorem yk_X9_looks : Cond.initialized yX9_looks.cls ∈ TB ∧ Cond.code yX9_looks cX9_looks 7 none ∈ TB ∧ (yX9_looks.cls ≠ "java/lang/invoke/MethodHandle" ∧ yX9_looks.cls ≠ "java/lang/invoke/VarHandle" ∧ (parseMethodDescriptor yX9_looks.desc).map (fun d => d.parameters.length) = some 3) := ⟨tbm (i := 45) (by decide +kernel) (by decide +kernel), tbm (i := 915) (by decide +kernel) (by decide +kernel), by decide +kernel⟩
theorem yk_X9_slotAt : Cond.initialized yX9_slotAt.cls ∈ TB ∧ Cond.code yX9_slotAt cX9_slotAt 2 (some .int) ∈ TB ∧ (yX9_slotAt.cls ≠ "java/lang/invoke/MethodHandle" ∧ yX9_slotAt.cls ≠ "java/lang/invoke/VarHandle" ∧ (parseMethodDescriptor yX9_slotAt.desc).map (fun d => d.parameters.length) = some 2) := ⟨tbm (i := 45) (by decide +kernel) (by decide +kernel), tbm (i := 918) (by decide +kernel) (by decide +kernel), by decide +kernel⟩
theorem yk_X9_again : Cond.initialized yX9_again.cls ∈ TB ∧ Cond.code yX9_again cX9_again 3 (some .int) ∈ TB ∧ (yX9_again.cls ≠ "java/lang/invoke/MethodHandle" ∧ yX9_again.cls ≠ "java/lang/invoke/VarHandle" ∧ (parseMethodDescriptor yX9_again.desc).map (fun d => d.parameters.length) = some 2) := ⟨tbm (i := 45) (by decide +kernel) (by decide +kernel), tbm (i := 922) (by decide +kernel) (by decide +kernel), by decide +kernel⟩
theorem yk_X9_sends : Cond.initialized yX9_sends.cls ∈ TB ∧ Cond.code yX9_sends cX9_sends 4 (some .int) ∈ TB ∧ (yX9_sends.cls ≠ "java/lang/invoke/MethodHandle" ∧ yX9_sends.cls ≠ "java/lang/invoke/VarHandle" ∧ (parseMethodDescriptor yX9_sends.desc).map (fun d => d.parameters.length) = some 2) := ⟨tbm (i := 45) (by decide +kernel) (by decide +kernel), tbm (i := 926) (by decide +kernel) (by decide +kernel), by decide +kernel⟩
theorem yk_X9_ones : Cond.initialized yX9_ones.cls ∈ TB ∧ Cond.code yX9_ones cX9_ones 1 (some .int) ∈ TB ∧ (yX9_ones.cls ≠ "java/lang/invoke/MethodHandle" ∧ yX9_ones.cls ≠ "java/lang/invoke/VarHandle" ∧ (parseMethodDescriptor yX9_ones.desc).map (fun d => d.parameters.length) = some 1) := ⟨tbm (i := 45) (by decide +kernel) (by decide +kernel), tbm (i := 929) (by decide +kernel) (by decide +kernel), by decide +kernel⟩
theorem yk_X9_learn : Cond.initialized yX9_learn.cls ∈ TB ∧ Cond.code yX9_learn cX9_learn 5 (some .int) ∈ TB ∧ (yX9_learn.cls ≠ "java/lang/invoke/MethodHandle" ∧ yX9_learn.cls ≠ "java/lang/invoke/VarHandle" ∧ (parseMethodDescriptor yX9_learn.desc).map (fun d => d.parameters.length) = some 3) := ⟨tbm (i := 45) (by decide +kernel) (by decide +kernel), tbm (i := 933) (by decide +kernel) (by decide +kernel), by decide +kernel⟩
theorem yk_X9_isSlot : Cond.initialized yX9_isSlot.cls ∈ TB ∧ Cond.code yX9_isSlot cX9_isSlot 2 (some .boolean) ∈ TB ∧ (yX9_isSlot.cls ≠ "java/lang/invoke/MethodHandle" ∧ yX9_isSlot.cls ≠ "java/lang/invoke/VarHandle" ∧ (parseMethodDescriptor yX9_isSlot.desc).map (fun d => d.parameters.length) = some 2) := ⟨tbm (i := 45) (by decide +kernel) (by decide +kernel), tbm (i := 936) (by decide +kernel) (by decide +kernel), by decide +kernel⟩
theorem yk_X9_isDoor : Cond.initialized yX9_isDoor.cls ∈ TB ∧ Cond.code yX9_isDoor cX9_isDoor 1 (some .boolean) ∈ TB ∧ (yX9_isDoor.cls ≠ "java/lang/invoke/MethodHandle" ∧ yX9_isDoor.cls ≠ "java/lang/invoke/VarHandle" ∧ (parseMethodDescriptor yX9_isDoor.desc).map (fun d => d.parameters.length) = some 1) := ⟨tbm (i := 45) (by decide +kernel) (by decide +kernel), tbm (i := 939) (by decide +kernel) (by decide +kernel), by decide +kernel⟩
theorem yk_X9_learnt : Cond.initialized yX9_learnt.cls ∈ TB ∧ Cond.code yX9_learnt cX9_learnt 4 (some .int) ∈ TB ∧ (yX9_learnt.cls ≠ "java/lang/invoke/MethodHandle" ∧ yX9_learnt.cls ≠ "java/lang/invoke/VarHandle" ∧ (parseMethodDescriptor yX9_learnt.desc).map (fun d => d.parameters.length) = some 1) := ⟨tbm (i := 45) (by decide +kernel) (by decide +kernel), tbm (i := 943) (by decide +kernel) (by decide +kernel), by decide +kernel⟩
theorem yk_X9_forget : Cond.initialized yX9_forget.cls ∈ TB ∧ Cond.code yX9_forget cX9_forget 3 (some .int) ∈ TB ∧ (yX9_forget.cls ≠ "java/lang/invoke/MethodHandle" ∧ yX9_forget.cls ≠ "java/lang/invoke/VarHandle" ∧ (parseMethodDescriptor yX9_forget.desc).map (fun d => d.parameters.length) = some 2) := ⟨tbm (i := 45) (by decide +kernel) (by decide +kernel), tbm (i := 947) (by decide +kernel) (by decide +kernel), by decide +kernel⟩
theorem yk_X9_shut : Cond.initialized yX9_shut.cls ∈ TB ∧ Cond.code yX9_shut cX9_shut 2 (some .int) ∈ TB ∧ (yX9_shut.cls ≠ "java/lang/invoke/MethodHandle" ∧ yX9_shut.cls ≠ "java/lang/invoke/VarHandle" ∧ (parseMethodDescriptor yX9_shut.desc).map (fun d => d.parameters.length) = some 1) := ⟨tbm (i := 45) (by decide +kernel) (by decide +kernel), tbm (i := 951) (by decide +kernel) (by decide +kernel), by decide +kernel⟩
theorem yk_X9_unlock : Cond.initialized yX9_unlock.cls ∈ TB ∧ Cond.code yX9_unlock cX9_unlock 2 (some .int) ∈ TB ∧ (yX9_unlock.cls ≠ "java/lang/invoke/MethodHandle" ∧ yX9_unlock.cls ≠ "java/lang/invoke/VarHandle" ∧ (parseMethodDescriptor yX9_unlock.desc).map (fun d => d.parameters.length) = some 1) := ⟨tbm (i := 45) (by decide +kernel) (by decide +kernel), tbm (i := 955) (by decide +kernel) (by decide +kernel), by decide +kernel⟩
theorem yk_X9_set : Cond.initialized yX9_set.cls ∈ TB ∧ Cond.code yX9_set cX9_set 3 (some .int) ∈ TB ∧ (yX9_set.cls ≠ "java/lang/invoke/MethodHandle" ∧ yX9_set.cls ≠ "java/lang/invoke/VarHandle" ∧ (parseMethodDescriptor yX9_set.desc).map (fun d => d.parameters.length) = some 2) := ⟨tbm (i := 45) (by decide +kernel) (by decide +kernel), tbm (i := 959) (by decide +kernel) (by decide +kernel), by decide +kernel⟩
theorem yk_X9_append : Cond.initialized yX9_append.cls ∈ TB ∧ Cond.code yX9_append cX9_append 2 (some .int) ∈ TB ∧ (yX9_append.cls ≠ "java/lang/invoke/MethodHandle" ∧ yX9_append.cls ≠ "java/lang/invoke/VarHandle" ∧ (parseMethodDescriptor yX9_append.desc).map (fun d => d.parameters.length) = some 1) := ⟨tbm (i := 45) (by decide +kernel) (by decide +kernel), tbm (i := 963) (by decide +kernel) (by decide +kernel), by decide +kernel⟩
theorem yk_X9_clearBuffer : Cond.initialized yX9_clearBuffer.cls ∈ TB ∧ Cond.code yX9_clearBuffer cX9_clearBuffer 2 (some .int) ∈ TB ∧ (yX9_clearBuffer.cls ≠ "java/lang/invoke/MethodHandle" ∧ yX9_clearBuffer.cls ≠ "java/lang/invoke/VarHandle" ∧ (parseMethodDescriptor yX9_clearBuffer.desc).map (fun d => d.parameters.length) = some 0) := ⟨tbm (i := 45) (by decide +kernel) (by decide +kernel), tbm (i := 967) (by decide +kernel) (by decide +kernel), by decide +kernel⟩
theorem yk_X9_firstError : Cond.initialized yX9_firstError.cls ∈ TB ∧ Cond.code yX9_firstError cX9_firstError 2 (some .int) ∈ TB ∧ (yX9_firstError.cls ≠ "java/lang/invoke/MethodHandle" ∧ yX9_firstError.cls ≠ "java/lang/invoke/VarHandle" ∧ (parseMethodDescriptor yX9_firstError.desc).map (fun d => d.parameters.length) = some 0) := ⟨tbm (i := 45) (by decide +kernel) (by decide +kernel), tbm (i := 971) (by decide +kernel) (by decide +kernel), by decide +kernel⟩
theorem yk_X9_isText : Cond.initialized yX9_isText.cls ∈ TB ∧ Cond.code yX9_isText cX9_isText 2 (some .boolean) ∈ TB ∧ (yX9_isText.cls ≠ "java/lang/invoke/MethodHandle" ∧ yX9_isText.cls ≠ "java/lang/invoke/VarHandle" ∧ (parseMethodDescriptor yX9_isText.desc).map (fun d => d.parameters.length) = some 0) := ⟨tbm (i := 45) (by decide +kernel) (by decide +kernel), tbm (i := 975) (by decide +kernel) (by decide +kernel), by decide +kernel⟩
theorem yk_X9_isPart : Cond.initialized yX9_isPart.cls ∈ TB ∧ Cond.code yX9_isPart cX9_isPart 2 (some .boolean) ∈ TB ∧ (yX9_isPart.cls ≠ "java/lang/invoke/MethodHandle" ∧ yX9_isPart.cls ≠ "java/lang/invoke/VarHandle" ∧ (parseMethodDescriptor yX9_isPart.desc).map (fun d => d.parameters.length) = some 0) := ⟨tbm (i := 45) (by decide +kernel) (by decide +kernel), tbm (i := 979) (by decide +kernel) (by decide +kernel), by decide +kernel⟩
theorem yk_X9_stops : Cond.initialized yX9_stops.cls ∈ TB ∧ Cond.code yX9_stops cX9_stops 1 (some .boolean) ∈ TB ∧ (yX9_stops.cls ≠ "java/lang/invoke/MethodHandle" ∧ yX9_stops.cls ≠ "java/lang/invoke/VarHandle" ∧ (parseMethodDescriptor yX9_stops.desc).map (fun d => d.parameters.length) = some 0) := ⟨tbm (i := 45) (by decide +kernel) (by decide +kernel), tbm (i := 983) (by decide +kernel) (by decide +kernel), by decide +kernel⟩
theorem yk_X9_isDigit : Cond.initialized yX9_isDigit.cls ∈ TB ∧ Cond.code yX9_isDigit cX9_isDigit 2 (some .boolean) ∈ TB ∧ (yX9_isDigit.cls ≠ "java/lang/invoke/MethodHandle" ∧ yX9_isDigit.cls ≠ "java/lang/invoke/VarHandle" ∧ (parseMethodDescriptor yX9_isDigit.desc).map (fun d => d.parameters.length) = some 1) := ⟨tbm (i := 45) (by decide +kernel) (by decide +kernel), tbm (i := 987) (by decide +kernel) (by decide +kernel), by decide +kernel⟩
theorem yk_X9_isAt : Cond.initialized yX9_isAt.cls ∈ TB ∧ Cond.code yX9_isAt cX9_isAt 3 (some .boolean) ∈ TB ∧ (yX9_isAt.cls ≠ "java/lang/invoke/MethodHandle" ∧ yX9_isAt.cls ≠ "java/lang/invoke/VarHandle" ∧ (parseMethodDescriptor yX9_isAt.desc).map (fun d => d.parameters.length) = some 2) := ⟨tbm (i := 45) (by decide +kernel) (by decide +kernel), tbm (i := 991) (by decide +kernel) (by decide +kernel), by decide +kernel⟩
theorem yk_X9_areDoors : Cond.initialized yX9_areDoors.cls ∈ TB ∧ Cond.code yX9_areDoors cX9_areDoors 2 (some .boolean) ∈ TB ∧ (yX9_areDoors.cls ≠ "java/lang/invoke/MethodHandle" ∧ yX9_areDoors.cls ≠ "java/lang/invoke/VarHandle" ∧ (parseMethodDescriptor yX9_areDoors.desc).map (fun d => d.parameters.length) = some 0) := ⟨tbm (i := 45) (by decide +kernel) (by decide +kernel), tbm (i := 995) (by decide +kernel) (by decide +kernel), by decide +kernel⟩
theorem yk_X9_play : Cond.initialized yX9_play.cls ∈ TB ∧ Cond.code yX9_play cX9_play 2 (some .int) ∈ TB ∧ (yX9_play.cls ≠ "java/lang/invoke/MethodHandle" ∧ yX9_play.cls ≠ "java/lang/invoke/VarHandle" ∧ (parseMethodDescriptor yX9_play.desc).map (fun d => d.parameters.length) = some 0) := ⟨tbm (i := 45) (by decide +kernel) (by decide +kernel), tbm (i := 999) (by decide +kernel) (by decide +kernel), by decide +kernel⟩
theorem yk_X9_does : Cond.initialized yX9_does.cls ∈ TB ∧ Cond.code yX9_does cX9_does 4 (some .boolean) ∈ TB ∧ (yX9_does.cls ≠ "java/lang/invoke/MethodHandle" ∧ yX9_does.cls ≠ "java/lang/invoke/VarHandle" ∧ (parseMethodDescriptor yX9_does.desc).map (fun d => d.parameters.length) = some 1) := ⟨tbm (i := 45) (by decide +kernel) (by decide +kernel), tbm (i := 1003) (by decide +kernel) (by decide +kernel), by decide +kernel⟩
theorem yk_X9_fob : Cond.initialized yX9_fob.cls ∈ TB ∧ Cond.code yX9_fob cX9_fob 3 (some .int) ∈ TB ∧ (yX9_fob.cls ≠ "java/lang/invoke/MethodHandle" ∧ yX9_fob.cls ≠ "java/lang/invoke/VarHandle" ∧ (parseMethodDescriptor yX9_fob.desc).map (fun d => d.parameters.length) = some 2) := ⟨tbm (i := 45) (by decide +kernel) (by decide +kernel), tbm (i := 1007) (by decide +kernel) (by decide +kernel), by decide +kernel⟩
theorem yk_X9_ofFob : Cond.initialized yX9_ofFob.cls ∈ TB ∧ Cond.code yX9_ofFob cX9_ofFob 3 (some .int) ∈ TB ∧ (yX9_ofFob.cls ≠ "java/lang/invoke/MethodHandle" ∧ yX9_ofFob.cls ≠ "java/lang/invoke/VarHandle" ∧ (parseMethodDescriptor yX9_ofFob.desc).map (fun d => d.parameters.length) = some 2) := ⟨tbm (i := 45) (by decide +kernel) (by decide +kernel), tbm (i := 1011) (by decide +kernel) (by decide +kernel), by decide +kernel⟩
theorem yk_X9_slot : Cond.initialized yX9_slot.cls ∈ TB ∧ Cond.code yX9_slot cX9_slot 4 (some .int) ∈ TB ∧ (yX9_slot.cls ≠ "java/lang/invoke/MethodHandle" ∧ yX9_slot.cls ≠ "java/lang/invoke/VarHandle" ∧ (parseMethodDescriptor yX9_slot.desc).map (fun d => d.parameters.length) = some 3) := ⟨tbm (i := 45) (by decide +kernel) (by decide +kernel), tbm (i := 1015) (by decide +kernel) (by decide +kernel), by decide +kernel⟩
theorem yk_X9_ofSlot : Cond.initialized yX9_ofSlot.cls ∈ TB ∧ Cond.code yX9_ofSlot cX9_ofSlot 5 (some .int) ∈ TB ∧ (yX9_ofSlot.cls ≠ "java/lang/invoke/MethodHandle" ∧ yX9_ofSlot.cls ≠ "java/lang/invoke/VarHandle" ∧ (parseMethodDescriptor yX9_ofSlot.desc).map (fun d => d.parameters.length) = some 3) := ⟨tbm (i := 45) (by decide +kernel) (by decide +kernel), tbm (i := 1019) (by decide +kernel) (by decide +kernel), by decide +kernel⟩
theorem yk_X9_door : Cond.initialized yX9_door.cls ∈ TB ∧ Cond.code yX9_door cX9_door 3 (some .int) ∈ TB ∧ (yX9_door.cls ≠ "java/lang/invoke/MethodHandle" ∧ yX9_door.cls ≠ "java/lang/invoke/VarHandle" ∧ (parseMethodDescriptor yX9_door.desc).map (fun d => d.parameters.length) = some 2) := ⟨tbm (i := 45) (by decide +kernel) (by decide +kernel), tbm (i := 1023) (by decide +kernel) (by decide +kernel), by decide +kernel⟩
theorem yk_X9_ofDoor : Cond.initialized yX9_ofDoor.cls ∈ TB ∧ Cond.code yX9_ofDoor cX9_ofDoor 3 (some .int) ∈ TB ∧ (yX9_ofDoor.cls ≠ "java/lang/invoke/MethodHandle" ∧ yX9_ofDoor.cls ≠ "java/lang/invoke/VarHandle" ∧ (parseMethodDescriptor yX9_ofDoor.desc).map (fun d => d.parameters.length) = some 2) := ⟨tbm (i := 45) (by decide +kernel) (by decide +kernel), tbm (i := 1027) (by decide +kernel) (by decide +kernel), by decide +kernel⟩
theorem yk_X9_air : Cond.initialized yX9_air.cls ∈ TB ∧ Cond.code yX9_air cX9_air 2 (some .int) ∈ TB ∧ (yX9_air.cls ≠ "java/lang/invoke/MethodHandle" ∧ yX9_air.cls ≠ "java/lang/invoke/VarHandle" ∧ (parseMethodDescriptor yX9_air.desc).map (fun d => d.parameters.length) = some 1) := ⟨tbm (i := 45) (by decide +kernel) (by decide +kernel), tbm (i := 1031) (by decide +kernel) (by decide +kernel), by decide +kernel⟩
theorem yk_X9_count : Cond.initialized yX9_count.cls ∈ TB ∧ Cond.code yX9_count cX9_count 2 (some .int) ∈ TB ∧ (yX9_count.cls ≠ "java/lang/invoke/MethodHandle" ∧ yX9_count.cls ≠ "java/lang/invoke/VarHandle" ∧ (parseMethodDescriptor yX9_count.desc).map (fun d => d.parameters.length) = some 1) := ⟨tbm (i := 45) (by decide +kernel) (by decide +kernel), tbm (i := 1035) (by decide +kernel) (by decide +kernel), by decide +kernel⟩
theorem yk_X9_counted : Cond.initialized yX9_counted.cls ∈ TB ∧ Cond.code yX9_counted cX9_counted 2 (some .int) ∈ TB ∧ (yX9_counted.cls ≠ "java/lang/invoke/MethodHandle" ∧ yX9_counted.cls ≠ "java/lang/invoke/VarHandle" ∧ (parseMethodDescriptor yX9_counted.desc).map (fun d => d.parameters.length) = some 1) := ⟨tbm (i := 45) (by decide +kernel) (by decide +kernel), tbm (i := 1039) (by decide +kernel) (by decide +kernel), by decide +kernel⟩
theorem yk_X9_ofDoors : Cond.initialized yX9_ofDoors.cls ∈ TB ∧ Cond.code yX9_ofDoors cX9_ofDoors 4 (some .int) ∈ TB ∧ (yX9_ofDoors.cls ≠ "java/lang/invoke/MethodHandle" ∧ yX9_ofDoors.cls ≠ "java/lang/invoke/VarHandle" ∧ (parseMethodDescriptor yX9_ofDoors.desc).map (fun d => d.parameters.length) = some 1) := ⟨tbm (i := 45) (by decide +kernel) (by decide +kernel), tbm (i := 1043) (by decide +kernel) (by decide +kernel), by decide +kernel⟩
theorem yk_X9_setting : Cond.initialized yX9_setting.cls ∈ TB ∧ Cond.code yX9_setting cX9_setting 2 (some .int) ∈ TB ∧ (yX9_setting.cls ≠ "java/lang/invoke/MethodHandle" ∧ yX9_setting.cls ≠ "java/lang/invoke/VarHandle" ∧ (parseMethodDescriptor yX9_setting.desc).map (fun d => d.parameters.length) = some 1) := ⟨tbm (i := 45) (by decide +kernel) (by decide +kernel), tbm (i := 1047) (by decide +kernel) (by decide +kernel), by decide +kernel⟩
theorem yk_X9_ifHeard : Cond.initialized yX9_ifHeard.cls ∈ TB ∧ Cond.code yX9_ifHeard cX9_ifHeard 3 (some .int) ∈ TB ∧ (yX9_ifHeard.cls ≠ "java/lang/invoke/MethodHandle" ∧ yX9_ifHeard.cls ≠ "java/lang/invoke/VarHandle" ∧ (parseMethodDescriptor yX9_ifHeard.desc).map (fun d => d.parameters.length) = some 2) := ⟨tbm (i := 45) (by decide +kernel) (by decide +kernel), tbm (i := 1051) (by decide +kernel) (by decide +kernel), by decide +kernel⟩
theorem yk_X9_opensIn : Cond.initialized yX9_opensIn.cls ∈ TB ∧ Cond.code yX9_opensIn cX9_opensIn 3 (some .int) ∈ TB ∧ (yX9_opensIn.cls ≠ "java/lang/invoke/MethodHandle" ∧ yX9_opensIn.cls ≠ "java/lang/invoke/VarHandle" ∧ (parseMethodDescriptor yX9_opensIn.desc).map (fun d => d.parameters.length) = some 2) := ⟨tbm (i := 45) (by decide +kernel) (by decide +kernel), tbm (i := 1056) (by decide +kernel) (by decide +kernel), by decide +kernel⟩
theorem yk_X9_opens : Cond.initialized yX9_opens.cls ∈ TB ∧ Cond.code yX9_opens cX9_opens 4 (some .int) ∈ TB ∧ (yX9_opens.cls ≠ "java/lang/invoke/MethodHandle" ∧ yX9_opens.cls ≠ "java/lang/invoke/VarHandle" ∧ (parseMethodDescriptor yX9_opens.desc).map (fun d => d.parameters.length) = some 2) := ⟨tbm (i := 45) (by decide +kernel) (by decide +kernel), tbm (i := 1060) (by decide +kernel) (by decide +kernel), by decide +kernel⟩
theorem yk_X9_unheard : Cond.initialized yX9_unheard.cls ∈ TB ∧ Cond.code yX9_unheard cX9_unheard 3 (some .int) ∈ TB ∧ (yX9_unheard.cls ≠ "java/lang/invoke/MethodHandle" ∧ yX9_unheard.cls ≠ "java/lang/invoke/VarHandle" ∧ (parseMethodDescriptor yX9_unheard.desc).map (fun d => d.parameters.length) = some 2) := ⟨tbm (i := 45) (by decide +kernel) (by decide +kernel), tbm (i := 1064) (by decide +kernel) (by decide +kernel), by decide +kernel⟩
theorem yk_X9_misses : Cond.initialized yX9_misses.cls ∈ TB ∧ Cond.code yX9_misses cX9_misses 5 (some .int) ∈ TB ∧ (yX9_misses.cls ≠ "java/lang/invoke/MethodHandle" ∧ yX9_misses.cls ≠ "java/lang/invoke/VarHandle" ∧ (parseMethodDescriptor yX9_misses.desc).map (fun d => d.parameters.length) = some 2) := ⟨tbm (i := 45) (by decide +kernel) (by decide +kernel), tbm (i := 1068) (by decide +kernel) (by decide +kernel), by decide +kernel⟩
theorem yk_X9_useful : Cond.initialized yX9_useful.cls ∈ TB ∧ Cond.code yX9_useful cX9_useful 2 (some .int) ∈ TB ∧ (yX9_useful.cls ≠ "java/lang/invoke/MethodHandle" ∧ yX9_useful.cls ≠ "java/lang/invoke/VarHandle" ∧ (parseMethodDescriptor yX9_useful.desc).map (fun d => d.parameters.length) = some 1) := ⟨tbm (i := 45) (by decide +kernel) (by decide +kernel), tbm (i := 1072) (by decide +kernel) (by decide +kernel), by decide +kernel⟩
theorem yk_X9_first : Cond.initialized yX9_first.cls ∈ TB ∧ Cond.code yX9_first cX9_first 3 (some .int) ∈ TB ∧ (yX9_first.cls ≠ "java/lang/invoke/MethodHandle" ∧ yX9_first.cls ≠ "java/lang/invoke/VarHandle" ∧ (parseMethodDescriptor yX9_first.desc).map (fun d => d.parameters.length) = some 1) := ⟨tbm (i := 45) (by decide +kernel) (by decide +kernel), tbm (i := 1076) (by decide +kernel) (by decide +kernel), by decide +kernel⟩
theorem yk_X9_openShare : Cond.initialized yX9_openShare.cls ∈ TB ∧ Cond.code yX9_openShare cX9_openShare 1 (some .double) ∈ TB ∧ (yX9_openShare.cls ≠ "java/lang/invoke/MethodHandle" ∧ yX9_openShare.cls ≠ "java/lang/invoke/VarHandle" ∧ (parseMethodDescriptor yX9_openShare.desc).map (fun d => d.parameters.length) = some 0) := ⟨tbm (i := 45) (by decide +kernel) (by decide +kernel), tbm (i := 1080) (by decide +kernel) (by decide +kernel), by decide +kernel⟩
theorem yk_X9_share : Cond.initialized yX9_share.cls ∈ TB ∧ Cond.code yX9_share cX9_share 3 (some .double) ∈ TB ∧ (yX9_share.cls ≠ "java/lang/invoke/MethodHandle" ∧ yX9_share.cls ≠ "java/lang/invoke/VarHandle" ∧ (parseMethodDescriptor yX9_share.desc).map (fun d => d.parameters.length) = some 0) := ⟨tbm (i := 45) (by decide +kernel) (by decide +kernel), tbm (i := 1084) (by decide +kernel) (by decide +kernel), by decide +kernel⟩
theorem yk_X9_digest : Cond.initialized yX9_digest.cls ∈ TB ∧ Cond.code yX9_digest cX9_digest 5 (some .long) ∈ TB ∧ (yX9_digest.cls ≠ "java/lang/invoke/MethodHandle" ∧ yX9_digest.cls ≠ "java/lang/invoke/VarHandle" ∧ (parseMethodDescriptor yX9_digest.desc).map (fun d => d.parameters.length) = some 0) := ⟨tbm (i := 45) (by decide +kernel) (by decide +kernel), tbm (i := 1088) (by decide +kernel) (by decide +kernel), by decide +kernel⟩
theorem fl_X2_9 : FL RX2 9 2 0 := ⟨RX2, TX2, 4, rfl, by decide, tbm (i := 77) (by decide +kernel) (by decide +kernel)⟩
theorem fl_X8_59 : FL RX8 59 2 0 := ⟨RX2, TX2, 4, rfl, by decide, tbm (i := 78) (by decide +kernel) (by decide +kernel)⟩
theorem fl_X5_25 : FL RX5 25 2 0 := ⟨RX2, TX2, 4, rfl, by decide, tbm (i := 79) (by decide +kernel) (by decide +kernel)⟩
theorem fl_X2_18 : FL RX2 18 2 1 := ⟨RX2, TX2, 4, rfl, by decide, tbm (i := 80) (by decide +kernel) (by decide +kernel)⟩
theorem fl_X8_53 : FL RX8 53 2 1 := ⟨RX2, TX2, 4, rfl, by decide, tbm (i := 81) (by decide +kernel) (by decide +kernel)⟩
theorem fl_X5_28 : FL RX5 28 2 1 := ⟨RX2, TX2, 4, rfl, by decide, tbm (i := 82) (by decide +kernel) (by decide +kernel)⟩
theorem fl_X2_15 : FL RX2 15 2 2 := ⟨RX2, TX2, 4, rfl, by decide, tbm (i := 83) (by decide +kernel) (by decide +kernel)⟩
theorem fl_X6_61 : FL RX6 61 2 2 := ⟨RX2, TX2, 4, rfl, by decide, tbm (i := 84) (by decide +kernel) (by decide +kernel)⟩
theorem fl_X8_62 : FL RX8 62 2 2 := ⟨RX2, TX2, 4, rfl, by decide, tbm (i := 85) (by decide +kernel) (by decide +kernel)⟩
theorem fl_X2_21 : FL RX2 21 2 3 := ⟨RX2, TX2, 4, rfl, by decide, tbm (i := 86) (by decide +kernel) (by decide +kernel)⟩
theorem fl_X6_102 : FL RX6 102 2 3 := ⟨RX2, TX2, 4, rfl, by decide, tbm (i := 87) (by decide +kernel) (by decide +kernel)⟩
theorem fl_X5_21 : FL RX5 21 5 0 := ⟨RX5, TX5, 4, rfl, by decide, tbm (i := 111) (by decide +kernel) (by decide +kernel)⟩
theorem fl_X8_107 : FL RX8 107 5 0 := ⟨RX5, TX5, 4, rfl, by decide, tbm (i := 112) (by decide +kernel) (by decide +kernel)⟩
theorem fl_X5_9 : FL RX5 9 5 1 := ⟨RX5, TX5, 4, rfl, by decide, tbm (i := 113) (by decide +kernel) (by decide +kernel)⟩
theorem fl_X5_15 : FL RX5 15 5 2 := ⟨RX5, TX5, 4, rfl, by decide, tbm (i := 114) (by decide +kernel) (by decide +kernel)⟩
theorem fl_X5_18 : FL RX5 18 5 3 := ⟨RX5, TX5, 4, rfl, by decide, tbm (i := 115) (by decide +kernel) (by decide +kernel)⟩
theorem fl_X1_11 : FL RX1 11 1 0 := ⟨RX1, TX1, 7, rfl, by decide, tbm (i := 125) (by decide +kernel) (by decide +kernel)⟩
theorem fl_X8_93 : FL RX8 93 1 0 := ⟨RX1, TX1, 7, rfl, by decide, tbm (i := 126) (by decide +kernel) (by decide +kernel)⟩
theorem fl_X1_22 : FL RX1 22 1 1 := ⟨RX1, TX1, 7, rfl, by decide, tbm (i := 127) (by decide +kernel) (by decide +kernel)⟩
theorem fl_X6_98 : FL RX6 98 1 1 := ⟨RX1, TX1, 7, rfl, by decide, tbm (i := 128) (by decide +kernel) (by decide +kernel)⟩
theorem fl_X8_114 : FL RX8 114 1 1 := ⟨RX1, TX1, 7, rfl, by decide, tbm (i := 129) (by decide +kernel) (by decide +kernel)⟩
theorem fl_X1_26 : FL RX1 26 1 2 := ⟨RX1, TX1, 7, rfl, by decide, tbm (i := 130) (by decide +kernel) (by decide +kernel)⟩
theorem fl_X8_117 : FL RX8 117 1 2 := ⟨RX1, TX1, 7, rfl, by decide, tbm (i := 131) (by decide +kernel) (by decide +kernel)⟩
theorem fl_X1_30 : FL RX1 30 1 3 := ⟨RX1, TX1, 7, rfl, by decide, tbm (i := 132) (by decide +kernel) (by decide +kernel)⟩
theorem fl_X6_105 : FL RX6 105 1 3 := ⟨RX1, TX1, 7, rfl, by decide, tbm (i := 133) (by decide +kernel) (by decide +kernel)⟩
theorem fl_X1_33 : FL RX1 33 1 4 := ⟨RX1, TX1, 7, rfl, by decide, tbm (i := 134) (by decide +kernel) (by decide +kernel)⟩
theorem fl_X1_36 : FL RX1 36 1 5 := ⟨RX1, TX1, 7, rfl, by decide, tbm (i := 135) (by decide +kernel) (by decide +kernel)⟩
theorem fl_X6_108 : FL RX6 108 1 5 := ⟨RX1, TX1, 7, rfl, by decide, tbm (i := 136) (by decide +kernel) (by decide +kernel)⟩
theorem fl_X1_39 : FL RX1 39 1 6 := ⟨RX1, TX1, 7, rfl, by decide, tbm (i := 137) (by decide +kernel) (by decide +kernel)⟩
theorem fl_X0_9 : FL RX0 9 0 0 := ⟨RX0, TX0, 2, rfl, by decide, tbm (i := 159) (by decide +kernel) (by decide +kernel)⟩
theorem fl_X0_21 : FL RX0 21 0 1 := ⟨RX0, TX0, 2, rfl, by decide, tbm (i := 160) (by decide +kernel) (by decide +kernel)⟩
theorem fl_X6_64 : FL RX6 64 0 1 := ⟨RX0, TX0, 2, rfl, by decide, tbm (i := 161) (by decide +kernel) (by decide +kernel)⟩
theorem fl_X8_81 : FL RX8 81 0 1 := ⟨RX0, TX0, 2, rfl, by decide, tbm (i := 162) (by decide +kernel) (by decide +kernel)⟩
theorem fl_X4_7 : FL RX4 7 4 0 := ⟨RX4, TX4, 3, rfl, by decide, tbm (i := 175) (by decide +kernel) (by decide +kernel)⟩
theorem fl_X1_62 : FL RX1 62 4 0 := ⟨RX4, TX4, 3, rfl, by decide, tbm (i := 176) (by decide +kernel) (by decide +kernel)⟩
theorem fl_X4_13 : FL RX4 13 4 1 := ⟨RX4, TX4, 3, rfl, by decide, tbm (i := 177) (by decide +kernel) (by decide +kernel)⟩
theorem fl_X1_55 : FL RX1 55 4 1 := ⟨RX4, TX4, 3, rfl, by decide, tbm (i := 178) (by decide +kernel) (by decide +kernel)⟩
theorem fl_X4_16 : FL RX4 16 4 2 := ⟨RX4, TX4, 3, rfl, by decide, tbm (i := 179) (by decide +kernel) (by decide +kernel)⟩
theorem fl_X1_42 : FL RX1 42 4 2 := ⟨RX4, TX4, 3, rfl, by decide, tbm (i := 180) (by decide +kernel) (by decide +kernel)⟩
theorem fl_X6_11 : FL RX6 11 6 0 := ⟨RX6, TX6, 6, rfl, by decide, tbm (i := 188) (by decide +kernel) (by decide +kernel)⟩
theorem fl_X8_49 : FL RX8 49 6 0 := ⟨RX6, TX6, 6, rfl, by decide, tbm (i := 189) (by decide +kernel) (by decide +kernel)⟩
theorem fl_X6_22 : FL RX6 22 6 1 := ⟨RX6, TX6, 6, rfl, by decide, tbm (i := 190) (by decide +kernel) (by decide +kernel)⟩
theorem fl_X8_89 : FL RX8 89 6 1 := ⟨RX6, TX6, 6, rfl, by decide, tbm (i := 191) (by decide +kernel) (by decide +kernel)⟩
theorem fl_X6_30 : FL RX6 30 6 2 := ⟨RX6, TX6, 6, rfl, by decide, tbm (i := 192) (by decide +kernel) (by decide +kernel)⟩
theorem fl_X8_77 : FL RX8 77 6 2 := ⟨RX6, TX6, 6, rfl, by decide, tbm (i := 193) (by decide +kernel) (by decide +kernel)⟩
theorem fl_X6_37 : FL RX6 37 6 3 := ⟨RX6, TX6, 6, rfl, by decide, tbm (i := 194) (by decide +kernel) (by decide +kernel)⟩
theorem fl_X8_129 : FL RX8 129 6 3 := ⟨RX6, TX6, 6, rfl, by decide, tbm (i := 195) (by decide +kernel) (by decide +kernel)⟩
theorem fl_X6_54 : FL RX6 54 6 4 := ⟨RX6, TX6, 6, rfl, by decide, tbm (i := 196) (by decide +kernel) (by decide +kernel)⟩
theorem fl_X8_246 : FL RX8 246 6 4 := ⟨RX6, TX6, 6, rfl, by decide, tbm (i := 197) (by decide +kernel) (by decide +kernel)⟩
theorem fl_X6_58 : FL RX6 58 6 5 := ⟨RX6, TX6, 6, rfl, by decide, tbm (i := 198) (by decide +kernel) (by decide +kernel)⟩
theorem fl_X8_249 : FL RX8 249 6 5 := ⟨RX6, TX6, 6, rfl, by decide, tbm (i := 199) (by decide +kernel) (by decide +kernel)⟩
theorem fl_X3_11 : FL RX3 11 3 0 := ⟨RX3, TX3, 3, rfl, by decide, tbm (i := 222) (by decide +kernel) (by decide +kernel)⟩
theorem fl_X3_18 : FL RX3 18 3 1 := ⟨RX3, TX3, 3, rfl, by decide, tbm (i := 223) (by decide +kernel) (by decide +kernel)⟩
theorem fl_X3_26 : FL RX3 26 3 2 := ⟨RX3, TX3, 3, rfl, by decide, tbm (i := 224) (by decide +kernel) (by decide +kernel)⟩
theorem fl_X8_161 : FL RX8 161 3 2 := ⟨RX3, TX3, 3, rfl, by decide, tbm (i := 225) (by decide +kernel) (by decide +kernel)⟩
theorem fl_X7_9 : FL RX7 9 7 0 := ⟨RX7, TX7, 2, rfl, by decide, tbm (i := 239) (by decide +kernel) (by decide +kernel)⟩
theorem fl_X7_15 : FL RX7 15 7 1 := ⟨RX7, TX7, 2, rfl, by decide, tbm (i := 240) (by decide +kernel) (by decide +kernel)⟩
theorem fl_X8_139 : FL RX8 139 7 1 := ⟨RX7, TX7, 2, rfl, by decide, tbm (i := 241) (by decide +kernel) (by decide +kernel)⟩
theorem fl_X8_10 : FL RX8 10 8 0 := ⟨RX8, TX8, 4, rfl, by decide, tbm (i := 249) (by decide +kernel) (by decide +kernel)⟩
theorem fl_X8_19 : FL RX8 19 8 1 := ⟨RX8, TX8, 4, rfl, by decide, tbm (i := 250) (by decide +kernel) (by decide +kernel)⟩
theorem fl_X8_26 : FL RX8 26 8 2 := ⟨RX8, TX8, 4, rfl, by decide, tbm (i := 251) (by decide +kernel) (by decide +kernel)⟩
theorem fl_X8_33 : FL RX8 33 8 3 := ⟨RX8, TX8, 4, rfl, by decide, tbm (i := 252) (by decide +kernel) (by decide +kernel)⟩
theorem mv_L_127 : MV RL 127 yX8_clearBuffer cX8_clearBuffer 2 (some .int) 0 := ⟨⟨tbm (i := 262) (by decide +kernel) (by decide +kernel), yk_X8_clearBuffer⟩, tbm (i := 263) (by decide +kernel) (by decide +kernel), tbm (i := 264) (by decide +kernel) (by decide +kernel)⟩
theorem mv_L_131 : MV RL 131 yX8_firstError cX8_firstError 1 (some .int) 0 := ⟨⟨tbm (i := 266) (by decide +kernel) (by decide +kernel), yk_X8_firstError⟩, tbm (i := 267) (by decide +kernel) (by decide +kernel), tbm (i := 268) (by decide +kernel) (by decide +kernel)⟩
theorem mv_X8_144 : MV RX8 144 yX7_goodLength cX7_goodLength 3 (some .int) 0 := ⟨⟨tbm (i := 270) (by decide +kernel) (by decide +kernel), yk_X7_goodLength⟩, tbm (i := 271) (by decide +kernel) (by decide +kernel), tbm (i := 272) (by decide +kernel) (by decide +kernel)⟩
theorem mv_X7_19 : MV RX7 19 yX7_code cX7_code 2 (some .int) 1 := ⟨⟨tbm (i := 274) (by decide +kernel) (by decide +kernel), yk_X7_code⟩, tbm (i := 275) (by decide +kernel) (by decide +kernel), tbm (i := 276) (by decide +kernel) (by decide +kernel)⟩
theorem ms_X7_23 : MS RX7 23 yX7_expectedBehind cX7_expectedBehind 2 (some .int) 2 := ⟨⟨tbm (i := 278) (by decide +kernel) (by decide +kernel), yk_X7_expectedBehind⟩, tbm (i := 279) (by decide +kernel) (by decide +kernel)⟩
theorem ms_X7_30 : MS RX7 30 yX7_expectedInPart cX7_expectedInPart 1 (some .int) 1 := ⟨⟨tbm (i := 281) (by decide +kernel) (by decide +kernel), yk_X7_expectedInPart⟩, tbm (i := 282) (by decide +kernel) (by decide +kernel)⟩
theorem ms_X7_33 : MS RX7 33 yX7_expectedInSet cX7_expectedInSet 3 (some .int) 2 := ⟨⟨tbm (i := 284) (by decide +kernel) (by decide +kernel), yk_X7_expectedInSet⟩, tbm (i := 285) (by decide +kernel) (by decide +kernel)⟩
theorem mv_L_172 : MV RL 172 yX8_openShare cX8_openShare 3 (some .double) 0 := ⟨⟨tbm (i := 287) (by decide +kernel) (by decide +kernel), yk_X8_openShare⟩, tbm (i := 288) (by decide +kernel) (by decide +kernel), tbm (i := 289) (by decide +kernel) (by decide +kernel)⟩
theorem mv_X8_194 : MV RX8 194 yX6_timesOpened cX6_timesOpened 6 (some .int) 0 := ⟨⟨tbm (i := 291) (by decide +kernel) (by decide +kernel), yk_X6_timesOpened⟩, tbm (i := 292) (by decide +kernel) (by decide +kernel), tbm (i := 293) (by decide +kernel) (by decide +kernel)⟩
theorem mv_X8_197 : MV RX8 197 yX6_wrongNumbers cX6_wrongNumbers 6 (some .int) 0 := ⟨⟨tbm (i := 295) (by decide +kernel) (by decide +kernel), yk_X6_wrongNumbers⟩, tbm (i := 296) (by decide +kernel) (by decide +kernel), tbm (i := 297) (by decide +kernel) (by decide +kernel)⟩
theorem mv_L_177 : MV RL 177 yX8_digest cX8_digest 8 (some .long) 0 := ⟨⟨tbm (i := 299) (by decide +kernel) (by decide +kernel), yk_X8_digest⟩, tbm (i := 300) (by decide +kernel) (by decide +kernel), tbm (i := 301) (by decide +kernel) (by decide +kernel)⟩
theorem kc_X8_200 : Cond.constantLong RX8 200 (3257 : Int64) ∈ TB := tbm (i := 303) (by decide +kernel) (by decide +kernel)
theorem mv_X8_175 : MV RX8 175 yX8_counted cX8_counted 2 (some .int) 1 := ⟨⟨tbm (i := 304) (by decide +kernel) (by decide +kernel), yk_X8_counted⟩, tbm (i := 306) (by decide +kernel) (by decide +kernel), tbm (i := 0) (by decide +kernel) (by decide +kernel)⟩
theorem mv_X8_243 : MV RX8 243 yX6_presses cX6_presses 6 (some .int) 0 := ⟨⟨tbm (i := 308) (by decide +kernel) (by decide +kernel), yk_X6_presses⟩, tbm (i := 309) (by decide +kernel) (by decide +kernel), tbm (i := 310) (by decide +kernel) (by decide +kernel)⟩
theorem mv_X8_252 : MV RX8 252 yX6_openDoors cX6_openDoors 6 (some .int) 0 := ⟨⟨tbm (i := 312) (by decide +kernel) (by decide +kernel), yk_X6_openDoors⟩, tbm (i := 313) (by decide +kernel) (by decide +kernel), tbm (i := 314) (by decide +kernel) (by decide +kernel)⟩
theorem mv_X8_255 : MV RX8 255 yX6_lockedDoors cX6_lockedDoors 6 (some .int) 0 := ⟨⟨tbm (i := 316) (by decide +kernel) (by decide +kernel), yk_X6_lockedDoors⟩, tbm (i := 317) (by decide +kernel) (by decide +kernel), tbm (i := 318) (by decide +kernel) (by decide +kernel)⟩
theorem mv_X6_111 : MV RX6 111 yX1_isLocked cX1_isLocked 2 (some .boolean) 1 := ⟨⟨tbm (i := 320) (by decide +kernel) (by decide +kernel), yk_X1_isLocked⟩, tbm (i := 321) (by decide +kernel) (by decide +kernel), tbm (i := 322) (by decide +kernel) (by decide +kernel)⟩
theorem ms_X8_202 : MS RX8 202 yX8_mixed cX8_mixed 4 (some .long) 2 := ⟨⟨tbm (i := 324) (by decide +kernel) (by decide +kernel), yk_X8_mixed⟩, tbm (i := 325) (by decide +kernel) (by decide +kernel)⟩
theorem kc_X8_276 : Cond.constantLong RX8 276 (31 : Int64) ∈ TB := tbm (i := 327) (by decide +kernel) (by decide +kernel)
theorem mv_X8_133 : MV RX8 133 yX4_value cX4_value 2 (some .int) 1 := ⟨⟨tbm (i := 328) (by decide +kernel) (by decide +kernel), yk_X4_value⟩, tbm (i := 329) (by decide +kernel) (by decide +kernel), tbm (i := 330) (by decide +kernel) (by decide +kernel)⟩
theorem mv_X8_165 : MV RX8 165 yX2_look cX2_look 2 (some .int) 1 := ⟨⟨tbm (i := 332) (by decide +kernel) (by decide +kernel), yk_X2_look⟩, tbm (i := 333) (by decide +kernel) (by decide +kernel), tbm (i := 334) (by decide +kernel) (by decide +kernel)⟩
theorem mn_X2_24 : MN RX2 24 yX8_counterBehind "RollingFob" cX8_counterBehind 1 (some .int) 1 := ⟨⟨by decide +kernel, yk_X8_counterBehind⟩, tbm (i := 337) (by decide +kernel) (by decide +kernel)⟩
theorem mn_X2_28 : MN RX2 28 yX8_numberOf "RollingFob" cX8_numberOf 2 (some .int) 2 := ⟨⟨by decide +kernel, yk_X8_numberOf⟩, tbm (i := 340) (by decide +kernel) (by decide +kernel)⟩
theorem kc_X8_230 : Cond.constant RX8 230 (40503 : Int32) ∈ TB := tbm (i := 342) (by decide +kernel) (by decide +kernel)
theorem kc_X8_178 : Cond.constant RX8 178 (65535 : Int32) ∈ TB := tbm (i := 343) (by decide +kernel) (by decide +kernel)
theorem mv_X8_206 : MV RX8 206 yX8_mixedDoor cX8_mixedDoor 11 (some .long) 2 := ⟨⟨tbm (i := 344) (by decide +kernel) (by decide +kernel), yk_X8_mixedDoor⟩, tbm (i := 346) (by decide +kernel) (by decide +kernel), tbm (i := 1) (by decide +kernel) (by decide +kernel)⟩
theorem mv_X8_169 : MV RX8 169 yX1_look cX1_look 3 (some .int) 2 := ⟨⟨tbm (i := 348) (by decide +kernel) (by decide +kernel), yk_X1_look⟩, tbm (i := 349) (by decide +kernel) (by decide +kernel), tbm (i := 350) (by decide +kernel) (by decide +kernel)⟩
theorem mv_X1_51 : MV RX1 51 yX1_isLocked cX1_isLocked 2 (some .boolean) 1 := ⟨⟨tbm (i := 352) (by decide +kernel) (by decide +kernel), yk_X1_isLocked⟩, tbm (i := 321) (by decide +kernel) (by decide +kernel), tbm (i := 322) (by decide +kernel) (by decide +kernel)⟩
theorem mv_X1_69 : MV RX1 69 yX1_learntSlots cX1_learntSlots 6 (some .int) 0 := ⟨⟨tbm (i := 353) (by decide +kernel) (by decide +kernel), yk_X1_learntSlots⟩, tbm (i := 354) (by decide +kernel) (by decide +kernel), tbm (i := 355) (by decide +kernel) (by decide +kernel)⟩
theorem mv_X1_47 : MV RX1 47 yX5_look cX5_look 2 (some .int) 1 := ⟨⟨tbm (i := 357) (by decide +kernel) (by decide +kernel), yk_X5_look⟩, tbm (i := 358) (by decide +kernel) (by decide +kernel), tbm (i := 359) (by decide +kernel) (by decide +kernel)⟩
theorem mv_X8_168 : MV RX8 168 yX5_look cX5_look 2 (some .int) 1 := ⟨⟨tbm (i := 361) (by decide +kernel) (by decide +kernel), yk_X5_look⟩, tbm (i := 358) (by decide +kernel) (by decide +kernel), tbm (i := 359) (by decide +kernel) (by decide +kernel)⟩
theorem mv_X8_190 : MV RX8 190 yX8_firstUseful cX8_firstUseful 3 (some .int) 1 := ⟨⟨tbm (i := 362) (by decide +kernel) (by decide +kernel), yk_X8_firstUseful⟩, tbm (i := 364) (by decide +kernel) (by decide +kernel), tbm (i := 2) (by decide +kernel) (by decide +kernel)⟩
theorem mv_X8_172 : MV RX8 172 yX0_number cX0_number 2 (some .int) 1 := ⟨⟨tbm (i := 366) (by decide +kernel) (by decide +kernel), yk_X0_number⟩, tbm (i := 367) (by decide +kernel) (by decide +kernel), tbm (i := 368) (by decide +kernel) (by decide +kernel)⟩
theorem mv_X8_179 : MV RX8 179 yX8_tryNumber cX8_tryNumber 3 (some .int) 2 := ⟨⟨tbm (i := 370) (by decide +kernel) (by decide +kernel), yk_X8_tryNumber⟩, tbm (i := 372) (by decide +kernel) (by decide +kernel), tbm (i := 3) (by decide +kernel) (by decide +kernel)⟩
theorem mv_X8_258 : MV RX8 258 yX1_copyFrom cX1_copyFrom 3 none 1 := ⟨⟨tbm (i := 374) (by decide +kernel) (by decide +kernel), yk_X1_copyFrom⟩, tbm (i := 375) (by decide +kernel) (by decide +kernel), tbm (i := 376) (by decide +kernel) (by decide +kernel)⟩
theorem mv_X1_18 : MV RX1 18 yX5_copyFrom cX5_copyFrom 2 none 1 := ⟨⟨tbm (i := 378) (by decide +kernel) (by decide +kernel), yk_X5_copyFrom⟩, tbm (i := 379) (by decide +kernel) (by decide +kernel), tbm (i := 380) (by decide +kernel) (by decide +kernel)⟩
theorem mv_X8_262 : MV RX8 262 yX1_hear cX1_hear 8 (some .int) 2 := ⟨⟨tbm (i := 382) (by decide +kernel) (by decide +kernel), yk_X1_hear⟩, tbm (i := 383) (by decide +kernel) (by decide +kernel), tbm (i := 384) (by decide +kernel) (by decide +kernel)⟩
theorem mv_X1_58 : MV RX1 58 yX5_stepsTo cX5_stepsTo 5 (some .int) 2 := ⟨⟨tbm (i := 386) (by decide +kernel) (by decide +kernel), yk_X5_stepsTo⟩, tbm (i := 387) (by decide +kernel) (by decide +kernel), tbm (i := 388) (by decide +kernel) (by decide +kernel)⟩
theorem mn_X5_31 : MN RX5 31 yX8_counterBehind "RollingFob" cX8_counterBehind 1 (some .int) 1 := ⟨⟨by decide +kernel, yk_X8_counterBehind⟩, tbm (i := 337) (by decide +kernel) (by decide +kernel)⟩
theorem mn_X5_35 : MN RX5 35 yX8_numberOf "RollingFob" cX8_numberOf 2 (some .int) 2 := ⟨⟨by decide +kernel, yk_X8_numberOf⟩, tbm (i := 340) (by decide +kernel) (by decide +kernel)⟩
theorem mv_X1_65 : MV RX1 65 yX5_take cX5_take 4 (some .boolean) 2 := ⟨⟨tbm (i := 392) (by decide +kernel) (by decide +kernel), yk_X5_take⟩, tbm (i := 393) (by decide +kernel) (by decide +kernel), tbm (i := 394) (by decide +kernel) (by decide +kernel)⟩
theorem mv_X8_183 : MV RX8 183 yX8_pressesToOpen cX8_pressesToOpen 7 (some .int) 2 := ⟨⟨tbm (i := 396) (by decide +kernel) (by decide +kernel), yk_X8_pressesToOpen⟩, tbm (i := 398) (by decide +kernel) (by decide +kernel), tbm (i := 4) (by decide +kernel) (by decide +kernel)⟩
theorem ms_X8_270 : MS RX8 270 yX8_counterBehind cX8_counterBehind 1 (some .int) 1 := ⟨⟨tbm (i := 403) (by decide +kernel) (by decide +kernel), yk_X8_counterBehind⟩, tbm (i := 337) (by decide +kernel) (by decide +kernel)⟩
theorem ms_X8_273 : MS RX8 273 yX8_numberOf cX8_numberOf 2 (some .int) 2 := ⟨⟨tbm (i := 404) (by decide +kernel) (by decide +kernel), yk_X8_numberOf⟩, tbm (i := 340) (by decide +kernel) (by decide +kernel)⟩
theorem mv_X8_187 : MV RX8 187 yX8_mostUnheard cX8_mostUnheard 6 (some .int) 2 := ⟨⟨tbm (i := 405) (by decide +kernel) (by decide +kernel), yk_X8_mostUnheard⟩, tbm (i := 407) (by decide +kernel) (by decide +kernel), tbm (i := 5) (by decide +kernel) (by decide +kernel)⟩
theorem mv_X8_210 : MV RX8 210 yX8_openShare cX8_openShare 3 (some .double) 0 := ⟨⟨tbm (i := 409) (by decide +kernel) (by decide +kernel), yk_X8_openShare⟩, tbm (i := 288) (by decide +kernel) (by decide +kernel), tbm (i := 289) (by decide +kernel) (by decide +kernel)⟩
theorem ms_X8_214 : MS RX8 214 yX8_shareBits cX8_shareBits 6 (some .long) 1 := ⟨⟨tbm (i := 410) (by decide +kernel) (by decide +kernel), yk_X8_shareBits⟩, tbm (i := 411) (by decide +kernel) (by decide +kernel)⟩
theorem kc_X8_278 : Cond.constantLong RX8 278 (1023 : Int64) ∈ TB := tbm (i := 413) (by decide +kernel) (by decide +kernel)
theorem kc_X8_280 : Cond.constantDouble RX8 280 (4611686018427387904 : UInt64) ∈ TB := tbm (i := 414) (by decide +kernel) (by decide +kernel)
theorem kc_X8_282 : Cond.constantDouble RX8 282 (4841369599423283200 : UInt64) ∈ TB := tbm (i := 415) (by decide +kernel) (by decide +kernel)
theorem mv_X8_218 : MV RX8 218 yX7_code cX7_code 2 (some .int) 1 := ⟨⟨tbm (i := 416) (by decide +kernel) (by decide +kernel), yk_X7_code⟩, tbm (i := 275) (by decide +kernel) (by decide +kernel), tbm (i := 276) (by decide +kernel) (by decide +kernel)⟩
theorem mv_L_7 : MV RL 7 yX8_make cX8_make 6 (some .int) 3 := ⟨⟨tbm (i := 422) (by decide +kernel) (by decide +kernel), yk_X8_make⟩, tbm (i := 423) (by decide +kernel) (by decide +kernel), tbm (i := 424) (by decide +kernel) (by decide +kernel)⟩
theorem ms_X8_37 : MS RX8 37 yX8_needIndex cX8_needIndex 2 none 2 := ⟨⟨tbm (i := 426) (by decide +kernel) (by decide +kernel), yk_X8_needIndex⟩, tbm (i := 427) (by decide +kernel) (by decide +kernel)⟩
theorem ms_X8_41 : MS RX8 41 yX8_needRange cX8_needRange 3 none 3 := ⟨⟨tbm (i := 492) (by decide +kernel) (by decide +kernel), yk_X8_needRange⟩, tbm (i := 493) (by decide +kernel) (by decide +kernel)⟩
theorem ms_X8_151 : MS RX8 151 yX8_needArgument cX8_needArgument 1 none 1 := ⟨⟨tbm (i := 495) (by decide +kernel) (by decide +kernel), yk_X8_needArgument⟩, tbm (i := 496) (by decide +kernel) (by decide +kernel)⟩
theorem mv_X8_45 : MV RX8 45 yX3_keep cX3_keep 2 none 1 := ⟨⟨tbm (i := 513) (by decide +kernel) (by decide +kernel), yk_X3_keep⟩, tbm (i := 514) (by decide +kernel) (by decide +kernel), tbm (i := 515) (by decide +kernel) (by decide +kernel)⟩
theorem mv_X3_22 : MV RX3 22 yX6_copyFrom cX6_copyFrom 3 none 1 := ⟨⟨tbm (i := 517) (by decide +kernel) (by decide +kernel), yk_X6_copyFrom⟩, tbm (i := 518) (by decide +kernel) (by decide +kernel), tbm (i := 519) (by decide +kernel) (by decide +kernel)⟩
theorem mv_X6_41 : MV RX6 41 yX2_copyFrom cX2_copyFrom 2 none 1 := ⟨⟨tbm (i := 521) (by decide +kernel) (by decide +kernel), yk_X2_copyFrom⟩, tbm (i := 522) (by decide +kernel) (by decide +kernel), tbm (i := 523) (by decide +kernel) (by decide +kernel)⟩
theorem mv_X6_45 : MV RX6 45 yX1_copyFrom cX1_copyFrom 3 none 1 := ⟨⟨tbm (i := 525) (by decide +kernel) (by decide +kernel), yk_X1_copyFrom⟩, tbm (i := 375) (by decide +kernel) (by decide +kernel), tbm (i := 376) (by decide +kernel) (by decide +kernel)⟩
theorem mv_X6_48 : MV RX6 48 yX0_copyFrom cX0_copyFrom 2 none 1 := ⟨⟨tbm (i := 526) (by decide +kernel) (by decide +kernel), yk_X0_copyFrom⟩, tbm (i := 527) (by decide +kernel) (by decide +kernel), tbm (i := 528) (by decide +kernel) (by decide +kernel)⟩
theorem mv_X6_51 : MV RX6 51 yX4_copyFrom cX4_copyFrom 2 none 1 := ⟨⟨tbm (i := 533) (by decide +kernel) (by decide +kernel), yk_X4_copyFrom⟩, tbm (i := 534) (by decide +kernel) (by decide +kernel), tbm (i := 535) (by decide +kernel) (by decide +kernel)⟩
theorem mv_L_17 : MV RL 17 yX8_battery cX8_battery 5 (some .int) 2 := ⟨⟨tbm (i := 541) (by decide +kernel) (by decide +kernel), yk_X8_battery⟩, tbm (i := 542) (by decide +kernel) (by decide +kernel), tbm (i := 543) (by decide +kernel) (by decide +kernel)⟩
theorem mv_L_21 : MV RL 21 yX8_press cX8_press 3 (some .int) 2 := ⟨⟨tbm (i := 549) (by decide +kernel) (by decide +kernel), yk_X8_press⟩, tbm (i := 550) (by decide +kernel) (by decide +kernel), tbm (i := 551) (by decide +kernel) (by decide +kernel)⟩
theorem mv_X8_65 : MV RX8 65 yX6_canPress cX6_canPress 2 (some .boolean) 1 := ⟨⟨tbm (i := 553) (by decide +kernel) (by decide +kernel), yk_X6_canPress⟩, tbm (i := 554) (by decide +kernel) (by decide +kernel), tbm (i := 555) (by decide +kernel) (by decide +kernel)⟩
theorem ms_X8_69 : MS RX8 69 yX8_needState cX8_needState 1 none 1 := ⟨⟨tbm (i := 557) (by decide +kernel) (by decide +kernel), yk_X8_needState⟩, tbm (i := 558) (by decide +kernel) (by decide +kernel)⟩
theorem mv_X8_73 : MV RX8 73 yX6_pressFob cX6_pressFob 4 (some .int) 2 := ⟨⟨tbm (i := 575) (by decide +kernel) (by decide +kernel), yk_X6_pressFob⟩, tbm (i := 576) (by decide +kernel) (by decide +kernel), tbm (i := 577) (by decide +kernel) (by decide +kernel)⟩
theorem mv_X6_67 : MV RX6 67 yX6_canPress cX6_canPress 2 (some .boolean) 1 := ⟨⟨tbm (i := 579) (by decide +kernel) (by decide +kernel), yk_X6_canPress⟩, tbm (i := 554) (by decide +kernel) (by decide +kernel), tbm (i := 555) (by decide +kernel) (by decide +kernel)⟩
theorem mv_X6_71 : MV RX6 71 yX2_sendNext cX2_sendNext 1 (some .int) 0 := ⟨⟨tbm (i := 580) (by decide +kernel) (by decide +kernel), yk_X2_sendNext⟩, tbm (i := 581) (by decide +kernel) (by decide +kernel), tbm (i := 582) (by decide +kernel) (by decide +kernel)⟩
theorem mv_X6_75 : MV RX6 75 yX0_record cX0_record 2 none 1 := ⟨⟨tbm (i := 584) (by decide +kernel) (by decide +kernel), yk_X0_record⟩, tbm (i := 585) (by decide +kernel) (by decide +kernel), tbm (i := 586) (by decide +kernel) (by decide +kernel)⟩
theorem mv_X6_78 : MV RX6 78 yX6_send cX6_send 6 (some .int) 2 := ⟨⟨tbm (i := 589) (by decide +kernel) (by decide +kernel), yk_X6_send⟩, tbm (i := 591) (by decide +kernel) (by decide +kernel), tbm (i := 7) (by decide +kernel) (by decide +kernel)⟩
theorem mv_X6_94 : MV RX6 94 yX1_hear cX1_hear 8 (some .int) 2 := ⟨⟨tbm (i := 593) (by decide +kernel) (by decide +kernel), yk_X1_hear⟩, tbm (i := 383) (by decide +kernel) (by decide +kernel), tbm (i := 384) (by decide +kernel) (by decide +kernel)⟩
theorem mv_L_26 : MV RL 26 yX8_again cX8_again 3 (some .int) 2 := ⟨⟨tbm (i := 597) (by decide +kernel) (by decide +kernel), yk_X8_again⟩, tbm (i := 598) (by decide +kernel) (by decide +kernel), tbm (i := 599) (by decide +kernel) (by decide +kernel)⟩
theorem mv_X8_86 : MV RX8 86 yX6_sendAgain cX6_sendAgain 4 (some .int) 2 := ⟨⟨tbm (i := 601) (by decide +kernel) (by decide +kernel), yk_X6_sendAgain⟩, tbm (i := 602) (by decide +kernel) (by decide +kernel), tbm (i := 603) (by decide +kernel) (by decide +kernel)⟩
theorem mv_X6_82 : MV RX6 82 yX6_canSendAgain cX6_canSendAgain 2 (some .boolean) 1 := ⟨⟨tbm (i := 605) (by decide +kernel) (by decide +kernel), yk_X6_canSendAgain⟩, tbm (i := 606) (by decide +kernel) (by decide +kernel), tbm (i := 607) (by decide +kernel) (by decide +kernel)⟩
theorem mv_X6_85 : MV RX6 85 yX0_number cX0_number 2 (some .int) 1 := ⟨⟨tbm (i := 609) (by decide +kernel) (by decide +kernel), yk_X0_number⟩, tbm (i := 367) (by decide +kernel) (by decide +kernel), tbm (i := 368) (by decide +kernel) (by decide +kernel)⟩
theorem mv_L_29 : MV RL 29 yX8_learn cX8_learn 5 (some .int) 3 := ⟨⟨tbm (i := 619) (by decide +kernel) (by decide +kernel), yk_X8_learn⟩, tbm (i := 620) (by decide +kernel) (by decide +kernel), tbm (i := 621) (by decide +kernel) (by decide +kernel)⟩
theorem mv_X8_97 : MV RX8 97 yX5_learnFrom cX5_learnFrom 2 none 1 := ⟨⟨tbm (i := 623) (by decide +kernel) (by decide +kernel), yk_X5_learnFrom⟩, tbm (i := 624) (by decide +kernel) (by decide +kernel), tbm (i := 625) (by decide +kernel) (by decide +kernel)⟩
theorem mv_X8_103 : MV RX8 103 yX1_learntSlots cX1_learntSlots 6 (some .int) 0 := ⟨⟨tbm (i := 627) (by decide +kernel) (by decide +kernel), yk_X1_learntSlots⟩, tbm (i := 354) (by decide +kernel) (by decide +kernel), tbm (i := 355) (by decide +kernel) (by decide +kernel)⟩
theorem mv_L_32 : MV RL 32 yX8_forget cX8_forget 5 (some .int) 2 := ⟨⟨tbm (i := 631) (by decide +kernel) (by decide +kernel), yk_X8_forget⟩, tbm (i := 632) (by decide +kernel) (by decide +kernel), tbm (i := 633) (by decide +kernel) (by decide +kernel)⟩
theorem mv_X8_111 : MV RX8 111 yX5_empty cX5_empty 1 none 0 := ⟨⟨tbm (i := 635) (by decide +kernel) (by decide +kernel), yk_X5_empty⟩, tbm (i := 636) (by decide +kernel) (by decide +kernel), tbm (i := 637) (by decide +kernel) (by decide +kernel)⟩
theorem mv_L_35 : MV RL 35 yX8_shut cX8_shut 4 (some .int) 1 := ⟨⟨tbm (i := 642) (by decide +kernel) (by decide +kernel), yk_X8_shut⟩, tbm (i := 643) (by decide +kernel) (by decide +kernel), tbm (i := 644) (by decide +kernel) (by decide +kernel)⟩
theorem mv_L_39 : MV RL 39 yX8_unlock cX8_unlock 4 (some .int) 1 := ⟨⟨tbm (i := 649) (by decide +kernel) (by decide +kernel), yk_X8_unlock⟩, tbm (i := 650) (by decide +kernel) (by decide +kernel), tbm (i := 651) (by decide +kernel) (by decide +kernel)⟩
theorem mv_L_42 : MV RL 42 yX8_set cX8_set 4 (some .int) 2 := ⟨⟨tbm (i := 656) (by decide +kernel) (by decide +kernel), yk_X8_set⟩, tbm (i := 657) (by decide +kernel) (by decide +kernel), tbm (i := 658) (by decide +kernel) (by decide +kernel)⟩
theorem ms_X8_120 : MS RX8 120 yX4_least cX4_least 1 (some .int) 1 := ⟨⟨tbm (i := 660) (by decide +kernel) (by decide +kernel), yk_X4_least⟩, tbm (i := 661) (by decide +kernel) (by decide +kernel)⟩
theorem ms_X8_126 : MS RX8 126 yX4_most cX4_most 1 (some .int) 1 := ⟨⟨tbm (i := 663) (by decide +kernel) (by decide +kernel), yk_X4_most⟩, tbm (i := 664) (by decide +kernel) (by decide +kernel)⟩
theorem mv_X8_136 : MV RX8 136 yX4_change cX4_change 3 none 2 := ⟨⟨tbm (i := 666) (by decide +kernel) (by decide +kernel), yk_X4_change⟩, tbm (i := 667) (by decide +kernel) (by decide +kernel), tbm (i := 668) (by decide +kernel) (by decide +kernel)⟩
theorem mv_L_45 : MV RL 45 yX8_append cX8_append 2 (some .int) 1 := ⟨⟨tbm (i := 673) (by decide +kernel) (by decide +kernel), yk_X8_append⟩, tbm (i := 674) (by decide +kernel) (by decide +kernel), tbm (i := 675) (by decide +kernel) (by decide +kernel)⟩
theorem mv_X8_140 : MV RX8 140 yX7_add cX7_add 2 none 1 := ⟨⟨tbm (i := 677) (by decide +kernel) (by decide +kernel), yk_X7_add⟩, tbm (i := 678) (by decide +kernel) (by decide +kernel), tbm (i := 679) (by decide +kernel) (by decide +kernel)⟩
theorem mv_L_48 : MV RL 48 yX8_play cX8_play 4 (some .int) 0 := ⟨⟨tbm (i := 684) (by decide +kernel) (by decide +kernel), yk_X8_play⟩, tbm (i := 685) (by decide +kernel) (by decide +kernel), tbm (i := 686) (by decide +kernel) (by decide +kernel)⟩
theorem mv_X8_147 : MV RX8 147 yX7_isComplete cX7_isComplete 3 (some .boolean) 0 := ⟨⟨tbm (i := 688) (by decide +kernel) (by decide +kernel), yk_X7_isComplete⟩, tbm (i := 689) (by decide +kernel) (by decide +kernel), tbm (i := 690) (by decide +kernel) (by decide +kernel)⟩
theorem mv_X8_154 : MV RX8 154 yX7_endsPart cX7_endsPart 2 (some .boolean) 1 := ⟨⟨tbm (i := 692) (by decide +kernel) (by decide +kernel), yk_X7_endsPart⟩, tbm (i := 693) (by decide +kernel) (by decide +kernel), tbm (i := 694) (by decide +kernel) (by decide +kernel)⟩
theorem mv_X8_157 : MV RX8 157 yX8_playPart cX8_playPart 4 (some .boolean) 2 := ⟨⟨tbm (i := 696) (by decide +kernel) (by decide +kernel), yk_X8_playPart⟩, tbm (i := 698) (by decide +kernel) (by decide +kernel), tbm (i := 8) (by decide +kernel) (by decide +kernel)⟩
theorem mv_X8_231 : MV RX8 231 yX7_digit cX7_digit 3 (some .int) 1 := ⟨⟨tbm (i := 700) (by decide +kernel) (by decide +kernel), yk_X7_digit⟩, tbm (i := 701) (by decide +kernel) (by decide +kernel), tbm (i := 702) (by decide +kernel) (by decide +kernel)⟩
theorem mv_X8_234 : MV RX8 234 yX7_mask cX7_mask 6 (some .int) 2 := ⟨⟨tbm (i := 704) (by decide +kernel) (by decide +kernel), yk_X7_mask⟩, tbm (i := 705) (by decide +kernel) (by decide +kernel), tbm (i := 706) (by decide +kernel) (by decide +kernel)⟩
theorem mv_X7_27 : MV RX7 27 yX7_digit cX7_digit 3 (some .int) 1 := ⟨⟨tbm (i := 708) (by decide +kernel) (by decide +kernel), yk_X7_digit⟩, tbm (i := 701) (by decide +kernel) (by decide +kernel), tbm (i := 702) (by decide +kernel) (by decide +kernel)⟩
theorem mv_X8_237 : MV RX8 237 yX6_canSendAgain cX6_canSendAgain 2 (some .boolean) 1 := ⟨⟨tbm (i := 709) (by decide +kernel) (by decide +kernel), yk_X6_canSendAgain⟩, tbm (i := 606) (by decide +kernel) (by decide +kernel), tbm (i := 607) (by decide +kernel) (by decide +kernel)⟩
theorem mv_X8_240 : MV RX8 240 yX6_shutDoor cX6_shutDoor 2 (some .boolean) 1 := ⟨⟨tbm (i := 710) (by decide +kernel) (by decide +kernel), yk_X6_shutDoor⟩, tbm (i := 711) (by decide +kernel) (by decide +kernel), tbm (i := 712) (by decide +kernel) (by decide +kernel)⟩
theorem mv_L_52 : MV RL 52 yX8_undo cX8_undo 1 (some .int) 0 := ⟨⟨tbm (i := 717) (by decide +kernel) (by decide +kernel), yk_X8_undo⟩, tbm (i := 718) (by decide +kernel) (by decide +kernel), tbm (i := 719) (by decide +kernel) (by decide +kernel)⟩
theorem mv_X8_162 : MV RX8 162 yX3_restore cX3_restore 2 none 1 := ⟨⟨tbm (i := 721) (by decide +kernel) (by decide +kernel), yk_X3_restore⟩, tbm (i := 722) (by decide +kernel) (by decide +kernel), tbm (i := 723) (by decide +kernel) (by decide +kernel)⟩
theorem mv_L_55 : MV RL 55 yX8_fob cX8_fob 3 (some .int) 2 := ⟨⟨tbm (i := 728) (by decide +kernel) (by decide +kernel), yk_X8_fob⟩, tbm (i := 729) (by decide +kernel) (by decide +kernel), tbm (i := 730) (by decide +kernel) (by decide +kernel)⟩
theorem mv_L_58 : MV RL 58 yX8_slot cX8_slot 4 (some .int) 3 := ⟨⟨tbm (i := 735) (by decide +kernel) (by decide +kernel), yk_X8_slot⟩, tbm (i := 736) (by decide +kernel) (by decide +kernel), tbm (i := 737) (by decide +kernel) (by decide +kernel)⟩
theorem mv_L_61 : MV RL 61 yX8_door cX8_door 3 (some .int) 2 := ⟨⟨tbm (i := 742) (by decide +kernel) (by decide +kernel), yk_X8_door⟩, tbm (i := 743) (by decide +kernel) (by decide +kernel), tbm (i := 744) (by decide +kernel) (by decide +kernel)⟩
theorem mv_L_64 : MV RL 64 yX8_air cX8_air 2 (some .int) 1 := ⟨⟨tbm (i := 749) (by decide +kernel) (by decide +kernel), yk_X8_air⟩, tbm (i := 750) (by decide +kernel) (by decide +kernel), tbm (i := 751) (by decide +kernel) (by decide +kernel)⟩
theorem mv_L_67 : MV RL 67 yX8_count cX8_count 2 (some .int) 1 := ⟨⟨tbm (i := 756) (by decide +kernel) (by decide +kernel), yk_X8_count⟩, tbm (i := 757) (by decide +kernel) (by decide +kernel), tbm (i := 758) (by decide +kernel) (by decide +kernel)⟩
theorem mv_L_70 : MV RL 70 yX8_setting cX8_setting 2 (some .int) 1 := ⟨⟨tbm (i := 763) (by decide +kernel) (by decide +kernel), yk_X8_setting⟩, tbm (i := 764) (by decide +kernel) (by decide +kernel), tbm (i := 765) (by decide +kernel) (by decide +kernel)⟩
theorem mv_L_73 : MV RL 73 yX8_ifHeard cX8_ifHeard 3 (some .int) 2 := ⟨⟨tbm (i := 770) (by decide +kernel) (by decide +kernel), yk_X8_ifHeard⟩, tbm (i := 771) (by decide +kernel) (by decide +kernel), tbm (i := 772) (by decide +kernel) (by decide +kernel)⟩
theorem mv_L_76 : MV RL 76 yX8_opensIn cX8_opensIn 3 (some .int) 2 := ⟨⟨tbm (i := 777) (by decide +kernel) (by decide +kernel), yk_X8_opensIn⟩, tbm (i := 778) (by decide +kernel) (by decide +kernel), tbm (i := 779) (by decide +kernel) (by decide +kernel)⟩
theorem mv_L_79 : MV RL 79 yX8_unheard cX8_unheard 3 (some .int) 2 := ⟨⟨tbm (i := 784) (by decide +kernel) (by decide +kernel), yk_X8_unheard⟩, tbm (i := 785) (by decide +kernel) (by decide +kernel), tbm (i := 786) (by decide +kernel) (by decide +kernel)⟩
theorem mv_L_82 : MV RL 82 yX8_useful cX8_useful 2 (some .int) 1 := ⟨⟨tbm (i := 791) (by decide +kernel) (by decide +kernel), yk_X8_useful⟩, tbm (i := 792) (by decide +kernel) (by decide +kernel), tbm (i := 793) (by decide +kernel) (by decide +kernel)⟩
theorem fl_X9_7 : FL RX9 7 9 0 := ⟨RX9, TX9, 13, rfl, by decide, tbm (i := 801) (by decide +kernel) (by decide +kernel)⟩
theorem fl_X9_13 : FL RX9 13 9 1 := ⟨RX9, TX9, 13, rfl, by decide, tbm (i := 802) (by decide +kernel) (by decide +kernel)⟩
theorem fl_X9_16 : FL RX9 16 9 2 := ⟨RX9, TX9, 13, rfl, by decide, tbm (i := 803) (by decide +kernel) (by decide +kernel)⟩
theorem fl_X9_37 : FL RX9 37 9 3 := ⟨RX9, TX9, 13, rfl, by decide, tbm (i := 804) (by decide +kernel) (by decide +kernel)⟩
theorem fl_X9_19 : FL RX9 19 9 4 := ⟨RX9, TX9, 13, rfl, by decide, tbm (i := 805) (by decide +kernel) (by decide +kernel)⟩
theorem fl_X9_114 : FL RX9 114 9 5 := ⟨RX9, TX9, 13, rfl, by decide, tbm (i := 806) (by decide +kernel) (by decide +kernel)⟩
theorem fl_X9_25 : FL RX9 25 9 6 := ⟨RX9, TX9, 13, rfl, by decide, tbm (i := 807) (by decide +kernel) (by decide +kernel)⟩
theorem fl_X9_117 : FL RX9 117 9 7 := ⟨RX9, TX9, 13, rfl, by decide, tbm (i := 808) (by decide +kernel) (by decide +kernel)⟩
theorem fl_X9_120 : FL RX9 120 9 8 := ⟨RX9, TX9, 13, rfl, by decide, tbm (i := 809) (by decide +kernel) (by decide +kernel)⟩
theorem fl_X9_22 : FL RX9 22 9 9 := ⟨RX9, TX9, 13, rfl, by decide, tbm (i := 810) (by decide +kernel) (by decide +kernel)⟩
theorem fl_X9_131 : FL RX9 131 9 10 := ⟨RX9, TX9, 13, rfl, by decide, tbm (i := 811) (by decide +kernel) (by decide +kernel)⟩
theorem fl_X9_50 : FL RX9 50 9 11 := ⟨RX9, TX9, 13, rfl, by decide, tbm (i := 812) (by decide +kernel) (by decide +kernel)⟩
theorem fl_X9_53 : FL RX9 53 9 12 := ⟨RX9, TX9, 13, rfl, by decide, tbm (i := 813) (by decide +kernel) (by decide +kernel)⟩
theorem mv_L_95 : MV RL 95 yX9_thrown cX9_thrown 1 (some .int) 0 := ⟨⟨tbm (i := 841) (by decide +kernel) (by decide +kernel), yk_X9_thrown⟩, tbm (i := 842) (by decide +kernel) (by decide +kernel), tbm (i := 843) (by decide +kernel) (by decide +kernel)⟩
theorem mv_L_141 : MV RL 141 yX9_undo cX9_undo 1 (some .int) 0 := ⟨⟨tbm (i := 845) (by decide +kernel) (by decide +kernel), yk_X9_undo⟩, tbm (i := 846) (by decide +kernel) (by decide +kernel), tbm (i := 847) (by decide +kernel) (by decide +kernel)⟩
theorem mv_X9_44 : MV RX9 44 yX9_fails cX9_fails 2 (some .int) 1 := ⟨⟨tbm (i := 849) (by decide +kernel) (by decide +kernel), yk_X9_fails⟩, tbm (i := 851) (by decide +kernel) (by decide +kernel), tbm (i := 9) (by decide +kernel) (by decide +kernel)⟩
theorem ms_X9_40 : MS RX9 40 yX9_copies cX9_copies 5 none 4 := ⟨⟨tbm (i := 853) (by decide +kernel) (by decide +kernel), yk_X9_copies⟩, tbm (i := 854) (by decide +kernel) (by decide +kernel)⟩
theorem mv_L_94 : MV RL 94 yX9_make cX9_make 4 (some .int) 3 := ⟨⟨tbm (i := 856) (by decide +kernel) (by decide +kernel), yk_X9_make⟩, tbm (i := 857) (by decide +kernel) (by decide +kernel), tbm (i := 858) (by decide +kernel) (by decide +kernel)⟩
theorem ms_X9_92 : MS RX9 92 yX9_isFob cX9_isFob 1 (some .boolean) 1 := ⟨⟨tbm (i := 860) (by decide +kernel) (by decide +kernel), yk_X9_isFob⟩, tbm (i := 861) (by decide +kernel) (by decide +kernel)⟩
theorem ms_X9_29 : MS RX9 29 yX9_in cX9_in 3 (some .boolean) 3 := ⟨⟨tbm (i := 863) (by decide +kernel) (by decide +kernel), yk_X9_in⟩, tbm (i := 864) (by decide +kernel) (by decide +kernel)⟩
theorem mv_X9_95 : MV RX9 95 yX9_saves cX9_saves 2 none 0 := ⟨⟨tbm (i := 866) (by decide +kernel) (by decide +kernel), yk_X9_saves⟩, tbm (i := 868) (by decide +kernel) (by decide +kernel), tbm (i := 10) (by decide +kernel) (by decide +kernel)⟩
theorem mv_X9_98 : MV RX9 98 yX9_changes cX9_changes 4 (some .int) 2 := ⟨⟨tbm (i := 870) (by decide +kernel) (by decide +kernel), yk_X9_changes⟩, tbm (i := 872) (by decide +kernel) (by decide +kernel), tbm (i := 11) (by decide +kernel) (by decide +kernel)⟩
theorem mv_L_101 : MV RL 101 yX9_battery cX9_battery 3 (some .int) 2 := ⟨⟨tbm (i := 874) (by decide +kernel) (by decide +kernel), yk_X9_battery⟩, tbm (i := 875) (by decide +kernel) (by decide +kernel), tbm (i := 876) (by decide +kernel) (by decide +kernel)⟩
theorem mv_L_104 : MV RL 104 yX9_press cX9_press 3 (some .int) 2 := ⟨⟨tbm (i := 878) (by decide +kernel) (by decide +kernel), yk_X9_press⟩, tbm (i := 879) (by decide +kernel) (by decide +kernel), tbm (i := 880) (by decide +kernel) (by decide +kernel)⟩
theorem mv_X9_101 : MV RX9 101 yX9_presses cX9_presses 7 (some .int) 3 := ⟨⟨tbm (i := 882) (by decide +kernel) (by decide +kernel), yk_X9_presses⟩, tbm (i := 884) (by decide +kernel) (by decide +kernel), tbm (i := 12) (by decide +kernel) (by decide +kernel)⟩
theorem ms_X9_82 : MS RX9 82 yX9_next cX9_next 2 (some .int) 2 := ⟨⟨tbm (i := 886) (by decide +kernel) (by decide +kernel), yk_X9_next⟩, tbm (i := 887) (by decide +kernel) (by decide +kernel)⟩
theorem ms_X9_60 : MS RX9 60 yX9_ahead cX9_ahead 2 (some .int) 2 := ⟨⟨tbm (i := 889) (by decide +kernel) (by decide +kernel), yk_X9_ahead⟩, tbm (i := 890) (by decide +kernel) (by decide +kernel)⟩
theorem ms_X9_63 : MS RX9 63 yX9_numberOf cX9_numberOf 2 (some .int) 2 := ⟨⟨tbm (i := 892) (by decide +kernel) (by decide +kernel), yk_X9_numberOf⟩, tbm (i := 893) (by decide +kernel) (by decide +kernel)⟩
theorem kc_X9_48 : Cond.constant RX9 48 (40503 : Int32) ∈ TB := tbm (i := 895) (by decide +kernel) (by decide +kernel)
theorem kc_X9_49 : Cond.constant RX9 49 (65536 : Int32) ∈ TB := tbm (i := 896) (by decide +kernel) (by decide +kernel)
theorem mv_X9_86 : MV RX9 86 yX9_heard cX9_heard 6 (some .int) 3 := ⟨⟨tbm (i := 897) (by decide +kernel) (by decide +kernel), yk_X9_heard⟩, tbm (i := 899) (by decide +kernel) (by decide +kernel), tbm (i := 13) (by decide +kernel) (by decide +kernel)⟩
theorem mv_X9_78 : MV RX9 78 yX9_hears cX9_hears 8 (some .boolean) 3 := ⟨⟨tbm (i := 901) (by decide +kernel) (by decide +kernel), yk_X9_hears⟩, tbm (i := 903) (by decide +kernel) (by decide +kernel), tbm (i := 14) (by decide +kernel) (by decide +kernel)⟩
theorem mv_X9_74 : MV RX9 74 yX9_would cX9_would 6 (some .int) 3 := ⟨⟨tbm (i := 905) (by decide +kernel) (by decide +kernel), yk_X9_would⟩, tbm (i := 907) (by decide +kernel) (by decide +kernel), tbm (i := 15) (by decide +kernel) (by decide +kernel)⟩
theorem ms_X9_66 : MS RX9 66 yX9_isLocked cX9_isLocked 2 (some .boolean) 2 := ⟨⟨tbm (i := 909) (by decide +kernel) (by decide +kernel), yk_X9_isLocked⟩, tbm (i := 910) (by decide +kernel) (by decide +kernel)⟩
theorem mv_X9_70 : MV RX9 70 yX9_looks cX9_looks 7 none 3 := ⟨⟨tbm (i := 912) (by decide +kernel) (by decide +kernel), yk_X9_looks⟩, tbm (i := 914) (by decide +kernel) (by decide +kernel), tbm (i := 16) (by decide +kernel) (by decide +kernel)⟩
theorem ms_X9_56 : MS RX9 56 yX9_slotAt cX9_slotAt 2 (some .int) 2 := ⟨⟨tbm (i := 916) (by decide +kernel) (by decide +kernel), yk_X9_slotAt⟩, tbm (i := 917) (by decide +kernel) (by decide +kernel)⟩
theorem mv_L_107 : MV RL 107 yX9_again cX9_again 3 (some .int) 2 := ⟨⟨tbm (i := 919) (by decide +kernel) (by decide +kernel), yk_X9_again⟩, tbm (i := 920) (by decide +kernel) (by decide +kernel), tbm (i := 921) (by decide +kernel) (by decide +kernel)⟩
theorem mv_X9_104 : MV RX9 104 yX9_sends cX9_sends 4 (some .int) 2 := ⟨⟨tbm (i := 923) (by decide +kernel) (by decide +kernel), yk_X9_sends⟩, tbm (i := 925) (by decide +kernel) (by decide +kernel), tbm (i := 17) (by decide +kernel) (by decide +kernel)⟩
theorem ms_X9_89 : MS RX9 89 yX9_ones cX9_ones 1 (some .int) 1 := ⟨⟨tbm (i := 927) (by decide +kernel) (by decide +kernel), yk_X9_ones⟩, tbm (i := 928) (by decide +kernel) (by decide +kernel)⟩
theorem mv_L_110 : MV RL 110 yX9_learn cX9_learn 5 (some .int) 3 := ⟨⟨tbm (i := 930) (by decide +kernel) (by decide +kernel), yk_X9_learn⟩, tbm (i := 931) (by decide +kernel) (by decide +kernel), tbm (i := 932) (by decide +kernel) (by decide +kernel)⟩
theorem ms_X9_107 : MS RX9 107 yX9_isSlot cX9_isSlot 2 (some .boolean) 2 := ⟨⟨tbm (i := 934) (by decide +kernel) (by decide +kernel), yk_X9_isSlot⟩, tbm (i := 935) (by decide +kernel) (by decide +kernel)⟩
theorem ms_X9_33 : MS RX9 33 yX9_isDoor cX9_isDoor 1 (some .boolean) 1 := ⟨⟨tbm (i := 937) (by decide +kernel) (by decide +kernel), yk_X9_isDoor⟩, tbm (i := 938) (by decide +kernel) (by decide +kernel)⟩
theorem mv_X9_111 : MV RX9 111 yX9_learnt cX9_learnt 4 (some .int) 1 := ⟨⟨tbm (i := 940) (by decide +kernel) (by decide +kernel), yk_X9_learnt⟩, tbm (i := 942) (by decide +kernel) (by decide +kernel), tbm (i := 18) (by decide +kernel) (by decide +kernel)⟩
theorem mv_L_113 : MV RL 113 yX9_forget cX9_forget 3 (some .int) 2 := ⟨⟨tbm (i := 944) (by decide +kernel) (by decide +kernel), yk_X9_forget⟩, tbm (i := 945) (by decide +kernel) (by decide +kernel), tbm (i := 946) (by decide +kernel) (by decide +kernel)⟩
theorem mv_L_117 : MV RL 117 yX9_shut cX9_shut 2 (some .int) 1 := ⟨⟨tbm (i := 948) (by decide +kernel) (by decide +kernel), yk_X9_shut⟩, tbm (i := 949) (by decide +kernel) (by decide +kernel), tbm (i := 950) (by decide +kernel) (by decide +kernel)⟩
theorem mv_L_120 : MV RL 120 yX9_unlock cX9_unlock 2 (some .int) 1 := ⟨⟨tbm (i := 952) (by decide +kernel) (by decide +kernel), yk_X9_unlock⟩, tbm (i := 953) (by decide +kernel) (by decide +kernel), tbm (i := 954) (by decide +kernel) (by decide +kernel)⟩
theorem mv_L_123 : MV RL 123 yX9_set cX9_set 3 (some .int) 2 := ⟨⟨tbm (i := 956) (by decide +kernel) (by decide +kernel), yk_X9_set⟩, tbm (i := 957) (by decide +kernel) (by decide +kernel), tbm (i := 958) (by decide +kernel) (by decide +kernel)⟩
theorem mv_L_126 : MV RL 126 yX9_append cX9_append 2 (some .int) 1 := ⟨⟨tbm (i := 960) (by decide +kernel) (by decide +kernel), yk_X9_append⟩, tbm (i := 961) (by decide +kernel) (by decide +kernel), tbm (i := 962) (by decide +kernel) (by decide +kernel)⟩
theorem mv_L_130 : MV RL 130 yX9_clearBuffer cX9_clearBuffer 2 (some .int) 0 := ⟨⟨tbm (i := 964) (by decide +kernel) (by decide +kernel), yk_X9_clearBuffer⟩, tbm (i := 965) (by decide +kernel) (by decide +kernel), tbm (i := 966) (by decide +kernel) (by decide +kernel)⟩
theorem mv_L_134 : MV RL 134 yX9_firstError cX9_firstError 2 (some .int) 0 := ⟨⟨tbm (i := 968) (by decide +kernel) (by decide +kernel), yk_X9_firstError⟩, tbm (i := 969) (by decide +kernel) (by decide +kernel), tbm (i := 970) (by decide +kernel) (by decide +kernel)⟩
theorem mv_X9_143 : MV RX9 143 yX9_isText cX9_isText 2 (some .boolean) 0 := ⟨⟨tbm (i := 972) (by decide +kernel) (by decide +kernel), yk_X9_isText⟩, tbm (i := 974) (by decide +kernel) (by decide +kernel), tbm (i := 19) (by decide +kernel) (by decide +kernel)⟩
theorem mv_X9_140 : MV RX9 140 yX9_isPart cX9_isPart 2 (some .boolean) 0 := ⟨⟨tbm (i := 976) (by decide +kernel) (by decide +kernel), yk_X9_isPart⟩, tbm (i := 978) (by decide +kernel) (by decide +kernel), tbm (i := 20) (by decide +kernel) (by decide +kernel)⟩
theorem mv_X9_127 : MV RX9 127 yX9_stops cX9_stops 1 (some .boolean) 0 := ⟨⟨tbm (i := 980) (by decide +kernel) (by decide +kernel), yk_X9_stops⟩, tbm (i := 982) (by decide +kernel) (by decide +kernel), tbm (i := 21) (by decide +kernel) (by decide +kernel)⟩
theorem mv_X9_134 : MV RX9 134 yX9_isDigit cX9_isDigit 2 (some .boolean) 1 := ⟨⟨tbm (i := 984) (by decide +kernel) (by decide +kernel), yk_X9_isDigit⟩, tbm (i := 986) (by decide +kernel) (by decide +kernel), tbm (i := 22) (by decide +kernel) (by decide +kernel)⟩
theorem mv_X9_124 : MV RX9 124 yX9_isAt cX9_isAt 3 (some .boolean) 2 := ⟨⟨tbm (i := 988) (by decide +kernel) (by decide +kernel), yk_X9_isAt⟩, tbm (i := 990) (by decide +kernel) (by decide +kernel), tbm (i := 23) (by decide +kernel) (by decide +kernel)⟩
theorem mv_X9_137 : MV RX9 137 yX9_areDoors cX9_areDoors 2 (some .boolean) 0 := ⟨⟨tbm (i := 992) (by decide +kernel) (by decide +kernel), yk_X9_areDoors⟩, tbm (i := 994) (by decide +kernel) (by decide +kernel), tbm (i := 24) (by decide +kernel) (by decide +kernel)⟩
theorem mv_L_138 : MV RL 138 yX9_play cX9_play 2 (some .int) 0 := ⟨⟨tbm (i := 996) (by decide +kernel) (by decide +kernel), yk_X9_play⟩, tbm (i := 997) (by decide +kernel) (by decide +kernel), tbm (i := 998) (by decide +kernel) (by decide +kernel)⟩
theorem mv_X9_146 : MV RX9 146 yX9_does cX9_does 4 (some .boolean) 1 := ⟨⟨tbm (i := 1000) (by decide +kernel) (by decide +kernel), yk_X9_does⟩, tbm (i := 1002) (by decide +kernel) (by decide +kernel), tbm (i := 25) (by decide +kernel) (by decide +kernel)⟩
theorem mv_L_144 : MV RL 144 yX9_fob cX9_fob 3 (some .int) 2 := ⟨⟨tbm (i := 1004) (by decide +kernel) (by decide +kernel), yk_X9_fob⟩, tbm (i := 1005) (by decide +kernel) (by decide +kernel), tbm (i := 1006) (by decide +kernel) (by decide +kernel)⟩
theorem mv_X9_149 : MV RX9 149 yX9_ofFob cX9_ofFob 3 (some .int) 2 := ⟨⟨tbm (i := 1008) (by decide +kernel) (by decide +kernel), yk_X9_ofFob⟩, tbm (i := 1010) (by decide +kernel) (by decide +kernel), tbm (i := 26) (by decide +kernel) (by decide +kernel)⟩
theorem mv_L_147 : MV RL 147 yX9_slot cX9_slot 4 (some .int) 3 := ⟨⟨tbm (i := 1012) (by decide +kernel) (by decide +kernel), yk_X9_slot⟩, tbm (i := 1013) (by decide +kernel) (by decide +kernel), tbm (i := 1014) (by decide +kernel) (by decide +kernel)⟩
theorem mv_X9_152 : MV RX9 152 yX9_ofSlot cX9_ofSlot 5 (some .int) 3 := ⟨⟨tbm (i := 1016) (by decide +kernel) (by decide +kernel), yk_X9_ofSlot⟩, tbm (i := 1018) (by decide +kernel) (by decide +kernel), tbm (i := 27) (by decide +kernel) (by decide +kernel)⟩
theorem mv_L_150 : MV RL 150 yX9_door cX9_door 3 (some .int) 2 := ⟨⟨tbm (i := 1020) (by decide +kernel) (by decide +kernel), yk_X9_door⟩, tbm (i := 1021) (by decide +kernel) (by decide +kernel), tbm (i := 1022) (by decide +kernel) (by decide +kernel)⟩
theorem mv_X9_156 : MV RX9 156 yX9_ofDoor cX9_ofDoor 3 (some .int) 2 := ⟨⟨tbm (i := 1024) (by decide +kernel) (by decide +kernel), yk_X9_ofDoor⟩, tbm (i := 1026) (by decide +kernel) (by decide +kernel), tbm (i := 28) (by decide +kernel) (by decide +kernel)⟩
theorem mv_L_153 : MV RL 153 yX9_air cX9_air 2 (some .int) 1 := ⟨⟨tbm (i := 1028) (by decide +kernel) (by decide +kernel), yk_X9_air⟩, tbm (i := 1029) (by decide +kernel) (by decide +kernel), tbm (i := 1030) (by decide +kernel) (by decide +kernel)⟩
theorem mv_L_156 : MV RL 156 yX9_count cX9_count 2 (some .int) 1 := ⟨⟨tbm (i := 1032) (by decide +kernel) (by decide +kernel), yk_X9_count⟩, tbm (i := 1033) (by decide +kernel) (by decide +kernel), tbm (i := 1034) (by decide +kernel) (by decide +kernel)⟩
theorem mv_X9_162 : MV RX9 162 yX9_counted cX9_counted 2 (some .int) 1 := ⟨⟨tbm (i := 1036) (by decide +kernel) (by decide +kernel), yk_X9_counted⟩, tbm (i := 1038) (by decide +kernel) (by decide +kernel), tbm (i := 29) (by decide +kernel) (by decide +kernel)⟩
theorem mv_X9_159 : MV RX9 159 yX9_ofDoors cX9_ofDoors 4 (some .int) 1 := ⟨⟨tbm (i := 1040) (by decide +kernel) (by decide +kernel), yk_X9_ofDoors⟩, tbm (i := 1042) (by decide +kernel) (by decide +kernel), tbm (i := 30) (by decide +kernel) (by decide +kernel)⟩
theorem mv_L_159 : MV RL 159 yX9_setting cX9_setting 2 (some .int) 1 := ⟨⟨tbm (i := 1044) (by decide +kernel) (by decide +kernel), yk_X9_setting⟩, tbm (i := 1045) (by decide +kernel) (by decide +kernel), tbm (i := 1046) (by decide +kernel) (by decide +kernel)⟩
theorem mv_L_162 : MV RL 162 yX9_ifHeard cX9_ifHeard 3 (some .int) 2 := ⟨⟨tbm (i := 1048) (by decide +kernel) (by decide +kernel), yk_X9_ifHeard⟩, tbm (i := 1049) (by decide +kernel) (by decide +kernel), tbm (i := 1050) (by decide +kernel) (by decide +kernel)⟩
theorem kc_X9_165 : Cond.constant RX9 165 (65535 : Int32) ∈ TB := tbm (i := 1052) (by decide +kernel) (by decide +kernel)
theorem mv_L_165 : MV RL 165 yX9_opensIn cX9_opensIn 3 (some .int) 2 := ⟨⟨tbm (i := 1053) (by decide +kernel) (by decide +kernel), yk_X9_opensIn⟩, tbm (i := 1054) (by decide +kernel) (by decide +kernel), tbm (i := 1055) (by decide +kernel) (by decide +kernel)⟩
theorem mv_X9_166 : MV RX9 166 yX9_opens cX9_opens 4 (some .int) 2 := ⟨⟨tbm (i := 1057) (by decide +kernel) (by decide +kernel), yk_X9_opens⟩, tbm (i := 1059) (by decide +kernel) (by decide +kernel), tbm (i := 31) (by decide +kernel) (by decide +kernel)⟩
theorem mv_L_168 : MV RL 168 yX9_unheard cX9_unheard 3 (some .int) 2 := ⟨⟨tbm (i := 1061) (by decide +kernel) (by decide +kernel), yk_X9_unheard⟩, tbm (i := 1062) (by decide +kernel) (by decide +kernel), tbm (i := 1063) (by decide +kernel) (by decide +kernel)⟩
theorem mv_X9_169 : MV RX9 169 yX9_misses cX9_misses 5 (some .int) 2 := ⟨⟨tbm (i := 1065) (by decide +kernel) (by decide +kernel), yk_X9_misses⟩, tbm (i := 1067) (by decide +kernel) (by decide +kernel), tbm (i := 32) (by decide +kernel) (by decide +kernel)⟩
theorem mv_L_171 : MV RL 171 yX9_useful cX9_useful 2 (some .int) 1 := ⟨⟨tbm (i := 1069) (by decide +kernel) (by decide +kernel), yk_X9_useful⟩, tbm (i := 1070) (by decide +kernel) (by decide +kernel), tbm (i := 1071) (by decide +kernel) (by decide +kernel)⟩
theorem mv_X9_172 : MV RX9 172 yX9_first cX9_first 3 (some .int) 1 := ⟨⟨tbm (i := 1073) (by decide +kernel) (by decide +kernel), yk_X9_first⟩, tbm (i := 1075) (by decide +kernel) (by decide +kernel), tbm (i := 33) (by decide +kernel) (by decide +kernel)⟩
theorem mv_L_176 : MV RL 176 yX9_openShare cX9_openShare 1 (some .double) 0 := ⟨⟨tbm (i := 1077) (by decide +kernel) (by decide +kernel), yk_X9_openShare⟩, tbm (i := 1078) (by decide +kernel) (by decide +kernel), tbm (i := 1079) (by decide +kernel) (by decide +kernel)⟩
theorem mv_X9_175 : MV RX9 175 yX9_share cX9_share 3 (some .double) 0 := ⟨⟨tbm (i := 1081) (by decide +kernel) (by decide +kernel), yk_X9_share⟩, tbm (i := 1083) (by decide +kernel) (by decide +kernel), tbm (i := 34) (by decide +kernel) (by decide +kernel)⟩
theorem mv_L_181 : MV RL 181 yX9_digest cX9_digest 5 (some .long) 0 := ⟨⟨tbm (i := 1085) (by decide +kernel) (by decide +kernel), yk_X9_digest⟩, tbm (i := 1086) (by decide +kernel) (by decide +kernel), tbm (i := 1087) (by decide +kernel) (by decide +kernel)⟩
theorem kc_X9_179 : Cond.constantLong RX9 179 (3257 : Int64) ∈ TB := tbm (i := 1089) (by decide +kernel) (by decide +kernel)
theorem kc_X9_181 : Cond.constantLong RX9 181 (31 : Int64) ∈ TB := tbm (i := 1090) (by decide +kernel) (by decide +kernel)
theorem dm_0 {k : Nat} (h : k < 7) : dm k 0 0 := ⟨h, rfl⟩
theorem dm_1 {k : Nat} (h : k < 7) : dm k 1 0 := ⟨h, rfl⟩
theorem dm_2 {k j : Nat} (h : k < 7) (hj : j < 4) : dm k 2 j := ⟨h, hj⟩
theorem dm_3 {k : Nat} (h : k < 7) : dm k 3 0 := ⟨h, rfl⟩
theorem dm_4 {k j : Nat} (h : k < 8) (hj : j < 3) (hk : k = 7 → j = 0) : dm k 4 j := ⟨h, hj, hk⟩
theorem dm_5 {k j : Nat} (h : k < 8) (hj : j < 3) (hk : k = 7 → j = 0) : dm k 5 j := ⟨h, hj, hk⟩
theorem dm_6 {k : Nat} (h : k < 7) : dm k 6 0 := ⟨h, rfl⟩
theorem dm_7 {k : Nat} (h : k < 7) : dm k 7 0 := ⟨h, rfl⟩
theorem dm_8 {k : Nat} (h : k < 7) : dm k 8 0 := ⟨h, rfl⟩
theorem dm_9 : dm 8 9 0 := ⟨rfl, rfl⟩
theorem dm_10 : dm 8 10 0 := ⟨rfl, rfl⟩
theorem dm_11 : dm 8 11 0 := ⟨rfl, rfl⟩
theorem dm_12 : dm 8 12 0 := ⟨rfl, rfl⟩
theorem dm_13 : dm 9 13 0 := ⟨rfl, rfl⟩
theorem dm_14 : dm 15 14 0 := ⟨rfl, rfl⟩
theorem dm_15 {k : Nat} (h : k = 10 ∨ k = 11) : dm k 15 0 := ⟨h, rfl⟩
theorem dm_16 : dm 12 16 0 := ⟨rfl, rfl⟩
theorem dm_17 : dm 13 17 0 := ⟨rfl, rfl⟩
theorem dm_18 : dm 14 18 0 := ⟨rfl, rfl⟩
theorem dm_s {k d j : Nat} (h : k < 8) (hd : d < 3) (hj : j < 4) (hk : k = 7 → d = 0) : dm k (d + 20) j := ⟨h, hd, hj, hk⟩
theorem so_0_4 {cy : Nat → ClassId} {ad : Ads} {x : Mem} {v : Int32} {k : Nat} (h : k < 7) : SO cy ad x (up x k (3) v) k 0 0 (.inr (6, [.ref (ad k 1 0), .ref (ad k 3 0), .ref (ad k 6 0), .ref (ad k 8 0), .int (x k 3), .int (x k 4)].set 4 (.int v))) :=
  so_up (ow_sta (by omega) (by omega) (by omega)) (by simp [EE, up])
theorem so_0_5 {cy : Nat → ClassId} {ad : Ads} {x : Mem} {v : Int32} {k : Nat} (h : k < 7) : SO cy ad x (up x k (4) v) k 0 0 (.inr (6, [.ref (ad k 1 0), .ref (ad k 3 0), .ref (ad k 6 0), .ref (ad k 8 0), .int (x k 3), .int (x k 4)].set 5 (.int v))) :=
  so_up (ow_sta (by omega) (by omega) (by omega)) (by simp [EE, up])
theorem so_2_0 {cy : Nat → ClassId} {ad : Ads} {x : Mem} {v : Int32} {k j : Nat} (h : k < 7) (hj : j < 4) : SO cy ad x (up x k (14 + 4 * j) v) k 2 j (.inr (2, [.int (x k (14 + 4 * j)), .int (x k (15 + 4 * j)), .int (x k (16 + 4 * j)), .int (x k (17 + 4 * j))].set 0 (.int v))) :=
  so_up (by rw [show 14 + 4 * j = 14 + 4 * j + 0 by omega]; exact ow_fob (by omega) hj (by omega)) (by simp [EE, up])
theorem so_2_1 {cy : Nat → ClassId} {ad : Ads} {x : Mem} {v : Int32} {k j : Nat} (h : k < 7) (hj : j < 4) : SO cy ad x (up x k (15 + 4 * j) v) k 2 j (.inr (2, [.int (x k (14 + 4 * j)), .int (x k (15 + 4 * j)), .int (x k (16 + 4 * j)), .int (x k (17 + 4 * j))].set 1 (.int v))) :=
  so_up (by rw [show 15 + 4 * j = 14 + 4 * j + 1 by omega]; exact ow_fob (by omega) hj (by omega)) (by simp [EE, up])
theorem so_2_2 {cy : Nat → ClassId} {ad : Ads} {x : Mem} {v : Int32} {k j : Nat} (h : k < 7) (hj : j < 4) : SO cy ad x (up x k (16 + 4 * j) v) k 2 j (.inr (2, [.int (x k (14 + 4 * j)), .int (x k (15 + 4 * j)), .int (x k (16 + 4 * j)), .int (x k (17 + 4 * j))].set 2 (.int v))) :=
  so_up (by rw [show 16 + 4 * j = 14 + 4 * j + 2 by omega]; exact ow_fob (by omega) hj (by omega)) (by simp [EE, up])
theorem so_2_3 {cy : Nat → ClassId} {ad : Ads} {x : Mem} {v : Int32} {k j : Nat} (h : k < 7) (hj : j < 4) : SO cy ad x (up x k (17 + 4 * j) v) k 2 j (.inr (2, [.int (x k (14 + 4 * j)), .int (x k (15 + 4 * j)), .int (x k (16 + 4 * j)), .int (x k (17 + 4 * j))].set 3 (.int v))) :=
  so_up (by rw [show 17 + 4 * j = 14 + 4 * j + 3 by omega]; exact ow_fob (by omega) hj (by omega)) (by simp [EE, up])
theorem so_4_1 {cy : Nat → ClassId} {ad : Ads} {x : Mem} {v : Int32} {k j : Nat} (h : k < 8) (hj : j < 3) : SO cy ad x (up x k (30 + 22 * j) v) k 4 j (.inr (1, [.ref (ad k 5 j), .int (x k (30 + 22 * j)), .int (x k (31 + 22 * j)), .int (x k (32 + 22 * j)), .int (x k (33 + 22 * j)), .int (x k (34 + 22 * j)), .int (x k (35 + 22 * j))].set 1 (.int v))) :=
  so_up (by rw [show 30 + 22 * j = 30 + 22 * j + 0 by omega]; exact ow_door h hj (by omega)) (by simp [EE, up])
theorem so_4_2 {cy : Nat → ClassId} {ad : Ads} {x : Mem} {v : Int32} {k j : Nat} (h : k < 8) (hj : j < 3) : SO cy ad x (up x k (31 + 22 * j) v) k 4 j (.inr (1, [.ref (ad k 5 j), .int (x k (30 + 22 * j)), .int (x k (31 + 22 * j)), .int (x k (32 + 22 * j)), .int (x k (33 + 22 * j)), .int (x k (34 + 22 * j)), .int (x k (35 + 22 * j))].set 2 (.int v))) :=
  so_up (by rw [show 31 + 22 * j = 30 + 22 * j + 1 by omega]; exact ow_door h hj (by omega)) (by simp [EE, up])
theorem so_4_3 {cy : Nat → ClassId} {ad : Ads} {x : Mem} {v : Int32} {k j : Nat} (h : k < 8) (hj : j < 3) : SO cy ad x (up x k (32 + 22 * j) v) k 4 j (.inr (1, [.ref (ad k 5 j), .int (x k (30 + 22 * j)), .int (x k (31 + 22 * j)), .int (x k (32 + 22 * j)), .int (x k (33 + 22 * j)), .int (x k (34 + 22 * j)), .int (x k (35 + 22 * j))].set 3 (.int v))) :=
  so_up (by rw [show 32 + 22 * j = 30 + 22 * j + 2 by omega]; exact ow_door h hj (by omega)) (by simp [EE, up])
theorem so_4_4 {cy : Nat → ClassId} {ad : Ads} {x : Mem} {v : Int32} {k j : Nat} (h : k < 8) (hj : j < 3) : SO cy ad x (up x k (33 + 22 * j) v) k 4 j (.inr (1, [.ref (ad k 5 j), .int (x k (30 + 22 * j)), .int (x k (31 + 22 * j)), .int (x k (32 + 22 * j)), .int (x k (33 + 22 * j)), .int (x k (34 + 22 * j)), .int (x k (35 + 22 * j))].set 4 (.int v))) :=
  so_up (by rw [show 33 + 22 * j = 30 + 22 * j + 3 by omega]; exact ow_door h hj (by omega)) (by simp [EE, up])
theorem so_4_5 {cy : Nat → ClassId} {ad : Ads} {x : Mem} {v : Int32} {k j : Nat} (h : k < 8) (hj : j < 3) : SO cy ad x (up x k (34 + 22 * j) v) k 4 j (.inr (1, [.ref (ad k 5 j), .int (x k (30 + 22 * j)), .int (x k (31 + 22 * j)), .int (x k (32 + 22 * j)), .int (x k (33 + 22 * j)), .int (x k (34 + 22 * j)), .int (x k (35 + 22 * j))].set 5 (.int v))) :=
  so_up (by rw [show 34 + 22 * j = 30 + 22 * j + 4 by omega]; exact ow_door h hj (by omega)) (by simp [EE, up])
theorem so_4_6 {cy : Nat → ClassId} {ad : Ads} {x : Mem} {v : Int32} {k j : Nat} (h : k < 8) (hj : j < 3) : SO cy ad x (up x k (35 + 22 * j) v) k 4 j (.inr (1, [.ref (ad k 5 j), .int (x k (30 + 22 * j)), .int (x k (31 + 22 * j)), .int (x k (32 + 22 * j)), .int (x k (33 + 22 * j)), .int (x k (34 + 22 * j)), .int (x k (35 + 22 * j))].set 6 (.int v))) :=
  so_up (by rw [show 35 + 22 * j = 30 + 22 * j + 5 by omega]; exact ow_door h hj (by omega)) (by simp [EE, up])
theorem so_6_1 {cy : Nat → ClassId} {ad : Ads} {x : Mem} {v : Int32} {k : Nat} (h : k < 7) : SO cy ad x (up x k (5) v) k 6 0 (.inr (0, [.ref (ad k 7 0), .int (x k 5)].set 1 (.int v))) :=
  so_up (ow_len (by omega)) (by simp [EE, up])
theorem so_8_0 {cy : Nat → ClassId} {ad : Ads} {x : Mem} {v : Int32} {k : Nat} (h : k < 7) : SO cy ad x (up x k (0) v) k 8 0 (.inr (4, [.int (x k 0), .int (x k 1), .int (x k 2)].set 0 (.int v))) :=
  so_up (ow_set (by omega) (by omega)) (by simp [EE, up])
theorem so_8_1 {cy : Nat → ClassId} {ad : Ads} {x : Mem} {v : Int32} {k : Nat} (h : k < 7) : SO cy ad x (up x k (1) v) k 8 0 (.inr (4, [.int (x k 0), .int (x k 1), .int (x k 2)].set 1 (.int v))) :=
  so_up (ow_set (by omega) (by omega)) (by simp [EE, up])
theorem so_8_2 {cy : Nat → ClassId} {ad : Ads} {x : Mem} {v : Int32} {k : Nat} (h : k < 7) : SO cy ad x (up x k (2) v) k 8 0 (.inr (4, [.int (x k 0), .int (x k 1), .int (x k 2)].set 2 (.int v))) :=
  so_up (ow_set (by omega) (by omega)) (by simp [EE, up])
theorem so_10_1 {cy : Nat → ClassId} {ad : Ads} {x : Mem} {v : Int32}   : SO cy ad x (up x 8 (0) v) 8 10 0 (.inr (3, [.ref (ad 8 11 0), .int (x 8 0), .int (x 8 1)].set 1 (.int v))) :=
  so_up (ow_h (by omega)) (by simp [EE, up])
theorem so_10_2 {cy : Nat → ClassId} {ad : Ads} {x : Mem} {v : Int32}   : SO cy ad x (up x 8 (1) v) 8 10 0 (.inr (3, [.ref (ad 8 11 0), .int (x 8 0), .int (x 8 1)].set 2 (.int v))) :=
  so_up (ow_h (by omega)) (by simp [EE, up])
theorem so_12_1 {cy : Nat → ClassId} {ad : Ads} {x : Mem} {v : Int32}   : SO cy ad x (up x 8 (2) v) 8 12 0 (.inr (7, [.ref (ad 9 13 0), .int (x 8 2)].set 1 (.int v))) :=
  so_up (rfl) (by simp [EE, up])
theorem so_14_3 {cy : Nat → ClassId} {ad : Ads} {x : Mem} {v : Int32}   : SO cy ad x (up x 15 (0) v) 15 14 0 (.inr (9, [.ref (ad 10 15 0), .ref (ad 11 15 0), .ref (ad 12 16 0), .int (x 15 0), .ref (ad 13 17 0), .int (x 15 1), .int (x 15 2), .int (x 15 3), .int (x 15 4), .ref (ad 14 18 0), .int (x 15 5), .int (x 15 6), .int (x 15 7)].set 3 (.int v))) :=
  so_up (rfl) (by simp [EE, up])
theorem so_14_5 {cy : Nat → ClassId} {ad : Ads} {x : Mem} {v : Int32}   : SO cy ad x (up x 15 (1) v) 15 14 0 (.inr (9, [.ref (ad 10 15 0), .ref (ad 11 15 0), .ref (ad 12 16 0), .int (x 15 0), .ref (ad 13 17 0), .int (x 15 1), .int (x 15 2), .int (x 15 3), .int (x 15 4), .ref (ad 14 18 0), .int (x 15 5), .int (x 15 6), .int (x 15 7)].set 5 (.int v))) :=
  so_up (rfl) (by simp [EE, up])
theorem so_14_6 {cy : Nat → ClassId} {ad : Ads} {x : Mem} {v : Int32}   : SO cy ad x (up x 15 (2) v) 15 14 0 (.inr (9, [.ref (ad 10 15 0), .ref (ad 11 15 0), .ref (ad 12 16 0), .int (x 15 0), .ref (ad 13 17 0), .int (x 15 1), .int (x 15 2), .int (x 15 3), .int (x 15 4), .ref (ad 14 18 0), .int (x 15 5), .int (x 15 6), .int (x 15 7)].set 6 (.int v))) :=
  so_up (rfl) (by simp [EE, up])
theorem so_14_7 {cy : Nat → ClassId} {ad : Ads} {x : Mem} {v : Int32}   : SO cy ad x (up x 15 (3) v) 15 14 0 (.inr (9, [.ref (ad 10 15 0), .ref (ad 11 15 0), .ref (ad 12 16 0), .int (x 15 0), .ref (ad 13 17 0), .int (x 15 1), .int (x 15 2), .int (x 15 3), .int (x 15 4), .ref (ad 14 18 0), .int (x 15 5), .int (x 15 6), .int (x 15 7)].set 7 (.int v))) :=
  so_up (rfl) (by simp [EE, up])
theorem so_14_8 {cy : Nat → ClassId} {ad : Ads} {x : Mem} {v : Int32}   : SO cy ad x (up x 15 (4) v) 15 14 0 (.inr (9, [.ref (ad 10 15 0), .ref (ad 11 15 0), .ref (ad 12 16 0), .int (x 15 0), .ref (ad 13 17 0), .int (x 15 1), .int (x 15 2), .int (x 15 3), .int (x 15 4), .ref (ad 14 18 0), .int (x 15 5), .int (x 15 6), .int (x 15 7)].set 8 (.int v))) :=
  so_up (rfl) (by simp [EE, up])
theorem so_14_10 {cy : Nat → ClassId} {ad : Ads} {x : Mem} {v : Int32}   : SO cy ad x (up x 15 (5) v) 15 14 0 (.inr (9, [.ref (ad 10 15 0), .ref (ad 11 15 0), .ref (ad 12 16 0), .int (x 15 0), .ref (ad 13 17 0), .int (x 15 1), .int (x 15 2), .int (x 15 3), .int (x 15 4), .ref (ad 14 18 0), .int (x 15 5), .int (x 15 6), .int (x 15 7)].set 10 (.int v))) :=
  so_up (rfl) (by simp [EE, up])
theorem so_14_11 {cy : Nat → ClassId} {ad : Ads} {x : Mem} {v : Int32}   : SO cy ad x (up x 15 (6) v) 15 14 0 (.inr (9, [.ref (ad 10 15 0), .ref (ad 11 15 0), .ref (ad 12 16 0), .int (x 15 0), .ref (ad 13 17 0), .int (x 15 1), .int (x 15 2), .int (x 15 3), .int (x 15 4), .ref (ad 14 18 0), .int (x 15 5), .int (x 15 6), .int (x 15 7)].set 11 (.int v))) :=
  so_up (rfl) (by simp [EE, up])
theorem so_14_12 {cy : Nat → ClassId} {ad : Ads} {x : Mem} {v : Int32}   : SO cy ad x (up x 15 (7) v) 15 14 0 (.inr (9, [.ref (ad 10 15 0), .ref (ad 11 15 0), .ref (ad 12 16 0), .int (x 15 0), .ref (ad 13 17 0), .int (x 15 1), .int (x 15 2), .int (x 15 3), .int (x 15 4), .ref (ad 14 18 0), .int (x 15 5), .int (x 15 6), .int (x 15 7)].set 12 (.int v))) :=
  so_up (rfl) (by simp [EE, up])
theorem so_s_0 {cy : Nat → ClassId} {ad : Ads} {x : Mem} {v : Int32} {k d j : Nat} (h : k < 8) (hd : d < 3) (hj : j < 4) : SO cy ad x (up x k (36 + 22 * d + 4 * j) v) k (d + 20) j (.inr (5, [.int (x k (36 + 22 * d + 4 * j)), .int (x k (37 + 22 * d + 4 * j)), .int (x k (38 + 22 * d + 4 * j)), .int (x k (39 + 22 * d + 4 * j))].set 0 (.int v))) :=
  so_up (by rw [show 36 + 22 * d + 4 * j = 36 + 22 * d + 4 * j + 0 by omega]; exact ow_slot h hd hj (by omega)) (by simp [EE, up])
theorem so_s_1 {cy : Nat → ClassId} {ad : Ads} {x : Mem} {v : Int32} {k d j : Nat} (h : k < 8) (hd : d < 3) (hj : j < 4) : SO cy ad x (up x k (37 + 22 * d + 4 * j) v) k (d + 20) j (.inr (5, [.int (x k (36 + 22 * d + 4 * j)), .int (x k (37 + 22 * d + 4 * j)), .int (x k (38 + 22 * d + 4 * j)), .int (x k (39 + 22 * d + 4 * j))].set 1 (.int v))) :=
  so_up (by rw [show 37 + 22 * d + 4 * j = 36 + 22 * d + 4 * j + 1 by omega]; exact ow_slot h hd hj (by omega)) (by simp [EE, up])
theorem so_s_2 {cy : Nat → ClassId} {ad : Ads} {x : Mem} {v : Int32} {k d j : Nat} (h : k < 8) (hd : d < 3) (hj : j < 4) : SO cy ad x (up x k (38 + 22 * d + 4 * j) v) k (d + 20) j (.inr (5, [.int (x k (36 + 22 * d + 4 * j)), .int (x k (37 + 22 * d + 4 * j)), .int (x k (38 + 22 * d + 4 * j)), .int (x k (39 + 22 * d + 4 * j))].set 2 (.int v))) :=
  so_up (by rw [show 38 + 22 * d + 4 * j = 36 + 22 * d + 4 * j + 2 by omega]; exact ow_slot h hd hj (by omega)) (by simp [EE, up])
theorem so_s_3 {cy : Nat → ClassId} {ad : Ads} {x : Mem} {v : Int32} {k d j : Nat} (h : k < 8) (hd : d < 3) (hj : j < 4) : SO cy ad x (up x k (39 + 22 * d + 4 * j) v) k (d + 20) j (.inr (5, [.int (x k (36 + 22 * d + 4 * j)), .int (x k (37 + 22 * d + 4 * j)), .int (x k (38 + 22 * d + 4 * j)), .int (x k (39 + 22 * d + 4 * j))].set 3 (.int v))) :=
  so_up (by rw [show 39 + 22 * d + 4 * j = 36 + 22 * d + 4 * j + 3 by omega]; exact ow_slot h hd hj (by omega)) (by simp [EE, up])
theorem up_fun (x : Mem) (b i : Nat) (v : Int32) : up x b i v b = upd (x b) i v := by
  funext n
  by_cases h : n = i <;> simp [up, upd, h]
theorem so_13 {cy : Nat → ClassId} {ad : Ads} {x : Mem} {v : Int32} {i : Nat} : SO cy ad x (up x 9 i v) 9 13 0 (.inl (cy 0, 60, .inl (upd (x 9) i v))) := so_up rfl (by show Sum.inl _ = _; rw [up_fun])
theorem so_15 {cy : Nat → ClassId} {ad : Ads} {x : Mem} {v : Int32} {k i : Nat} (hk : k = 10 ∨ k = 11) : SO cy ad x (up x k i v) k 15 0 (.inl (cy 0, 96, .inl (upd (x k) i v))) := so_up (by rcases hk with rfl | rfl <;> rfl) (by show Sum.inl _ = _; rw [up_fun])
theorem so_16 {cy : Nat → ClassId} {ad : Ads} {x : Mem} {v : Int32} {i : Nat} : SO cy ad x (up x 12 i v) 12 16 0 (.inl (cy 0, 576, .inl (upd (x 12) i v))) := so_up rfl (by show Sum.inl _ = _; rw [up_fun])
theorem so_17 {cy : Nat → ClassId} {ad : Ads} {x : Mem} {v : Int32} {i : Nat} : SO cy ad x (up x 13 i v) 13 17 0 (.inl (cy 0, 60, .inl (upd (x 13) i v))) := so_up rfl (by show Sum.inl _ = _; rw [up_fun])
theorem so_18 {cy : Nat → ClassId} {ad : Ads} {x : Mem} {v : Int32} {i : Nat} : SO cy ad x (up x 14 i v) 14 18 0 (.inl (cy 0, 93, .inl (upd (x 14) i v))) := so_up rfl (by show Sum.inl _ = _; rw [up_fun])
end
