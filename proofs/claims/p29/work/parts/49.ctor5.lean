theorem ob_X8 : Cond.methodLink RX8 1 Lib.objectInit ∈ TB := tbm (i := 31) (by decide +kernel) (by decide +kernel)
theorem nl_X8_7 : NL RX8 7 6 6 := ⟨RX6, TX6, rfl, tbm (i := 34) (by decide +kernel) (by decide +kernel), tbm (i := 35) (by decide +kernel) (by decide +kernel), tbm (i := 9) (by decide +kernel) (by decide +kernel)⟩
theorem il_X8_9 : IL RX8 9 yX6_init cX6_init 2 0 := ⟨tbm (i := 36) (by decide +kernel) (by decide +kernel), tbm (i := 37) (by decide +kernel) (by decide +kernel), tbm (i := 9) (by decide +kernel) (by decide +kernel), tbm (i := 38) (by decide +kernel) (by decide +kernel), rfl, by decide, by decide, by decide +kernel⟩
theorem fq_8_0 : ∀ q : vw_C, vwCl[8]? = some q → (q.2.1 0).2.2.2 = true ∧ (q.2.1 0).1 = RX8 ∧ parseFieldDescriptor (q.2.1 0).2.2.1 = some (.object "RollingFob$State") := fun q hq => by
  obtain rfl := Option.some.inj hq
  exact ⟨rfl, rfl, by decide +kernel⟩
theorem nl_X8_16 : NL RX8 16 3 3 := ⟨RX3, TX3, rfl, tbm (i := 183) (by decide +kernel) (by decide +kernel), tbm (i := 184) (by decide +kernel) (by decide +kernel), tbm (i := 15) (by decide +kernel) (by decide +kernel)⟩
theorem nv_3 : ∀ r : vw_C, vwCl[3]? = some r → ∀ j, j < 3 → defaultValue ((parseFieldDescriptor (r.2.1 j).2.2.1).getD .int) = vp_V [.null, .int 0, .int 0] j := fun r hr j hj => by
  obtain rfl := Option.some.inj hr
  rcases (show j = 0 ∨ j = 1 ∨ j = 2 by omega) with rfl | rfl | rfl
  · show defaultValue ((parseFieldDescriptor "[LRollingFob$State;").getD .int) = _
    rw [show parseFieldDescriptor "[LRollingFob$State;" = some (.array (.object "RollingFob$State")) by decide +kernel]
    rfl
  · show defaultValue ((parseFieldDescriptor "I").getD .int) = _
    rw [show parseFieldDescriptor "I" = some .int by decide +kernel]
    rfl
  · show defaultValue ((parseFieldDescriptor "I").getD .int) = _
    rw [show parseFieldDescriptor "I" = some .int by decide +kernel]
    rfl
theorem il_X8_18 : IL RX8 18 yX3_init cX3_init 2 0 := ⟨tbm (i := 185) (by decide +kernel) (by decide +kernel), tbm (i := 186) (by decide +kernel) (by decide +kernel), tbm (i := 15) (by decide +kernel) (by decide +kernel), tbm (i := 187) (by decide +kernel) (by decide +kernel), rfl, by decide, by decide, by decide +kernel⟩
theorem fq_8_1 : ∀ q : vw_C, vwCl[8]? = some q → (q.2.1 1).2.2.2 = true ∧ (q.2.1 1).1 = RX8 ∧ parseFieldDescriptor (q.2.1 1).2.2.1 = some (.object "RollingFob$History") := fun q hq => by
  obtain rfl := Option.some.inj hq
  exact ⟨rfl, rfl, by decide +kernel⟩
theorem nl_X8_23 : NL RX8 23 7 2 := ⟨RX7, TX7, rfl, tbm (i := 203) (by decide +kernel) (by decide +kernel), tbm (i := 204) (by decide +kernel) (by decide +kernel), tbm (i := 16) (by decide +kernel) (by decide +kernel)⟩
theorem nv_7 : ∀ r : vw_C, vwCl[7]? = some r → ∀ j, j < 2 → defaultValue ((parseFieldDescriptor (r.2.1 j).2.2.1).getD .int) = vp_V [.null, .int 0] j := fun r hr j hj => by
  obtain rfl := Option.some.inj hr
  rcases (show j = 0 ∨ j = 1 by omega) with rfl | rfl
  · show defaultValue ((parseFieldDescriptor "[I").getD .int) = _
    rw [show parseFieldDescriptor "[I" = some (.array .int) by decide +kernel]
    rfl
  · show defaultValue ((parseFieldDescriptor "I").getD .int) = _
    rw [show parseFieldDescriptor "I" = some .int by decide +kernel]
    rfl
theorem il_X8_25 : IL RX8 25 yX7_init cX7_init 1 0 := ⟨tbm (i := 205) (by decide +kernel) (by decide +kernel), tbm (i := 206) (by decide +kernel) (by decide +kernel), tbm (i := 16) (by decide +kernel) (by decide +kernel), tbm (i := 207) (by decide +kernel) (by decide +kernel), rfl, by decide, by decide, by decide +kernel⟩
theorem fq_8_2 : ∀ q : vw_C, vwCl[8]? = some q → (q.2.1 2).2.2.2 = true ∧ (q.2.1 2).1 = RX8 ∧ parseFieldDescriptor (q.2.1 2).2.2.1 = some (.object "RollingFob$Text") := fun q hq => by
  obtain rfl := Option.some.inj hq
  exact ⟨rfl, rfl, by decide +kernel⟩
theorem nl_X8_30 : NL RX8 30 1 7 := ⟨RX1, TX1, rfl, tbm (i := 215) (by decide +kernel) (by decide +kernel), tbm (i := 69) (by decide +kernel) (by decide +kernel), tbm (i := 11) (by decide +kernel) (by decide +kernel)⟩
theorem il_X8_32 : IL RX8 32 yX1_init cX1_init 2 0 := ⟨tbm (i := 216) (by decide +kernel) (by decide +kernel), tbm (i := 71) (by decide +kernel) (by decide +kernel), tbm (i := 11) (by decide +kernel) (by decide +kernel), tbm (i := 72) (by decide +kernel) (by decide +kernel), rfl, by decide, by decide, by decide +kernel⟩
theorem fq_8_3 : ∀ q : vw_C, vwCl[8]? = some q → (q.2.1 3).2.2.2 = true ∧ (q.2.1 3).1 = RX8 ∧ parseFieldDescriptor (q.2.1 3).2.2.1 = some (.object "RollingFob$Door") := fun q hq => by
  obtain rfl := Option.some.inj hq
  exact ⟨rfl, rfl, by decide +kernel⟩
def W_X8 (cy : Nat → ClassId) (h0 : Nat) (z : (Nat × (Nat → Nat → Nat)) × (Nat × (Nat → Nat → Nat → Nat)) × (Nat × Nat) × (Nat × (Nat → Nat))) : va_W := (h0, .inr (8, [.ref z.1.1, .ref z.2.1.1, .ref z.2.2.1.1, .ref z.2.2.2.1])) :: (((W_X6 cy z.1.1 z.1.2 ++ W_X3 cy z.2.1.1 z.2.1.2) ++ W_X7 cy z.2.2.1.1 z.2.2.1.2) ++ W_X1 cy z.2.2.2.1 z.2.2.2.2)
abbrev rm_X8_init : Room := { frames := 5, cells := 206, slots := 959, locals := 103 }
set_option maxHeartbeats 4000000 in
set_option maxRecDepth 100000 in
theorem c_X8_init {l : Launch} {D : va_G} {cy : Nat → ClassId} {h0 : Nat} : Cn l yX8_init cX8_init 1 rm_X8_init D cy h0 [] (.inr (8, [.null, .null, .null, .null])) 206 959 (S := (Nat × (Nat → Nat → Nat)) × (Nat × (Nat → Nat → Nat → Nat)) × (Nat × Nat) × (Nat × (Nat → Nat))) (fun z => W_X8 cy h0 z) := by
  refine rc_entry (by decide) rfl (Nat.le_of_ble_eq_true rfl) ?_
  intro p e s m args below meth c hc hnm hAO hA
  show RM _ _ _ _ _ _ _ _ _ _ _ _ _ _ _ _ _ [(0, .ref h0)] []
  refine rm_aload_n hc dX8_init_0 rfl rfl ?_
  refine rc_obj hc dX8_init_1 ob_X8 (by decide) ⟨Nat.le_of_ble_eq_true rfl, Nat.le_of_ble_eq_true rfl⟩ ?_
  refine rm_aload_n hc dX8_init_4 rfl rfl ?_
  refine rc_new (fs := [.null, .null, .null, .null, .int 0, .int 0]) hc dX8_init_5 nl_X8_7 hA nv_6 ⟨Nat.le_of_ble_eq_true rfl, Nat.le_of_ble_eq_true rfl⟩ (fun q_1 => ?_)
  refine rm_dup hc dX8_init_8 rfl ?_
  refine rc_initG (As := []) (rest := [.ref q_1, .ref h0]) hc dX8_init_9 (c_X6_init) il_X8_9 hAO hA rfl rfl (Nat.le_of_ble_eq_true rfl) ⟨⟨rfl, rfl⟩, Nat.le_of_ble_eq_true rfl, Nat.le_of_ble_eq_true rfl⟩ ⟨Nat.le_of_ble_eq_true rfl, Nat.le_of_ble_eq_true rfl⟩ (fun z_2 w_2 hw_2 => rc_wn (ws' := (h0, .inr (8, [.null, .null, .null, .null])) :: w_2) (nc' := 28) (ns' := 123) rfl rfl rfl ?_)
  refine rc_putF hc hnm dX8_init_12 fl_X8_10 0 rfl (Nat.le_of_ble_eq_true rfl) fq_8_0 rfl rfl (rc_wn (ws' := (h0, .inr (8, [.ref q_1, .null, .null, .null])) :: w_2) (nc' := 28) (ns' := 123) rfl rfl rfl ?_)
  refine rm_aload_n hc dX8_init_15 rfl rfl ?_
  refine rc_new (fs := [.null, .int 0, .int 0]) hc dX8_init_16 nl_X8_16 hA nv_3 ⟨Nat.le_of_ble_eq_true rfl, Nat.le_of_ble_eq_true rfl⟩ (fun q_3 => ?_)
  refine rm_dup hc dX8_init_19 rfl ?_
  refine rc_initG (As := []) (rest := [.ref q_3, .ref h0]) hc dX8_init_20 (c_X3_init) il_X8_18 hAO hA rfl rfl (Nat.le_of_ble_eq_true rfl) ⟨⟨rfl, rfl⟩, Nat.le_of_ble_eq_true rfl, Nat.le_of_ble_eq_true rfl⟩ ⟨Nat.le_of_ble_eq_true rfl, Nat.le_of_ble_eq_true rfl⟩ (fun z_4 w_4 hw_4 => rc_wn (ws' := (h0, .inr (8, [.ref q_1, .null, .null, .null])) :: (w_2 ++ w_4)) (nc' := 198) (ns' := 870) rfl rfl rfl ?_)
  refine rc_putF hc hnm dX8_init_23 fl_X8_19 0 rfl (Nat.le_of_ble_eq_true rfl) fq_8_1 rfl rfl (rc_wn (ws' := (h0, .inr (8, [.ref q_1, .ref q_3, .null, .null])) :: (w_2 ++ w_4)) (nc' := 198) (ns' := 870) rfl rfl rfl ?_)
  refine rm_aload_n hc dX8_init_26 rfl rfl ?_
  refine rc_new (fs := [.null, .int 0]) hc dX8_init_27 nl_X8_23 hA nv_7 ⟨Nat.le_of_ble_eq_true rfl, Nat.le_of_ble_eq_true rfl⟩ (fun q_5 => ?_)
  refine rm_dup hc dX8_init_30 rfl ?_
  refine rc_initG (As := []) (rest := [.ref q_5, .ref h0]) hc dX8_init_31 (c_X7_init) il_X8_25 hAO hA rfl rfl (Nat.le_of_ble_eq_true rfl) ⟨⟨rfl, rfl⟩, Nat.le_of_ble_eq_true rfl, Nat.le_of_ble_eq_true rfl⟩ ⟨Nat.le_of_ble_eq_true rfl, Nat.le_of_ble_eq_true rfl⟩ (fun z_6 w_6 hw_6 => rc_wn (ws' := (h0, .inr (8, [.ref q_1, .ref q_3, .null, .null])) :: ((w_2 ++ w_4) ++ w_6)) (nc' := 200) (ns' := 932) rfl rfl rfl ?_)
  refine rc_putF hc hnm dX8_init_34 fl_X8_26 0 rfl (Nat.le_of_ble_eq_true rfl) fq_8_2 rfl rfl (rc_wn (ws' := (h0, .inr (8, [.ref q_1, .ref q_3, .ref q_5, .null])) :: ((w_2 ++ w_4) ++ w_6)) (nc' := 200) (ns' := 932) rfl rfl rfl ?_)
  refine rm_aload_n hc dX8_init_37 rfl rfl ?_
  refine rc_new (fs := [.null, .int 0, .int 0, .int 0, .int 0, .int 0, .int 0]) hc dX8_init_38 nl_X8_30 hA nv_1 ⟨Nat.le_of_ble_eq_true rfl, Nat.le_of_ble_eq_true rfl⟩ (fun q_7 => ?_)
  refine rm_dup hc dX8_init_41 rfl ?_
  refine rc_initG (As := []) (rest := [.ref q_7, .ref h0]) hc dX8_init_42 (c_X1_init) il_X8_32 hAO hA rfl rfl (Nat.le_of_ble_eq_true rfl) ⟨⟨rfl, rfl⟩, Nat.le_of_ble_eq_true rfl, Nat.le_of_ble_eq_true rfl⟩ ⟨Nat.le_of_ble_eq_true rfl, Nat.le_of_ble_eq_true rfl⟩ (fun z_8 w_8 hw_8 => rc_wn (ws' := (h0, .inr (8, [.ref q_1, .ref q_3, .ref q_5, .null])) :: (((w_2 ++ w_4) ++ w_6) ++ w_8)) (nc' := 206) (ns' := 959) rfl rfl rfl ?_)
  refine rc_putF hc hnm dX8_init_45 fl_X8_33 0 rfl (Nat.le_of_ble_eq_true rfl) fq_8_3 rfl rfl (rc_wn (ws' := (h0, .inr (8, [.ref q_1, .ref q_3, .ref q_5, .ref q_7])) :: (((w_2 ++ w_4) ++ w_6) ++ w_8)) (nc' := 206) (ns' := 959) rfl rfl rfl ?_)
  subst hw_2; subst hw_4; subst hw_6; subst hw_8
  exact rc_vret (W1 := fun z => W_X8 cy h0 z) (z := ((q_1, z_2), (q_3, z_4), (q_5, z_6), (q_7, z_8))) hc dX8_init_48 (fun _ h => h) (fun h => h)
