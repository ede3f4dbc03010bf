theorem ob_X8 : Cond.methodLink RX8 1 Lib.objectInit ∈ TB := tbm (i := 61) (by decide +kernel) (by decide +kernel)
theorem nl_X8_7 : NL RX8 7 6 6 := ⟨RX6, TX6, rfl, tbm (i := 64) (by decide +kernel) (by decide +kernel), tbm (i := 65) (by decide +kernel) (by decide +kernel), tbm (i := 37) (by decide +kernel) (by decide +kernel)⟩
theorem il_X8_9 : IL RX8 9 yX6_init cX6_init 2 0 := ⟨tbm (i := 66) (by decide +kernel) (by decide +kernel), tbm (i := 67) (by decide +kernel) (by decide +kernel), tbm (i := 37) (by decide +kernel) (by decide +kernel), tbm (i := 68) (by decide +kernel) (by decide +kernel), rfl, by decide, by decide, by decide +kernel⟩
theorem fq_8_0 : ∀ q : vw_C, vwCl[8]? = some q → (q.2.1 0).2.2.2 = true ∧ (q.2.1 0).1 = RX8 ∧ parseFieldDescriptor (q.2.1 0).2.2.1 = some (.object "RollingFob$State") := fun q hq => by
  obtain rfl := Option.some.inj hq
  exact ⟨rfl, rfl, by decide +kernel⟩
theorem nl_X8_16 : NL RX8 16 3 3 := ⟨RX3, TX3, rfl, tbm (i := 213) (by decide +kernel) (by decide +kernel), tbm (i := 214) (by decide +kernel) (by decide +kernel), tbm (i := 43) (by decide +kernel) (by decide +kernel)⟩
theorem nv_3 : ∀ r : vw_C, vwCl[3]? = some r → ∀ j, j < 3 → defaultValue ((parseFieldDescriptor (r.2.1 j).2.2.1).getD .int) = vp_V [.null, .int 0, .int 0] j := fun r hr j hj => by
  obtain rfl := Option.some.inj hr
  rcases (show j = 0 ∨ j = 1 ∨ j = 2 by omega) with rfl | rfl | rfl
  · show defaultValue ((parseFieldDescriptor "[LRollingFob$State;").getD .int) = _
    rw [show parseFieldDescriptor "[LRollingFob$State;" = some (.array (.object "RollingFob$State")) by decide +kernel]
    rfl
  · show defaultValue ((parseFieldDescriptor "I").getD .int) = _
    rw [show parseFieldDescriptor "I" = some .int by decide +kernel]
    rfl
  · show defaultValue ((parseFieldDescriptor "I").getD .int) = _
    rw [show parseFieldDescriptor "I" = some .int by decide +kernel]
    rfl
theorem il_X8_18 : IL RX8 18 yX3_init cX3_init 2 0 := ⟨tbm (i := 215) (by decide +kernel) (by decide +kernel), tbm (i := 216) (by decide +kernel) (by decide +kernel), tbm (i := 43) (by decide +kernel) (by decide +kernel), tbm (i := 217) (by decide +kernel) (by decide +kernel), rfl, by decide, by decide, by decide +kernel⟩
theorem fq_8_1 : ∀ q : vw_C, vwCl[8]? = some q → (q.2.1 1).2.2.2 = true ∧ (q.2.1 1).1 = RX8 ∧ parseFieldDescriptor (q.2.1 1).2.2.1 = some (.object "RollingFob$History") := fun q hq => by
  obtain rfl := Option.some.inj hq
  exact ⟨rfl, rfl, by decide +kernel⟩
theorem nl_X8_23 : NL RX8 23 7 2 := ⟨RX7, TX7, rfl, tbm (i := 233) (by decide +kernel) (by decide +kernel), tbm (i := 234) (by decide +kernel) (by decide +kernel), tbm (i := 44) (by decide +kernel) (by decide +kernel)⟩
theorem nv_7 : ∀ r : vw_C, vwCl[7]? = some r → ∀ j, j < 2 → defaultValue ((parseFieldDescriptor (r.2.1 j).2.2.1).getD .int) = vp_V [.null, .int 0] j := fun r hr j hj => by
  obtain rfl := Option.some.inj hr
  rcases (show j = 0 ∨ j = 1 by omega) with rfl | rfl
  · show defaultValue ((parseFieldDescriptor "[I").getD .int) = _
    rw [show parseFieldDescriptor "[I" = some (.array .int) by decide +kernel]
    rfl
  · show defaultValue ((parseFieldDescriptor "I").getD .int) = _
    rw [show parseFieldDescriptor "I" = some .int by decide +kernel]
    rfl
theorem il_X8_25 : IL RX8 25 yX7_init cX7_init 1 0 := ⟨tbm (i := 235) (by decide +kernel) (by decide +kernel), tbm (i := 236) (by decide +kernel) (by decide +kernel), tbm (i := 44) (by decide +kernel) (by decide +kernel), tbm (i := 237) (by decide +kernel) (by decide +kernel), rfl, by decide, by decide, by decide +kernel⟩
theorem fq_8_2 : ∀ q : vw_C, vwCl[8]? = some q → (q.2.1 2).2.2.2 = true ∧ (q.2.1 2).1 = RX8 ∧ parseFieldDescriptor (q.2.1 2).2.2.1 = some (.object "RollingFob$Text") := fun q hq => by
  obtain rfl := Option.some.inj hq
  exact ⟨rfl, rfl, by decide +kernel⟩
theorem nl_X8_30 : NL RX8 30 1 7 := ⟨RX1, TX1, rfl, tbm (i := 247) (by decide +kernel) (by decide +kernel), tbm (i := 99) (by decide +kernel) (by decide +kernel), tbm (i := 39) (by decide +kernel) (by decide +kernel)⟩
theorem il_X8_32 : IL RX8 32 yX1_init cX1_init 2 0 := ⟨tbm (i := 248) (by decide +kernel) (by decide +kernel), tbm (i := 101) (by decide +kernel) (by decide +kernel), tbm (i := 39) (by decide +kernel) (by decide +kernel), tbm (i := 102) (by decide +kernel) (by decide +kernel), rfl, by decide, by decide, by decide +kernel⟩
theorem fq_8_3 : ∀ q : vw_C, vwCl[8]? = some q → (q.2.1 3).2.2.2 = true ∧ (q.2.1 3).1 = RX8 ∧ parseFieldDescriptor (q.2.1 3).2.2.1 = some (.object "RollingFob$Door") := fun q hq => by
  obtain rfl := Option.some.inj hq
  exact ⟨rfl, rfl, by decide +kernel⟩
theorem ob_X9 : Cond.methodLink RX9 1 Lib.objectInit ∈ TB := tbm (i := 803) (by decide +kernel) (by decide +kernel)
theorem fq_9_0 : ∀ q : vw_C, vwCl[9]? = some q → (q.2.1 0).2.2.2 = true ∧ (q.2.1 0).1 = RX9 ∧ parseFieldDescriptor (q.2.1 0).2.2.1 = some (.array .int) := fun q hq => by
  obtain rfl := Option.some.inj hq
  exact ⟨rfl, rfl, by decide +kernel⟩
theorem fq_9_1 : ∀ q : vw_C, vwCl[9]? = some q → (q.2.1 1).2.2.2 = true ∧ (q.2.1 1).1 = RX9 ∧ parseFieldDescriptor (q.2.1 1).2.2.1 = some (.array .int) := fun q hq => by
  obtain rfl := Option.some.inj hq
  exact ⟨rfl, rfl, by decide +kernel⟩
theorem fq_9_2 : ∀ q : vw_C, vwCl[9]? = some q → (q.2.1 2).2.2.2 = true ∧ (q.2.1 2).1 = RX9 ∧ parseFieldDescriptor (q.2.1 2).2.2.1 = some (.array .int) := fun q hq => by
  obtain rfl := Option.some.inj hq
  exact ⟨rfl, rfl, by decide +kernel⟩
theorem fq_9_4 : ∀ q : vw_C, vwCl[9]? = some q → (q.2.1 4).2.2.2 = true ∧ (q.2.1 4).1 = RX9 ∧ parseFieldDescriptor (q.2.1 4).2.2.1 = some (.array .int) := fun q hq => by
  obtain rfl := Option.some.inj hq
  exact ⟨rfl, rfl, by decide +kernel⟩
theorem fq_9_9 : ∀ q : vw_C, vwCl[9]? = some q → (q.2.1 9).2.2.2 = true ∧ (q.2.1 9).1 = RX9 ∧ parseFieldDescriptor (q.2.1 9).2.2.1 = some (.array .int) := fun q hq => by
  obtain rfl := Option.some.inj hq
  exact ⟨rfl, rfl, by decide +kernel⟩
def W_X8 (cy : Nat → ClassId) (h0 : Nat) (z : (Nat × (Nat → Nat → Nat)) × (Nat × (Nat → Nat → Nat → Nat)) × (Nat × Nat) × (Nat × (Nat → Nat))) : va_W := (h0, .inr (8, [.ref z.1.1, .ref z.2.1.1, .ref z.2.2.1.1, .ref z.2.2.2.1])) :: (((W_X6 cy z.1.1 z.1.2 ++ W_X3 cy z.2.1.1 z.2.1.2) ++ W_X7 cy z.2.2.1.1 z.2.2.1.2) ++ W_X1 cy z.2.2.2.1 z.2.2.2.2)
def nowI : Nat → Int32 := upd (upd (upd (upd (upd (upd (upd (upd (upd (upd (upd (fun _ => 0) 0 16) 1 100) 2 8) 14 0) 16 100) 18 1) 20 100) 22 2) 24 100) 26 3) 28 100
def W_X9 (cy : Nat → ClassId) (h0 : Nat) (z : Nat → Nat) : va_W := [(h0, .inr (9, [.ref (z 0), .ref (z 1), .ref (z 2), .int 0, .ref (z 3), .int 0, .int 0, .int 0, .int 0, .ref (z 4), .int 0, .int 0, .int 0])), (z 0, .inl (cy 0, 96, .inl nowI)), (z 1, .inl (cy 0, 96, .inl (fun _ => 0))), (z 2, .inl (cy 0, 576, .inl (fun _ => 0))), (z 3, .inl (cy 0, 60, .inl (fun _ => 0))), (z 4, .inl (cy 0, 93, .inl (fun _ => 0)))]
abbrev rm_X8_init : Room := { frames := 5, cells := 206, slots := 959, locals := 103 }
set_option maxHeartbeats 4000000 in
set_option maxRecDepth 100000 in
theorem c_X8_init {l : Launch} {D : va_G} {cy : Nat → ClassId} {h0 : Nat} : Cn l yX8_init cX8_init 1 rm_X8_init D cy h0 [] (.inr (8, [.null, .null, .null, .null])) 206 959 (S := (Nat × (Nat → Nat → Nat)) × (Nat × (Nat → Nat → Nat → Nat)) × (Nat × Nat) × (Nat × (Nat → Nat))) (fun z => W_X8 cy h0 z) := by
  refine rc_entry (by decide) rfl (Nat.le_of_ble_eq_true rfl) ?_
  intro p e s m args below meth c hc hnm hAO hA
  show RM _ _ _ _ _ _ _ _ _ _ _ _ _ _ _ _ _ [(0, .ref h0)] []
  refine rm_aload_n hc dX8_init_0 rfl rfl ?_
  refine rc_obj hc dX8_init_1 ob_X8 (by decide) ⟨Nat.le_of_ble_eq_true rfl, Nat.le_of_ble_eq_true rfl⟩ ?_
  refine rm_aload_n hc dX8_init_4 rfl rfl ?_
  refine rc_new (fs := [.null, .null, .null, .null, .int 0, .int 0]) hc dX8_init_5 nl_X8_7 hA nv_6 ⟨Nat.le_of_ble_eq_true rfl, Nat.le_of_ble_eq_true rfl⟩ (fun q_1 => ?_)
  refine rm_dup hc dX8_init_8 rfl ?_
  refine rc_initG (As := []) (rest := [.ref q_1, .ref h0]) hc dX8_init_9 (c_X6_init) il_X8_9 hAO hA rfl rfl (Nat.le_of_ble_eq_true rfl) ⟨⟨rfl, rfl⟩, Nat.le_of_ble_eq_true rfl, Nat.le_of_ble_eq_true rfl⟩ ⟨Nat.le_of_ble_eq_true rfl, Nat.le_of_ble_eq_true rfl⟩ (fun z_2 w_2 hw_2 => rc_wn (ws' := (h0, .inr (8, [.null, .null, .null, .null])) :: w_2) (nc' := 28) (ns' := 123) rfl rfl rfl ?_)
  refine rc_putF hc hnm dX8_init_12 fl_X8_10 0 rfl (Nat.le_of_ble_eq_true rfl) fq_8_0 rfl rfl (rc_wn (ws' := (h0, .inr (8, [.ref q_1, .null, .null, .null])) :: w_2) (nc' := 28) (ns' := 123) rfl rfl rfl ?_)
  refine rm_aload_n hc dX8_init_15 rfl rfl ?_
  refine rc_new (fs := [.null, .int 0, .int 0]) hc dX8_init_16 nl_X8_16 hA nv_3 ⟨Nat.le_of_ble_eq_true rfl, Nat.le_of_ble_eq_true rfl⟩ (fun q_3 => ?_)
  refine rm_dup hc dX8_init_19 rfl ?_
  refine rc_initG (As := []) (rest := [.ref q_3, .ref h0]) hc dX8_init_20 (c_X3_init) il_X8_18 hAO hA rfl rfl (Nat.le_of_ble_eq_true rfl) ⟨⟨rfl, rfl⟩, Nat.le_of_ble_eq_true rfl, Nat.le_of_ble_eq_true rfl⟩ ⟨Nat.le_of_ble_eq_true rfl, Nat.le_of_ble_eq_true rfl⟩ (fun z_4 w_4 hw_4 => rc_wn (ws' := (h0, .inr (8, [.ref q_1, .null, .null, .null])) :: (w_2 ++ w_4)) (nc' := 198) (ns' := 870) rfl rfl rfl ?_)
  refine rc_putF hc hnm dX8_init_23 fl_X8_19 0 rfl (Nat.le_of_ble_eq_true rfl) fq_8_1 rfl rfl (rc_wn (ws' := (h0, .inr (8, [.ref q_1, .ref q_3, .null, .null])) :: (w_2 ++ w_4)) (nc' := 198) (ns' := 870) rfl rfl rfl ?_)
  refine rm_aload_n hc dX8_init_26 rfl rfl ?_
  refine rc_new (fs := [.null, .int 0]) hc dX8_init_27 nl_X8_23 hA nv_7 ⟨Nat.le_of_ble_eq_true rfl, Nat.le_of_ble_eq_true rfl⟩ (fun q_5 => ?_)
  refine rm_dup hc dX8_init_30 rfl ?_
  refine rc_initG (As := []) (rest := [.ref q_5, .ref h0]) hc dX8_init_31 (c_X7_init) il_X8_25 hAO hA rfl rfl (Nat.le_of_ble_eq_true rfl) ⟨⟨rfl, rfl⟩, Nat.le_of_ble_eq_true rfl, Nat.le_of_ble_eq_true rfl⟩ ⟨Nat.le_of_ble_eq_true rfl, Nat.le_of_ble_eq_true rfl⟩ (fun z_6 w_6 hw_6 => rc_wn (ws' := (h0, .inr (8, [.ref q_1, .ref q_3, .null, .null])) :: ((w_2 ++ w_4) ++ w_6)) (nc' := 200) (ns' := 932) rfl rfl rfl ?_)
  refine rc_putF hc hnm dX8_init_34 fl_X8_26 0 rfl (Nat.le_of_ble_eq_true rfl) fq_8_2 rfl rfl (rc_wn (ws' := (h0, .inr (8, [.ref q_1, .ref q_3, .ref q_5, .null])) :: ((w_2 ++ w_4) ++ w_6)) (nc' := 200) (ns' := 932) rfl rfl rfl ?_)
  refine rm_aload_n hc dX8_init_37 rfl rfl ?_
  refine rc_new (fs := [.null, .int 0, .int 0, .int 0, .int 0, .int 0, .int 0]) hc dX8_init_38 nl_X8_30 hA nv_1 ⟨Nat.le_of_ble_eq_true rfl, Nat.le_of_ble_eq_true rfl⟩ (fun q_7 => ?_)
  refine rm_dup hc dX8_init_41 rfl ?_
  refine rc_initG (As := []) (rest := [.ref q_7, .ref h0]) hc dX8_init_42 (c_X1_init) il_X8_32 hAO hA rfl rfl (Nat.le_of_ble_eq_true rfl) ⟨⟨rfl, rfl⟩, Nat.le_of_ble_eq_true rfl, Nat.le_of_ble_eq_true rfl⟩ ⟨Nat.le_of_ble_eq_true rfl, Nat.le_of_ble_eq_true rfl⟩ (fun z_8 w_8 hw_8 => rc_wn (ws' := (h0, .inr (8, [.ref q_1, .ref q_3, .ref q_5, .null])) :: (((w_2 ++ w_4) ++ w_6) ++ w_8)) (nc' := 206) (ns' := 959) rfl rfl rfl ?_)
  refine rc_putF hc hnm dX8_init_45 fl_X8_33 0 rfl (Nat.le_of_ble_eq_true rfl) fq_8_3 rfl rfl (rc_wn (ws' := (h0, .inr (8, [.ref q_1, .ref q_3, .ref q_5, .ref q_7])) :: (((w_2 ++ w_4) ++ w_6) ++ w_8)) (nc' := 206) (ns' := 959) rfl rfl rfl ?_)
  subst hw_2; subst hw_4; subst hw_6; subst hw_8
  exact rc_vret (W1 := fun z => W_X8 cy h0 z) (z := ((q_1, z_2), (q_3, z_4), (q_5, z_6), (q_7, z_8))) hc dX8_init_48 (fun _ h => h) (fun h => h)

abbrev rm_X9_init : Room := { frames := 1, cells := 5, slots := 921, locals := 20 }
set_option maxHeartbeats 4000000 in
set_option maxRecDepth 100000 in
theorem c_X9_init {l : Launch} {D : va_G} {cy : Nat → ClassId} {h0 : Nat} : Cn l yX9_init cX9_init 2 rm_X9_init D cy h0 [] (.inr (9, [.null, .null, .null, .int 0, .null, .int 0, .int 0, .int 0, .int 0, .null, .int 0, .int 0, .int 0])) 5 921 (S := Nat → Nat) (fun z => W_X9 cy h0 z) := by
  refine rc_entry (by decide) rfl (Nat.le_of_ble_eq_true rfl) ?_
  intro p e s m args below meth c hc hnm hAO hA
  show RM _ _ _ _ _ _ _ _ _ _ _ _ _ _ _ _ _ [(0, .ref h0)] []
  refine rm_aload_n hc dX9_init_0 rfl rfl ?_
  refine rc_obj hc dX9_init_1 ob_X9 (by decide) ⟨Nat.le_of_ble_eq_true rfl, Nat.le_of_ble_eq_true rfl⟩ ?_
  refine rm_aload_n hc dX9_init_4 rfl rfl ?_
  refine rm_bipush (v := 96) hc dX9_init_5 (by decide) ?_
  refine rc_newi (N := 96) hc dX9_init_7 hA (by decide) (by decide) (by decide) ⟨Nat.le_of_ble_eq_true rfl, Nat.le_of_ble_eq_true rfl⟩ (fun q_1 => rc_wn (ws' := [(h0, .inr (9, [.null, .null, .null, .int 0, .null, .int 0, .int 0, .int 0, .int 0, .null, .int 0, .int 0, .int 0])), (q_1, .inl (cy 0, 96, .inl (fun _ => 0)))]) (nc' := 1) (ns' := 96) rfl rfl rfl ?_)
  refine rc_putF hc hnm dX9_init_9 fl_X9_7 0 rfl (Nat.le_of_ble_eq_true rfl) fq_9_0 rfl rfl (rc_wn (ws' := [(h0, .inr (9, [.ref q_1, .null, .null, .int 0, .null, .int 0, .int 0, .int 0, .int 0, .null, .int 0, .int 0, .int 0])), (q_1, .inl (cy 0, 96, .inl (fun _ => 0)))]) (nc' := 1) (ns' := 96) rfl rfl rfl ?_)
  refine rm_aload_n hc dX9_init_12 rfl rfl ?_
  refine rm_bipush (v := 96) hc dX9_init_13 (by decide) ?_
  refine rc_newi (N := 96) hc dX9_init_15 hA (by decide) (by decide) (by decide) ⟨Nat.le_of_ble_eq_true rfl, Nat.le_of_ble_eq_true rfl⟩ (fun q_2 => rc_wn (ws' := [(h0, .inr (9, [.ref q_1, .null, .null, .int 0, .null, .int 0, .int 0, .int 0, .int 0, .null, .int 0, .int 0, .int 0])), (q_1, .inl (cy 0, 96, .inl (fun _ => 0))), (q_2, .inl (cy 0, 96, .inl (fun _ => 0)))]) (nc' := 2) (ns' := 192) rfl rfl rfl ?_)
  refine rc_putF hc hnm dX9_init_17 fl_X9_13 0 rfl (Nat.le_of_ble_eq_true rfl) fq_9_1 rfl rfl (rc_wn (ws' := [(h0, .inr (9, [.ref q_1, .ref q_2, .null, .int 0, .null, .int 0, .int 0, .int 0, .int 0, .null, .int 0, .int 0, .int 0])), (q_1, .inl (cy 0, 96, .inl (fun _ => 0))), (q_2, .inl (cy 0, 96, .inl (fun _ => 0)))]) (nc' := 2) (ns' := 192) rfl rfl rfl ?_)
  refine rm_aload_n hc dX9_init_20 rfl rfl ?_
  refine rm_sipush (v := 576) hc dX9_init_21 (by decide) ?_
  refine rc_newi (N := 576) hc dX9_init_24 hA (by decide) (by decide) (by decide) ⟨Nat.le_of_ble_eq_true rfl, Nat.le_of_ble_eq_true rfl⟩ (fun q_3 => rc_wn (ws' := [(h0, .inr (9, [.ref q_1, .ref q_2, .null, .int 0, .null, .int 0, .int 0, .int 0, .int 0, .null, .int 0, .int 0, .int 0])), (q_1, .inl (cy 0, 96, .inl (fun _ => 0))), (q_2, .inl (cy 0, 96, .inl (fun _ => 0))), (q_3, .inl (cy 0, 576, .inl (fun _ => 0)))]) (nc' := 3) (ns' := 768) rfl rfl rfl ?_)
  refine rc_putF hc hnm dX9_init_26 fl_X9_16 0 rfl (Nat.le_of_ble_eq_true rfl) fq_9_2 rfl rfl (rc_wn (ws' := [(h0, .inr (9, [.ref q_1, .ref q_2, .ref q_3, .int 0, .null, .int 0, .int 0, .int 0, .int 0, .null, .int 0, .int 0, .int 0])), (q_1, .inl (cy 0, 96, .inl (fun _ => 0))), (q_2, .inl (cy 0, 96, .inl (fun _ => 0))), (q_3, .inl (cy 0, 576, .inl (fun _ => 0)))]) (nc' := 3) (ns' := 768) rfl rfl rfl ?_)
  refine rm_aload_n hc dX9_init_29 rfl rfl ?_
  refine rm_bipush (v := 60) hc dX9_init_30 (by decide) ?_
  refine rc_newi (N := 60) hc dX9_init_32 hA (by decide) (by decide) (by decide) ⟨Nat.le_of_ble_eq_true rfl, Nat.le_of_ble_eq_true rfl⟩ (fun q_4 => rc_wn (ws' := [(h0, .inr (9, [.ref q_1, .ref q_2, .ref q_3, .int 0, .null, .int 0, .int 0, .int 0, .int 0, .null, .int 0, .int 0, .int 0])), (q_1, .inl (cy 0, 96, .inl (fun _ => 0))), (q_2, .inl (cy 0, 96, .inl (fun _ => 0))), (q_3, .inl (cy 0, 576, .inl (fun _ => 0))), (q_4, .inl (cy 0, 60, .inl (fun _ => 0)))]) (nc' := 4) (ns' := 828) rfl rfl rfl ?_)
  refine rc_putF hc hnm dX9_init_34 fl_X9_19 0 rfl (Nat.le_of_ble_eq_true rfl) fq_9_4 rfl rfl (rc_wn (ws' := [(h0, .inr (9, [.ref q_1, .ref q_2, .ref q_3, .int 0, .ref q_4, .int 0, .int 0, .int 0, .int 0, .null, .int 0, .int 0, .int 0])), (q_1, .inl (cy 0, 96, .inl (fun _ => 0))), (q_2, .inl (cy 0, 96, .inl (fun _ => 0))), (q_3, .inl (cy 0, 576, .inl (fun _ => 0))), (q_4, .inl (cy 0, 60, .inl (fun _ => 0)))]) (nc' := 4) (ns' := 828) rfl rfl rfl ?_)
  refine rm_aload_n hc dX9_init_37 rfl rfl ?_
  refine rm_bipush (v := 93) hc dX9_init_38 (by decide) ?_
  refine rc_newi (N := 93) hc dX9_init_40 hA (by decide) (by decide) (by decide) ⟨Nat.le_of_ble_eq_true rfl, Nat.le_of_ble_eq_true rfl⟩ (fun q_5 => rc_wn (ws' := [(h0, .inr (9, [.ref q_1, .ref q_2, .ref q_3, .int 0, .ref q_4, .int 0, .int 0, .int 0, .int 0, .null, .int 0, .int 0, .int 0])), (q_1, .inl (cy 0, 96, .inl (fun _ => 0))), (q_2, .inl (cy 0, 96, .inl (fun _ => 0))), (q_3, .inl (cy 0, 576, .inl (fun _ => 0))), (q_4, .inl (cy 0, 60, .inl (fun _ => 0))), (q_5, .inl (cy 0, 93, .inl (fun _ => 0)))]) (nc' := 5) (ns' := 921) rfl rfl rfl ?_)
  refine rc_putF hc hnm dX9_init_42 fl_X9_22 0 rfl (Nat.le_of_ble_eq_true rfl) fq_9_9 rfl rfl (rc_wn (ws' := [(h0, .inr (9, [.ref q_1, .ref q_2, .ref q_3, .int 0, .ref q_4, .int 0, .int 0, .int 0, .int 0, .ref q_5, .int 0, .int 0, .int 0])), (q_1, .inl (cy 0, 96, .inl (fun _ => 0))), (q_2, .inl (cy 0, 96, .inl (fun _ => 0))), (q_3, .inl (cy 0, 576, .inl (fun _ => 0))), (q_4, .inl (cy 0, 60, .inl (fun _ => 0))), (q_5, .inl (cy 0, 93, .inl (fun _ => 0)))]) (nc' := 5) (ns' := 921) rfl rfl rfl ?_)
  refine rm_aload_n hc dX9_init_45 rfl rfl ?_
  refine rc_get hc dX9_init_46 fl_X9_7 0 rfl (v := .ref q_1) rfl ?_
  refine rm_iconst (v := 0) hc dX9_init_49 (by decide) ?_
  refine rm_bipush (v := 16) hc dX9_init_50 (by decide) ?_
  refine rc_iast (i := 0) hc dX9_init_52 1 rfl (by decide) (by omega) (by omega) (rc_wn (ws' := [(h0, .inr (9, [.ref q_1, .ref q_2, .ref q_3, .int 0, .ref q_4, .int 0, .int 0, .int 0, .int 0, .ref q_5, .int 0, .int 0, .int 0])), (q_1, .inl (cy 0, 96, .inl (upd (fun _ => 0) 0 16))), (q_2, .inl (cy 0, 96, .inl (fun _ => 0))), (q_3, .inl (cy 0, 576, .inl (fun _ => 0))), (q_4, .inl (cy 0, 60, .inl (fun _ => 0))), (q_5, .inl (cy 0, 93, .inl (fun _ => 0)))]) (nc' := 5) (ns' := 921) rfl rfl rfl ?_)
  refine rm_aload_n hc dX9_init_53 rfl rfl ?_
  refine rc_get hc dX9_init_54 fl_X9_7 0 rfl (v := .ref q_1) rfl ?_
  refine rm_iconst (v := 1) hc dX9_init_57 (by decide) ?_
  refine rm_bipush (v := 100) hc dX9_init_58 (by decide) ?_
  refine rc_iast (i := 1) hc dX9_init_60 1 rfl (by decide) (by omega) (by omega) (rc_wn (ws' := [(h0, .inr (9, [.ref q_1, .ref q_2, .ref q_3, .int 0, .ref q_4, .int 0, .int 0, .int 0, .int 0, .ref q_5, .int 0, .int 0, .int 0])), (q_1, .inl (cy 0, 96, .inl (upd (upd (fun _ => 0) 0 16) 1 100))), (q_2, .inl (cy 0, 96, .inl (fun _ => 0))), (q_3, .inl (cy 0, 576, .inl (fun _ => 0))), (q_4, .inl (cy 0, 60, .inl (fun _ => 0))), (q_5, .inl (cy 0, 93, .inl (fun _ => 0)))]) (nc' := 5) (ns' := 921) rfl rfl rfl ?_)
  refine rm_aload_n hc dX9_init_61 rfl rfl ?_
  refine rc_get hc dX9_init_62 fl_X9_7 0 rfl (v := .ref q_1) rfl ?_
  refine rm_iconst (v := 2) hc dX9_init_65 (by decide) ?_
  refine rm_bipush (v := 8) hc dX9_init_66 (by decide) ?_
  refine rc_iast (i := 2) hc dX9_init_68 1 rfl (by decide) (by omega) (by omega) (rc_wn (ws' := [(h0, .inr (9, [.ref q_1, .ref q_2, .ref q_3, .int 0, .ref q_4, .int 0, .int 0, .int 0, .int 0, .ref q_5, .int 0, .int 0, .int 0])), (q_1, .inl (cy 0, 96, .inl (upd (upd (upd (fun _ => 0) 0 16) 1 100) 2 8))), (q_2, .inl (cy 0, 96, .inl (fun _ => 0))), (q_3, .inl (cy 0, 576, .inl (fun _ => 0))), (q_4, .inl (cy 0, 60, .inl (fun _ => 0))), (q_5, .inl (cy 0, 93, .inl (fun _ => 0)))]) (nc' := 5) (ns' := 921) rfl rfl rfl ?_)
  refine rm_iconst (v := 0) hc dX9_init_69 (by decide) ?_
  refine rm_istore_n (ls' := [(0, .ref h0), (1, .int 0)]) hc dX9_init_70 rfl (by omega) rfl ?_
  refine rm_iload_n hc dX9_init_71 rfl rfl ?_
  refine rm_iconst (v := 4) hc dX9_init_72 (by decide) ?_
  refine rm_icmp_ge hc dX9_init_73 (tgt := 109) rfl (fun h => absurd h (by decide)) (fun _ => ?_)
  refine rm_aload_n hc dX9_init_76 rfl rfl ?_
  refine rc_get hc dX9_init_77 fl_X9_7 0 rfl (v := .ref q_1) rfl ?_
  refine rm_bipush (v := 14) hc dX9_init_80 (by decide) ?_
  refine rm_iconst (v := 4) hc dX9_init_82 (by decide) ?_
  refine rm_iload_n hc dX9_init_83 rfl rfl ?_
  refine rm_imul hc dX9_init_84 (fun v_6 ev_6 => ?_)
  obtain rfl : v_6 = 0 := ev_6.trans (by decide)
  refine rm_iadd hc dX9_init_85 (fun v_7 ev_7 => ?_)
  obtain rfl : v_7 = 14 := ev_7.trans (by decide)
  refine rm_iload_n hc dX9_init_86 rfl rfl ?_
  refine rc_iast (i := 14) hc dX9_init_87 1 rfl (by decide) (by omega) (by omega) (rc_wn (ws' := [(h0, .inr (9, [.ref q_1, .ref q_2, .ref q_3, .int 0, .ref q_4, .int 0, .int 0, .int 0, .int 0, .ref q_5, .int 0, .int 0, .int 0])), (q_1, .inl (cy 0, 96, .inl (upd (upd (upd (upd (fun _ => 0) 0 16) 1 100) 2 8) 14 0))), (q_2, .inl (cy 0, 96, .inl (fun _ => 0))), (q_3, .inl (cy 0, 576, .inl (fun _ => 0))), (q_4, .inl (cy 0, 60, .inl (fun _ => 0))), (q_5, .inl (cy 0, 93, .inl (fun _ => 0)))]) (nc' := 5) (ns' := 921) rfl rfl rfl ?_)
  refine rm_aload_n hc dX9_init_88 rfl rfl ?_
  refine rc_get hc dX9_init_89 fl_X9_7 0 rfl (v := .ref q_1) rfl ?_
  refine rm_bipush (v := 14) hc dX9_init_92 (by decide) ?_
  refine rm_iconst (v := 4) hc dX9_init_94 (by decide) ?_
  refine rm_iload_n hc dX9_init_95 rfl rfl ?_
  refine rm_imul hc dX9_init_96 (fun v_8 ev_8 => ?_)
  obtain rfl : v_8 = 0 := ev_8.trans (by decide)
  refine rm_iadd hc dX9_init_97 (fun v_9 ev_9 => ?_)
  obtain rfl : v_9 = 14 := ev_9.trans (by decide)
  refine rm_iconst (v := 2) hc dX9_init_98 (by decide) ?_
  refine rm_iadd hc dX9_init_99 (fun v_10 ev_10 => ?_)
  obtain rfl : v_10 = 16 := ev_10.trans (by decide)
  refine rm_bipush (v := 100) hc dX9_init_100 (by decide) ?_
  refine rc_iast (i := 16) hc dX9_init_102 1 rfl (by decide) (by omega) (by omega) (rc_wn (ws' := [(h0, .inr (9, [.ref q_1, .ref q_2, .ref q_3, .int 0, .ref q_4, .int 0, .int 0, .int 0, .int 0, .ref q_5, .int 0, .int 0, .int 0])), (q_1, .inl (cy 0, 96, .inl (upd (upd (upd (upd (upd (fun _ => 0) 0 16) 1 100) 2 8) 14 0) 16 100))), (q_2, .inl (cy 0, 96, .inl (fun _ => 0))), (q_3, .inl (cy 0, 576, .inl (fun _ => 0))), (q_4, .inl (cy 0, 60, .inl (fun _ => 0))), (q_5, .inl (cy 0, 93, .inl (fun _ => 0)))]) (nc' := 5) (ns' := 921) rfl rfl rfl ?_)
  refine rm_iinc (v := 1) (ls' := [(0, .ref h0), (1, .int 1)]) hc dX9_init_103 rfl (by decide) (by omega) rfl ?_
  refine rm_goto hc dX9_init_106 (tgt := 71) rfl ?_
  refine rm_iload_n hc dX9_init_71 rfl rfl ?_
  refine rm_iconst (v := 4) hc dX9_init_72 (by decide) ?_
  refine rm_icmp_ge hc dX9_init_73 (tgt := 109) rfl (fun h => absurd h (by decide)) (fun _ => ?_)
  refine rm_aload_n hc dX9_init_76 rfl rfl ?_
  refine rc_get hc dX9_init_77 fl_X9_7 0 rfl (v := .ref q_1) rfl ?_
  refine rm_bipush (v := 14) hc dX9_init_80 (by decide) ?_
  refine rm_iconst (v := 4) hc dX9_init_82 (by decide) ?_
  refine rm_iload_n hc dX9_init_83 rfl rfl ?_
  refine rm_imul hc dX9_init_84 (fun v_11 ev_11 => ?_)
  obtain rfl : v_11 = 4 := ev_11.trans (by decide)
  refine rm_iadd hc dX9_init_85 (fun v_12 ev_12 => ?_)
  obtain rfl : v_12 = 18 := ev_12.trans (by decide)
  refine rm_iload_n hc dX9_init_86 rfl rfl ?_
  refine rc_iast (i := 18) hc dX9_init_87 1 rfl (by decide) (by omega) (by omega) (rc_wn (ws' := [(h0, .inr (9, [.ref q_1, .ref q_2, .ref q_3, .int 0, .ref q_4, .int 0, .int 0, .int 0, .int 0, .ref q_5, .int 0, .int 0, .int 0])), (q_1, .inl (cy 0, 96, .inl (upd (upd (upd (upd (upd (upd (fun _ => 0) 0 16) 1 100) 2 8) 14 0) 16 100) 18 1))), (q_2, .inl (cy 0, 96, .inl (fun _ => 0))), (q_3, .inl (cy 0, 576, .inl (fun _ => 0))), (q_4, .inl (cy 0, 60, .inl (fun _ => 0))), (q_5, .inl (cy 0, 93, .inl (fun _ => 0)))]) (nc' := 5) (ns' := 921) rfl rfl rfl ?_)
  refine rm_aload_n hc dX9_init_88 rfl rfl ?_
  refine rc_get hc dX9_init_89 fl_X9_7 0 rfl (v := .ref q_1) rfl ?_
  refine rm_bipush (v := 14) hc dX9_init_92 (by decide) ?_
  refine rm_iconst (v := 4) hc dX9_init_94 (by decide) ?_
  refine rm_iload_n hc dX9_init_95 rfl rfl ?_
  refine rm_imul hc dX9_init_96 (fun v_13 ev_13 => ?_)
  obtain rfl : v_13 = 4 := ev_13.trans (by decide)
  refine rm_iadd hc dX9_init_97 (fun v_14 ev_14 => ?_)
  obtain rfl : v_14 = 18 := ev_14.trans (by decide)
  refine rm_iconst (v := 2) hc dX9_init_98 (by decide) ?_
  refine rm_iadd hc dX9_init_99 (fun v_15 ev_15 => ?_)
  obtain rfl : v_15 = 20 := ev_15.trans (by decide)
  refine rm_bipush (v := 100) hc dX9_init_100 (by decide) ?_
  refine rc_iast (i := 20) hc dX9_init_102 1 rfl (by decide) (by omega) (by omega) (rc_wn (ws' := [(h0, .inr (9, [.ref q_1, .ref q_2, .ref q_3, .int 0, .ref q_4, .int 0, .int 0, .int 0, .int 0, .ref q_5, .int 0, .int 0, .int 0])), (q_1, .inl (cy 0, 96, .inl (upd (upd (upd (upd (upd (upd (upd (fun _ => 0) 0 16) 1 100) 2 8) 14 0) 16 100) 18 1) 20 100))), (q_2, .inl (cy 0, 96, .inl (fun _ => 0))), (q_3, .inl (cy 0, 576, .inl (fun _ => 0))), (q_4, .inl (cy 0, 60, .inl (fun _ => 0))), (q_5, .inl (cy 0, 93, .inl (fun _ => 0)))]) (nc' := 5) (ns' := 921) rfl rfl rfl ?_)
  refine rm_iinc (v := 2) (ls' := [(0, .ref h0), (1, .int 2)]) hc dX9_init_103 rfl (by decide) (by omega) rfl ?_
  refine rm_goto hc dX9_init_106 (tgt := 71) rfl ?_
  refine rm_iload_n hc dX9_init_71 rfl rfl ?_
  refine rm_iconst (v := 4) hc dX9_init_72 (by decide) ?_
  refine rm_icmp_ge hc dX9_init_73 (tgt := 109) rfl (fun h => absurd h (by decide)) (fun _ => ?_)
  refine rm_aload_n hc dX9_init_76 rfl rfl ?_
  refine rc_get hc dX9_init_77 fl_X9_7 0 rfl (v := .ref q_1) rfl ?_
  refine rm_bipush (v := 14) hc dX9_init_80 (by decide) ?_
  refine rm_iconst (v := 4) hc dX9_init_82 (by decide) ?_
  refine rm_iload_n hc dX9_init_83 rfl rfl ?_
  refine rm_imul hc dX9_init_84 (fun v_16 ev_16 => ?_)
  obtain rfl : v_16 = 8 := ev_16.trans (by decide)
  refine rm_iadd hc dX9_init_85 (fun v_17 ev_17 => ?_)
  obtain rfl : v_17 = 22 := ev_17.trans (by decide)
  refine rm_iload_n hc dX9_init_86 rfl rfl ?_
  refine rc_iast (i := 22) hc dX9_init_87 1 rfl (by decide) (by omega) (by omega) (rc_wn (ws' := [(h0, .inr (9, [.ref q_1, .ref q_2, .ref q_3, .int 0, .ref q_4, .int 0, .int 0, .int 0, .int 0, .ref q_5, .int 0, .int 0, .int 0])), (q_1, .inl (cy 0, 96, .inl (upd (upd (upd (upd (upd (upd (upd (upd (fun _ => 0) 0 16) 1 100) 2 8) 14 0) 16 100) 18 1) 20 100) 22 2))), (q_2, .inl (cy 0, 96, .inl (fun _ => 0))), (q_3, .inl (cy 0, 576, .inl (fun _ => 0))), (q_4, .inl (cy 0, 60, .inl (fun _ => 0))), (q_5, .inl (cy 0, 93, .inl (fun _ => 0)))]) (nc' := 5) (ns' := 921) rfl rfl rfl ?_)
  refine rm_aload_n hc dX9_init_88 rfl rfl ?_
  refine rc_get hc dX9_init_89 fl_X9_7 0 rfl (v := .ref q_1) rfl ?_
  refine rm_bipush (v := 14) hc dX9_init_92 (by decide) ?_
  refine rm_iconst (v := 4) hc dX9_init_94 (by decide) ?_
  refine rm_iload_n hc dX9_init_95 rfl rfl ?_
  refine rm_imul hc dX9_init_96 (fun v_18 ev_18 => ?_)
  obtain rfl : v_18 = 8 := ev_18.trans (by decide)
  refine rm_iadd hc dX9_init_97 (fun v_19 ev_19 => ?_)
  obtain rfl : v_19 = 22 := ev_19.trans (by decide)
  refine rm_iconst (v := 2) hc dX9_init_98 (by decide) ?_
  refine rm_iadd hc dX9_init_99 (fun v_20 ev_20 => ?_)
  obtain rfl : v_20 = 24 := ev_20.trans (by decide)
  refine rm_bipush (v := 100) hc dX9_init_100 (by decide) ?_
  refine rc_iast (i := 24) hc dX9_init_102 1 rfl (by decide) (by omega) (by omega) (rc_wn (ws' := [(h0, .inr (9, [.ref q_1, .ref q_2, .ref q_3, .int 0, .ref q_4, .int 0, .int 0, .int 0, .int 0, .ref q_5, .int 0, .int 0, .int 0])), (q_1, .inl (cy 0, 96, .inl (upd (upd (upd (upd (upd (upd (upd (upd (upd (fun _ => 0) 0 16) 1 100) 2 8) 14 0) 16 100) 18 1) 20 100) 22 2) 24 100))), (q_2, .inl (cy 0, 96, .inl (fun _ => 0))), (q_3, .inl (cy 0, 576, .inl (fun _ => 0))), (q_4, .inl (cy 0, 60, .inl (fun _ => 0))), (q_5, .inl (cy 0, 93, .inl (fun _ => 0)))]) (nc' := 5) (ns' := 921) rfl rfl rfl ?_)
  refine rm_iinc (v := 3) (ls' := [(0, .ref h0), (1, .int 3)]) hc dX9_init_103 rfl (by decide) (by omega) rfl ?_
  refine rm_goto hc dX9_init_106 (tgt := 71) rfl ?_
  refine rm_iload_n hc dX9_init_71 rfl rfl ?_
  refine rm_iconst (v := 4) hc dX9_init_72 (by decide) ?_
  refine rm_icmp_ge hc dX9_init_73 (tgt := 109) rfl (fun h => absurd h (by decide)) (fun _ => ?_)
  refine rm_aload_n hc dX9_init_76 rfl rfl ?_
  refine rc_get hc dX9_init_77 fl_X9_7 0 rfl (v := .ref q_1) rfl ?_
  refine rm_bipush (v := 14) hc dX9_init_80 (by decide) ?_
  refine rm_iconst (v := 4) hc dX9_init_82 (by decide) ?_
  refine rm_iload_n hc dX9_init_83 rfl rfl ?_
  refine rm_imul hc dX9_init_84 (fun v_21 ev_21 => ?_)
  obtain rfl : v_21 = 12 := ev_21.trans (by decide)
  refine rm_iadd hc dX9_init_85 (fun v_22 ev_22 => ?_)
  obtain rfl : v_22 = 26 := ev_22.trans (by decide)
  refine rm_iload_n hc dX9_init_86 rfl rfl ?_
  refine rc_iast (i := 26) hc dX9_init_87 1 rfl (by decide) (by omega) (by omega) (rc_wn (ws' := [(h0, .inr (9, [.ref q_1, .ref q_2, .ref q_3, .int 0, .ref q_4, .int 0, .int 0, .int 0, .int 0, .ref q_5, .int 0, .int 0, .int 0])), (q_1, .inl (cy 0, 96, .inl (upd (upd (upd (upd (upd (upd (upd (upd (upd (upd (fun _ => 0) 0 16) 1 100) 2 8) 14 0) 16 100) 18 1) 20 100) 22 2) 24 100) 26 3))), (q_2, .inl (cy 0, 96, .inl (fun _ => 0))), (q_3, .inl (cy 0, 576, .inl (fun _ => 0))), (q_4, .inl (cy 0, 60, .inl (fun _ => 0))), (q_5, .inl (cy 0, 93, .inl (fun _ => 0)))]) (nc' := 5) (ns' := 921) rfl rfl rfl ?_)
  refine rm_aload_n hc dX9_init_88 rfl rfl ?_
  refine rc_get hc dX9_init_89 fl_X9_7 0 rfl (v := .ref q_1) rfl ?_
  refine rm_bipush (v := 14) hc dX9_init_92 (by decide) ?_
  refine rm_iconst (v := 4) hc dX9_init_94 (by decide) ?_
  refine rm_iload_n hc dX9_init_95 rfl rfl ?_
  refine rm_imul hc dX9_init_96 (fun v_23 ev_23 => ?_)
  obtain rfl : v_23 = 12 := ev_23.trans (by decide)
  refine rm_iadd hc dX9_init_97 (fun v_24 ev_24 => ?_)
  obtain rfl : v_24 = 26 := ev_24.trans (by decide)
  refine rm_iconst (v := 2) hc dX9_init_98 (by decide) ?_
  refine rm_iadd hc dX9_init_99 (fun v_25 ev_25 => ?_)
  obtain rfl : v_25 = 28 := ev_25.trans (by decide)
  refine rm_bipush (v := 100) hc dX9_init_100 (by decide) ?_
  refine rc_iast (i := 28) hc dX9_init_102 1 rfl (by decide) (by omega) (by omega) (rc_wn (ws' := [(h0, .inr (9, [.ref q_1, .ref q_2, .ref q_3, .int 0, .ref q_4, .int 0, .int 0, .int 0, .int 0, .ref q_5, .int 0, .int 0, .int 0])), (q_1, .inl (cy 0, 96, .inl (upd (upd (upd (upd (upd (upd (upd (upd (upd (upd (upd (fun _ => 0) 0 16) 1 100) 2 8) 14 0) 16 100) 18 1) 20 100) 22 2) 24 100) 26 3) 28 100))), (q_2, .inl (cy 0, 96, .inl (fun _ => 0))), (q_3, .inl (cy 0, 576, .inl (fun _ => 0))), (q_4, .inl (cy 0, 60, .inl (fun _ => 0))), (q_5, .inl (cy 0, 93, .inl (fun _ => 0)))]) (nc' := 5) (ns' := 921) rfl rfl rfl ?_)
  refine rm_iinc (v := 4) (ls' := [(0, .ref h0), (1, .int 4)]) hc dX9_init_103 rfl (by decide) (by omega) rfl ?_
  refine rm_goto hc dX9_init_106 (tgt := 71) rfl ?_
  refine rm_iload_n hc dX9_init_71 rfl rfl ?_
  refine rm_iconst (v := 4) hc dX9_init_72 (by decide) ?_
  refine rm_icmp_ge hc dX9_init_73 (tgt := 109) rfl (fun _ => ?_) (fun h => absurd (by decide) h)
  exact rc_vret (W1 := fun z => W_X9 cy h0 z) (z := fun n => if n = 0 then q_1 else if n = 1 then q_2 else if n = 2 then q_3 else if n = 3 then q_4 else q_5) hc dX9_init_109 (fun _ h => h) (fun h => h)
