abbrev rm_X6_init : Room := { frames := 3, cells := 27, slots := 117, locals := 61 }
set_option maxHeartbeats 4000000 in
set_option maxRecDepth 100000 in
theorem c_X6_init {l : Launch} {D : va_G} {cy : Nat → ClassId} {h0 : Nat} : Cn l yX6_init cX6_init 2 rm_X6_init D cy h0 [] (.inr (6, [.null, .null, .null, .null, .int 0, .int 0])) 27 117 (S := Nat → Nat → Nat) (fun z => W_X6 cy h0 z) := by
  refine rc_entry (by decide) rfl (Nat.le_of_ble_eq_true rfl) ?_
  intro p e s m args below meth c hc hnm hAO hA
  show RM _ _ _ _ _ _ _ _ _ _ _ _ _ _ _ _ _ [(0, .ref h0)] []
  refine rm_aload_n hc dX6_init_0 rfl rfl ?_
  refine rc_obj hc dX6_init_1 ob_X6 (by decide) ⟨Nat.le_of_ble_eq_true rfl, Nat.le_of_ble_eq_true rfl⟩ ?_
  refine rm_aload_n hc dX6_init_4 rfl rfl ?_
  refine rm_iconst (v := 4) hc dX6_init_5 (by decide) ?_
  refine rc_newq (N := 4) (t0 := 1) (cA := cy 1) hc dX6_init_6 cl_X6_9 hAO.1 rfl hA (by decide) (by decide) (by decide) ⟨Nat.le_of_ble_eq_true rfl, Nat.le_of_ble_eq_true rfl⟩ (fun q_1 => rc_wn (ws' := [(h0, .inr (6, [.null, .null, .null, .null, .int 0, .int 0])), (q_1, .inl (cy 1, 4, .inr (.inr (.inr (.inr (fun _ => none))))))]) (nc' := 1) (ns' := 4) rfl rfl rfl ?_)
  refine rc_putF hc hnm dX6_init_9 fl_X6_11 0 rfl (Nat.le_of_ble_eq_true rfl) fq_6_0 rfl rfl (rc_wn (ws' := [(h0, .inr (6, [.ref q_1, .null, .null, .null, .int 0, .int 0])), (q_1, .inl (cy 1, 4, .inr (.inr (.inr (.inr (fun _ => none))))))]) (nc' := 1) (ns' := 4) rfl rfl rfl ?_)
  refine rm_iconst (v := 0) hc dX6_init_12 (by decide) ?_
  refine rm_istore_n (ls' := [(0, .ref h0), (1, .int 0)]) hc dX6_init_13 rfl (by omega) rfl ?_
  refine rm_iload_n hc dX6_init_14 rfl rfl ?_
  refine rm_iconst (v := 4) hc dX6_init_15 (by decide) ?_
  refine rm_icmp_ge hc dX6_init_16 (tgt := 39) rfl (fun h => absurd h (by decide)) (fun _ => ?_)
  refine rm_aload_n hc dX6_init_19 rfl rfl ?_
  refine rc_get hc dX6_init_20 fl_X6_11 0 rfl (v := .ref q_1) rfl ?_
  refine rm_iload_n hc dX6_init_23 rfl rfl ?_
  refine rc_new (fs := [.int 0, .int 0, .int 0, .int 0]) hc dX6_init_24 nl_X6_9 hA nv_2 ⟨Nat.le_of_ble_eq_true rfl, Nat.le_of_ble_eq_true rfl⟩ (fun q_2 => ?_)
  refine rm_dup hc dX6_init_27 rfl ?_
  refine rm_iload_n hc dX6_init_28 rfl rfl ?_
  refine rc_init (As := [.int 0]) (rest := [.ref q_2, .int 0, .ref q_1]) hc dX6_init_29 (c_X2_init (0)) il_X6_17 hAO hA rfl rfl (Nat.le_of_ble_eq_true rfl) ⟨⟨rfl, rfl⟩, Nat.le_of_ble_eq_true rfl, Nat.le_of_ble_eq_true rfl⟩ ⟨Nat.le_of_ble_eq_true rfl, Nat.le_of_ble_eq_true rfl⟩ (fun z_3 => rc_wn (ws' := [(h0, .inr (6, [.ref q_1, .null, .null, .null, .int 0, .int 0])), (q_1, .inl (cy 1, 4, .inr (.inr (.inr (.inr (fun _ => none)))))), (q_2, .inr (2, [.int 0, .int 0, .int 100, .int 0]))]) (nc' := 2) (ns' := 8) rfl rfl rfl ?_)
  refine rc_astq (ci := 2) (r := (RX2, TX2, 4)) (t0 := 1) (i := 0) (vs := [.int 0, .int 0, .int 100, .int 0]) hc dX6_init_32 1 rfl rfl (List.mem_of_getElem? (i := 2) rfl) rfl (by decide) (by omega) (by omega) (rc_wn (ws' := [(h0, .inr (6, [.ref q_1, .null, .null, .null, .int 0, .int 0])), (q_1, .inl (cy 1, 4, .inr (.inr (.inr (.inr (va_up (fun _ => none) 0 (some q_2))))))), (q_2, .inr (2, [.int 0, .int 0, .int 100, .int 0]))]) (nc' := 2) (ns' := 8) rfl rfl rfl ?_)
  refine rm_iinc (v := 1) (ls' := [(0, .ref h0), (1, .int 1)]) hc dX6_init_33 rfl (by decide) (by omega) rfl ?_
  refine rm_goto hc dX6_init_36 (tgt := 14) rfl ?_
  refine rm_iload_n hc dX6_init_14 rfl rfl ?_
  refine rm_iconst (v := 4) hc dX6_init_15 (by decide) ?_
  refine rm_icmp_ge hc dX6_init_16 (tgt := 39) rfl (fun h => absurd h (by decide)) (fun _ => ?_)
  refine rm_aload_n hc dX6_init_19 rfl rfl ?_
  refine rc_get hc dX6_init_20 fl_X6_11 0 rfl (v := .ref q_1) rfl ?_
  refine rm_iload_n hc dX6_init_23 rfl rfl ?_
  refine rc_new (fs := [.int 0, .int 0, .int 0, .int 0]) hc dX6_init_24 nl_X6_9 hA nv_2 ⟨Nat.le_of_ble_eq_true rfl, Nat.le_of_ble_eq_true rfl⟩ (fun q_4 => ?_)
  refine rm_dup hc dX6_init_27 rfl ?_
  refine rm_iload_n hc dX6_init_28 rfl rfl ?_
  refine rc_init (As := [.int 1]) (rest := [.ref q_4, .int 1, .ref q_1]) hc dX6_init_29 (c_X2_init (1)) il_X6_17 hAO hA rfl rfl (Nat.le_of_ble_eq_true rfl) ⟨⟨rfl, rfl⟩, Nat.le_of_ble_eq_true rfl, Nat.le_of_ble_eq_true rfl⟩ ⟨Nat.le_of_ble_eq_true rfl, Nat.le_of_ble_eq_true rfl⟩ (fun z_5 => rc_wn (ws' := [(h0, .inr (6, [.ref q_1, .null, .null, .null, .int 0, .int 0])), (q_1, .inl (cy 1, 4, .inr (.inr (.inr (.inr (va_up (fun _ => none) 0 (some q_2))))))), (q_2, .inr (2, [.int 0, .int 0, .int 100, .int 0])), (q_4, .inr (2, [.int 1, .int 0, .int 100, .int 0]))]) (nc' := 3) (ns' := 12) rfl rfl rfl ?_)
  refine rc_astq (ci := 2) (r := (RX2, TX2, 4)) (t0 := 1) (i := 1) (vs := [.int 1, .int 0, .int 100, .int 0]) hc dX6_init_32 1 rfl rfl (List.mem_of_getElem? (i := 3) rfl) rfl (by decide) (by omega) (by omega) (rc_wn (ws' := [(h0, .inr (6, [.ref q_1, .null, .null, .null, .int 0, .int 0])), (q_1, .inl (cy 1, 4, .inr (.inr (.inr (.inr (va_up (va_up (fun _ => none) 0 (some q_2)) 1 (some q_4))))))), (q_2, .inr (2, [.int 0, .int 0, .int 100, .int 0])), (q_4, .inr (2, [.int 1, .int 0, .int 100, .int 0]))]) (nc' := 3) (ns' := 12) rfl rfl rfl ?_)
  refine rm_iinc (v := 2) (ls' := [(0, .ref h0), (1, .int 2)]) hc dX6_init_33 rfl (by decide) (by omega) rfl ?_
  refine rm_goto hc dX6_init_36 (tgt := 14) rfl ?_
  refine rm_iload_n hc dX6_init_14 rfl rfl ?_
  refine rm_iconst (v := 4) hc dX6_init_15 (by decide) ?_
  refine rm_icmp_ge hc dX6_init_16 (tgt := 39) rfl (fun h => absurd h (by decide)) (fun _ => ?_)
  refine rm_aload_n hc dX6_init_19 rfl rfl ?_
  refine rc_get hc dX6_init_20 fl_X6_11 0 rfl (v := .ref q_1) rfl ?_
  refine rm_iload_n hc dX6_init_23 rfl rfl ?_
  refine rc_new (fs := [.int 0, .int 0, .int 0, .int 0]) hc dX6_init_24 nl_X6_9 hA nv_2 ⟨Nat.le_of_ble_eq_true rfl, Nat.le_of_ble_eq_true rfl⟩ (fun q_6 => ?_)
  refine rm_dup hc dX6_init_27 rfl ?_
  refine rm_iload_n hc dX6_init_28 rfl rfl ?_
  refine rc_init (As := [.int 2]) (rest := [.ref q_6, .int 2, .ref q_1]) hc dX6_init_29 (c_X2_init (2)) il_X6_17 hAO hA rfl rfl (Nat.le_of_ble_eq_true rfl) ⟨⟨rfl, rfl⟩, Nat.le_of_ble_eq_true rfl, Nat.le_of_ble_eq_true rfl⟩ ⟨Nat.le_of_ble_eq_true rfl, Nat.le_of_ble_eq_true rfl⟩ (fun z_7 => rc_wn (ws' := [(h0, .inr (6, [.ref q_1, .null, .null, .null, .int 0, .int 0])), (q_1, .inl (cy 1, 4, .inr (.inr (.inr (.inr (va_up (va_up (fun _ => none) 0 (some q_2)) 1 (some q_4))))))), (q_2, .inr (2, [.int 0, .int 0, .int 100, .int 0])), (q_4, .inr (2, [.int 1, .int 0, .int 100, .int 0])), (q_6, .inr (2, [.int 2, .int 0, .int 100, .int 0]))]) (nc' := 4) (ns' := 16) rfl rfl rfl ?_)
  refine rc_astq (ci := 2) (r := (RX2, TX2, 4)) (t0 := 1) (i := 2) (vs := [.int 2, .int 0, .int 100, .int 0]) hc dX6_init_32 1 rfl rfl (List.mem_of_getElem? (i := 4) rfl) rfl (by decide) (by omega) (by omega) (rc_wn (ws' := [(h0, .inr (6, [.ref q_1, .null, .null, .null, .int 0, .int 0])), (q_1, .inl (cy 1, 4, .inr (.inr (.inr (.inr (va_up (va_up (va_up (fun _ => none) 0 (some q_2)) 1 (some q_4)) 2 (some q_6))))))), (q_2, .inr (2, [.int 0, .int 0, .int 100, .int 0])), (q_4, .inr (2, [.int 1, .int 0, .int 100, .int 0])), (q_6, .inr (2, [.int 2, .int 0, .int 100, .int 0]))]) (nc' := 4) (ns' := 16) rfl rfl rfl ?_)
  refine rm_iinc (v := 3) (ls' := [(0, .ref h0), (1, .int 3)]) hc dX6_init_33 rfl (by decide) (by omega) rfl ?_
  refine rm_goto hc dX6_init_36 (tgt := 14) rfl ?_
  refine rm_iload_n hc dX6_init_14 rfl rfl ?_
  refine rm_iconst (v := 4) hc dX6_init_15 (by decide) ?_
  refine rm_icmp_ge hc dX6_init_16 (tgt := 39) rfl (fun h => absurd h (by decide)) (fun _ => ?_)
  refine rm_aload_n hc dX6_init_19 rfl rfl ?_
  refine rc_get hc dX6_init_20 fl_X6_11 0 rfl (v := .ref q_1) rfl ?_
  refine rm_iload_n hc dX6_init_23 rfl rfl ?_
  refine rc_new (fs := [.int 0, .int 0, .int 0, .int 0]) hc dX6_init_24 nl_X6_9 hA nv_2 ⟨Nat.le_of_ble_eq_true rfl, Nat.le_of_ble_eq_true rfl⟩ (fun q_8 => ?_)
  refine rm_dup hc dX6_init_27 rfl ?_
  refine rm_iload_n hc dX6_init_28 rfl rfl ?_
  refine rc_init (As := [.int 3]) (rest := [.ref q_8, .int 3, .ref q_1]) hc dX6_init_29 (c_X2_init (3)) il_X6_17 hAO hA rfl rfl (Nat.le_of_ble_eq_true rfl) ⟨⟨rfl, rfl⟩, Nat.le_of_ble_eq_true rfl, Nat.le_of_ble_eq_true rfl⟩ ⟨Nat.le_of_ble_eq_true rfl, Nat.le_of_ble_eq_true rfl⟩ (fun z_9 => rc_wn (ws' := [(h0, .inr (6, [.ref q_1, .null, .null, .null, .int 0, .int 0])), (q_1, .inl (cy 1, 4, .inr (.inr (.inr (.inr (va_up (va_up (va_up (fun _ => none) 0 (some q_2)) 1 (some q_4)) 2 (some q_6))))))), (q_2, .inr (2, [.int 0, .int 0, .int 100, .int 0])), (q_4, .inr (2, [.int 1, .int 0, .int 100, .int 0])), (q_6, .inr (2, [.int 2, .int 0, .int 100, .int 0])), (q_8, .inr (2, [.int 3, .int 0, .int 100, .int 0]))]) (nc' := 5) (ns' := 20) rfl rfl rfl ?_)
  refine rc_astq (ci := 2) (r := (RX2, TX2, 4)) (t0 := 1) (i := 3) (vs := [.int 3, .int 0, .int 100, .int 0]) hc dX6_init_32 1 rfl rfl (List.mem_of_getElem? (i := 5) rfl) rfl (by decide) (by omega) (by omega) (rc_wn (ws' := [(h0, .inr (6, [.ref q_1, .null, .null, .null, .int 0, .int 0])), (q_1, .inl (cy 1, 4, .inr (.inr (.inr (.inr (va_up (va_up (va_up (va_up (fun _ => none) 0 (some q_2)) 1 (some q_4)) 2 (some q_6)) 3 (some q_8))))))), (q_2, .inr (2, [.int 0, .int 0, .int 100, .int 0])), (q_4, .inr (2, [.int 1, .int 0, .int 100, .int 0])), (q_6, .inr (2, [.int 2, .int 0, .int 100, .int 0])), (q_8, .inr (2, [.int 3, .int 0, .int 100, .int 0]))]) (nc' := 5) (ns' := 20) rfl rfl rfl ?_)
  refine rm_iinc (v := 4) (ls' := [(0, .ref h0), (1, .int 4)]) hc dX6_init_33 rfl (by decide) (by omega) rfl ?_
  refine rm_goto hc dX6_init_36 (tgt := 14) rfl ?_
  refine rm_iload_n hc dX6_init_14 rfl rfl ?_
  refine rm_iconst (v := 4) hc dX6_init_15 (by decide) ?_
  refine rm_icmp_ge hc dX6_init_16 (tgt := 39) rfl (fun _ => ?_) (fun h => absurd (by decide) h)
  refine rm_aload_n hc dX6_init_39 rfl rfl ?_
  refine rm_iconst (v := 3) hc dX6_init_40 (by decide) ?_
  refine rc_newq (N := 3) (t0 := 2) (cA := cy 2) hc dX6_init_41 cl_X6_20 hAO.2.1 rfl hA (by decide) (by decide) (by decide) ⟨Nat.le_of_ble_eq_true rfl, Nat.le_of_ble_eq_true rfl⟩ (fun q_10 => rc_wn (ws' := [(h0, .inr (6, [.ref q_1, .null, .null, .null, .int 0, .int 0])), (q_1, .inl (cy 1, 4, .inr (.inr (.inr (.inr (va_up (va_up (va_up (va_up (fun _ => none) 0 (some q_2)) 1 (some q_4)) 2 (some q_6)) 3 (some q_8))))))), (q_2, .inr (2, [.int 0, .int 0, .int 100, .int 0])), (q_4, .inr (2, [.int 1, .int 0, .int 100, .int 0])), (q_6, .inr (2, [.int 2, .int 0, .int 100, .int 0])), (q_8, .inr (2, [.int 3, .int 0, .int 100, .int 0])), (q_10, .inl (cy 2, 3, .inr (.inr (.inr (.inr (fun _ => none))))))]) (nc' := 6) (ns' := 23) rfl rfl rfl ?_)
  refine rc_putF hc hnm dX6_init_44 fl_X6_22 0 rfl (Nat.le_of_ble_eq_true rfl) fq_6_1 rfl rfl (rc_wn (ws' := [(h0, .inr (6, [.ref q_1, .ref q_10, .null, .null, .int 0, .int 0])), (q_1, .inl (cy 1, 4, .inr (.inr (.inr (.inr (va_up (va_up (va_up (va_up (fun _ => none) 0 (some q_2)) 1 (some q_4)) 2 (some q_6)) 3 (some q_8))))))), (q_2, .inr (2, [.int 0, .int 0, .int 100, .int 0])), (q_4, .inr (2, [.int 1, .int 0, .int 100, .int 0])), (q_6, .inr (2, [.int 2, .int 0, .int 100, .int 0])), (q_8, .inr (2, [.int 3, .int 0, .int 100, .int 0])), (q_10, .inl (cy 2, 3, .inr (.inr (.inr (.inr (fun _ => none))))))]) (nc' := 6) (ns' := 23) rfl rfl rfl ?_)
  refine rm_iconst (v := 0) hc dX6_init_47 (by decide) ?_
  refine rm_istore_n (ls' := [(0, .ref h0), (1, .int 0)]) hc dX6_init_48 rfl (by omega) rfl ?_
  refine rm_iload_n hc dX6_init_49 rfl rfl ?_
  refine rm_iconst (v := 3) hc dX6_init_50 (by decide) ?_
  refine rm_icmp_ge hc dX6_init_51 (tgt := 73) rfl (fun h => absurd h (by decide)) (fun _ => ?_)
  refine rm_aload_n hc dX6_init_54 rfl rfl ?_
  refine rc_get hc dX6_init_55 fl_X6_22 0 rfl (v := .ref q_10) rfl ?_
  refine rm_iload_n hc dX6_init_58 rfl rfl ?_
  refine rc_new (fs := [.null, .int 0, .int 0, .int 0, .int 0, .int 0, .int 0]) hc dX6_init_59 nl_X6_20 hA nv_1 ⟨Nat.le_of_ble_eq_true rfl, Nat.le_of_ble_eq_true rfl⟩ (fun q_11 => ?_)
  refine rm_dup hc dX6_init_62 rfl ?_
  refine rc_initG (As := []) (rest := [.ref q_11, .int 0, .ref q_10]) hc dX6_init_63 (c_X1_init) il_X6_26 hAO hA rfl rfl (Nat.le_of_ble_eq_true rfl) ⟨⟨rfl, rfl⟩, Nat.le_of_ble_eq_true rfl, Nat.le_of_ble_eq_true rfl⟩ ⟨Nat.le_of_ble_eq_true rfl, Nat.le_of_ble_eq_true rfl⟩ (fun z_12 w_12 hw_12 => rc_wn (ws' := (h0, .inr (6, [.ref q_1, .ref q_10, .null, .null, .int 0, .int 0])) :: (q_1, .inl (cy 1, 4, .inr (.inr (.inr (.inr (va_up (va_up (va_up (va_up (fun _ => none) 0 (some q_2)) 1 (some q_4)) 2 (some q_6)) 3 (some q_8))))))) :: (q_2, .inr (2, [.int 0, .int 0, .int 100, .int 0])) :: (q_4, .inr (2, [.int 1, .int 0, .int 100, .int 0])) :: (q_6, .inr (2, [.int 2, .int 0, .int 100, .int 0])) :: (q_8, .inr (2, [.int 3, .int 0, .int 100, .int 0])) :: (q_10, .inl (cy 2, 3, .inr (.inr (.inr (.inr (fun _ => none)))))) :: w_12) (nc' := 12) (ns' := 50) rfl rfl rfl ?_)
  refine rc_astq (ci := 1) (r := (RX1, TX1, 7)) (t0 := 2) (i := 0) (vs := [.ref (z_12 0), .int 0, .int 0, .int 0, .int 0, .int 0, .int 0]) hc dX6_init_66 6 rfl rfl (List.mem_cons_of_mem _ (List.mem_cons_of_mem _ (List.mem_cons_of_mem _ (List.mem_cons_of_mem _ (List.mem_cons_of_mem _ (List.mem_cons_of_mem _ (List.mem_cons_of_mem _ (by rw [hw_12]; exact W_X1_m cy q_11 z_12)))))))) rfl (by decide) (by omega) (by omega) (rc_wn (ws' := (h0, .inr (6, [.ref q_1, .ref q_10, .null, .null, .int 0, .int 0])) :: (q_1, .inl (cy 1, 4, .inr (.inr (.inr (.inr (va_up (va_up (va_up (va_up (fun _ => none) 0 (some q_2)) 1 (some q_4)) 2 (some q_6)) 3 (some q_8))))))) :: (q_2, .inr (2, [.int 0, .int 0, .int 100, .int 0])) :: (q_4, .inr (2, [.int 1, .int 0, .int 100, .int 0])) :: (q_6, .inr (2, [.int 2, .int 0, .int 100, .int 0])) :: (q_8, .inr (2, [.int 3, .int 0, .int 100, .int 0])) :: (q_10, .inl (cy 2, 3, .inr (.inr (.inr (.inr (va_up (fun _ => none) 0 (some q_11))))))) :: w_12) (nc' := 12) (ns' := 50) rfl rfl rfl ?_)
  refine rm_iinc (v := 1) (ls' := [(0, .ref h0), (1, .int 1)]) hc dX6_init_67 rfl (by decide) (by omega) rfl ?_
  refine rm_goto hc dX6_init_70 (tgt := 49) rfl ?_
  refine rm_iload_n hc dX6_init_49 rfl rfl ?_
  refine rm_iconst (v := 3) hc dX6_init_50 (by decide) ?_
  refine rm_icmp_ge hc dX6_init_51 (tgt := 73) rfl (fun h => absurd h (by decide)) (fun _ => ?_)
  refine rm_aload_n hc dX6_init_54 rfl rfl ?_
  refine rc_get hc dX6_init_55 fl_X6_22 0 rfl (v := .ref q_10) rfl ?_
  refine rm_iload_n hc dX6_init_58 rfl rfl ?_
  refine rc_new (fs := [.null, .int 0, .int 0, .int 0, .int 0, .int 0, .int 0]) hc dX6_init_59 nl_X6_20 hA nv_1 ⟨Nat.le_of_ble_eq_true rfl, Nat.le_of_ble_eq_true rfl⟩ (fun q_13 => ?_)
  refine rm_dup hc dX6_init_62 rfl ?_
  refine rc_initG (As := []) (rest := [.ref q_13, .int 1, .ref q_10]) hc dX6_init_63 (c_X1_init) il_X6_26 hAO hA rfl rfl (Nat.le_of_ble_eq_true rfl) ⟨⟨rfl, rfl⟩, Nat.le_of_ble_eq_true rfl, Nat.le_of_ble_eq_true rfl⟩ ⟨Nat.le_of_ble_eq_true rfl, Nat.le_of_ble_eq_true rfl⟩ (fun z_14 w_14 hw_14 => rc_wn (ws' := (h0, .inr (6, [.ref q_1, .ref q_10, .null, .null, .int 0, .int 0])) :: (q_1, .inl (cy 1, 4, .inr (.inr (.inr (.inr (va_up (va_up (va_up (va_up (fun _ => none) 0 (some q_2)) 1 (some q_4)) 2 (some q_6)) 3 (some q_8))))))) :: (q_2, .inr (2, [.int 0, .int 0, .int 100, .int 0])) :: (q_4, .inr (2, [.int 1, .int 0, .int 100, .int 0])) :: (q_6, .inr (2, [.int 2, .int 0, .int 100, .int 0])) :: (q_8, .inr (2, [.int 3, .int 0, .int 100, .int 0])) :: (q_10, .inl (cy 2, 3, .inr (.inr (.inr (.inr (va_up (fun _ => none) 0 (some q_11))))))) :: (w_12 ++ w_14)) (nc' := 18) (ns' := 77) rfl rfl rfl ?_)
  refine rc_astq (ci := 1) (r := (RX1, TX1, 7)) (t0 := 2) (i := 1) (vs := [.ref (z_14 0), .int 0, .int 0, .int 0, .int 0, .int 0, .int 0]) hc dX6_init_66 6 rfl rfl (List.mem_cons_of_mem _ (List.mem_cons_of_mem _ (List.mem_cons_of_mem _ (List.mem_cons_of_mem _ (List.mem_cons_of_mem _ (List.mem_cons_of_mem _ (List.mem_cons_of_mem _ (List.mem_append_right _ (by rw [hw_14]; exact W_X1_m cy q_13 z_14))))))))) rfl (by decide) (by omega) (by omega) (rc_wn (ws' := (h0, .inr (6, [.ref q_1, .ref q_10, .null, .null, .int 0, .int 0])) :: (q_1, .inl (cy 1, 4, .inr (.inr (.inr (.inr (va_up (va_up (va_up (va_up (fun _ => none) 0 (some q_2)) 1 (some q_4)) 2 (some q_6)) 3 (some q_8))))))) :: (q_2, .inr (2, [.int 0, .int 0, .int 100, .int 0])) :: (q_4, .inr (2, [.int 1, .int 0, .int 100, .int 0])) :: (q_6, .inr (2, [.int 2, .int 0, .int 100, .int 0])) :: (q_8, .inr (2, [.int 3, .int 0, .int 100, .int 0])) :: (q_10, .inl (cy 2, 3, .inr (.inr (.inr (.inr (va_up (va_up (fun _ => none) 0 (some q_11)) 1 (some q_13))))))) :: (w_12 ++ w_14)) (nc' := 18) (ns' := 77) rfl rfl rfl ?_)
  refine rm_iinc (v := 2) (ls' := [(0, .ref h0), (1, .int 2)]) hc dX6_init_67 rfl (by decide) (by omega) rfl ?_
  refine rm_goto hc dX6_init_70 (tgt := 49) rfl ?_
  refine rm_iload_n hc dX6_init_49 rfl rfl ?_
  refine rm_iconst (v := 3) hc dX6_init_50 (by decide) ?_
  refine rm_icmp_ge hc dX6_init_51 (tgt := 73) rfl (fun h => absurd h (by decide)) (fun _ => ?_)
  refine rm_aload_n hc dX6_init_54 rfl rfl ?_
  refine rc_get hc dX6_init_55 fl_X6_22 0 rfl (v := .ref q_10) rfl ?_
  refine rm_iload_n hc dX6_init_58 rfl rfl ?_
  refine rc_new (fs := [.null, .int 0, .int 0, .int 0, .int 0, .int 0, .int 0]) hc dX6_init_59 nl_X6_20 hA nv_1 ⟨Nat.le_of_ble_eq_true rfl, Nat.le_of_ble_eq_true rfl⟩ (fun q_15 => ?_)
  refine rm_dup hc dX6_init_62 rfl ?_
  refine rc_initG (As := []) (rest := [.ref q_15, .int 2, .ref q_10]) hc dX6_init_63 (c_X1_init) il_X6_26 hAO hA rfl rfl (Nat.le_of_ble_eq_true rfl) ⟨⟨rfl, rfl⟩, Nat.le_of_ble_eq_true rfl, Nat.le_of_ble_eq_true rfl⟩ ⟨Nat.le_of_ble_eq_true rfl, Nat.le_of_ble_eq_true rfl⟩ (fun z_16 w_16 hw_16 => rc_wn (ws' := (h0, .inr (6, [.ref q_1, .ref q_10, .null, .null, .int 0, .int 0])) :: (q_1, .inl (cy 1, 4, .inr (.inr (.inr (.inr (va_up (va_up (va_up (va_up (fun _ => none) 0 (some q_2)) 1 (some q_4)) 2 (some q_6)) 3 (some q_8))))))) :: (q_2, .inr (2, [.int 0, .int 0, .int 100, .int 0])) :: (q_4, .inr (2, [.int 1, .int 0, .int 100, .int 0])) :: (q_6, .inr (2, [.int 2, .int 0, .int 100, .int 0])) :: (q_8, .inr (2, [.int 3, .int 0, .int 100, .int 0])) :: (q_10, .inl (cy 2, 3, .inr (.inr (.inr (.inr (va_up (va_up (fun _ => none) 0 (some q_11)) 1 (some q_13))))))) :: ((w_12 ++ w_14) ++ w_16)) (nc' := 24) (ns' := 104) rfl rfl rfl ?_)
  refine rc_astq (ci := 1) (r := (RX1, TX1, 7)) (t0 := 2) (i := 2) (vs := [.ref (z_16 0), .int 0, .int 0, .int 0, .int 0, .int 0, .int 0]) hc dX6_init_66 6 rfl rfl (List.mem_cons_of_mem _ (List.mem_cons_of_mem _ (List.mem_cons_of_mem _ (List.mem_cons_of_mem _ (List.mem_cons_of_mem _ (List.mem_cons_of_mem _ (List.mem_cons_of_mem _ (List.mem_append_right _ (by rw [hw_16]; exact W_X1_m cy q_15 z_16))))))))) rfl (by decide) (by omega) (by omega) (rc_wn (ws' := (h0, .inr (6, [.ref q_1, .ref q_10, .null, .null, .int 0, .int 0])) :: (q_1, .inl (cy 1, 4, .inr (.inr (.inr (.inr (va_up (va_up (va_up (va_up (fun _ => none) 0 (some q_2)) 1 (some q_4)) 2 (some q_6)) 3 (some q_8))))))) :: (q_2, .inr (2, [.int 0, .int 0, .int 100, .int 0])) :: (q_4, .inr (2, [.int 1, .int 0, .int 100, .int 0])) :: (q_6, .inr (2, [.int 2, .int 0, .int 100, .int 0])) :: (q_8, .inr (2, [.int 3, .int 0, .int 100, .int 0])) :: (q_10, .inl (cy 2, 3, .inr (.inr (.inr (.inr (va_up (va_up (va_up (fun _ => none) 0 (some q_11)) 1 (some q_13)) 2 (some q_15))))))) :: ((w_12 ++ w_14) ++ w_16)) (nc' := 24) (ns' := 104) rfl rfl rfl ?_)
  refine rm_iinc (v := 3) (ls' := [(0, .ref h0), (1, .int 3)]) hc dX6_init_67 rfl (by decide) (by omega) rfl ?_
  refine rm_goto hc dX6_init_70 (tgt := 49) rfl ?_
  refine rm_iload_n hc dX6_init_49 rfl rfl ?_
  refine rm_iconst (v := 3) hc dX6_init_50 (by decide) ?_
  refine rm_icmp_ge hc dX6_init_51 (tgt := 73) rfl (fun _ => ?_) (fun h => absurd (by decide) h)
  refine rm_aload_n hc dX6_init_73 rfl rfl ?_
  refine rc_new (fs := [.null, .int 0]) hc dX6_init_74 nl_X6_27 hA nv_0 ⟨Nat.le_of_ble_eq_true rfl, Nat.le_of_ble_eq_true rfl⟩ (fun q_17 => ?_)
  refine rm_dup hc dX6_init_77 rfl ?_
  refine rc_initG (As := []) (rest := [.ref q_17, .ref h0]) hc dX6_init_78 (c_X0_init) il_X6_29 hAO hA rfl rfl (Nat.le_of_ble_eq_true rfl) ⟨⟨rfl, rfl⟩, Nat.le_of_ble_eq_true rfl, Nat.le_of_ble_eq_true rfl⟩ ⟨Nat.le_of_ble_eq_true rfl, Nat.le_of_ble_eq_true rfl⟩ (fun z_18 w_18 hw_18 => rc_wn (ws' := (h0, .inr (6, [.ref q_1, .ref q_10, .null, .null, .int 0, .int 0])) :: (q_1, .inl (cy 1, 4, .inr (.inr (.inr (.inr (va_up (va_up (va_up (va_up (fun _ => none) 0 (some q_2)) 1 (some q_4)) 2 (some q_6)) 3 (some q_8))))))) :: (q_2, .inr (2, [.int 0, .int 0, .int 100, .int 0])) :: (q_4, .inr (2, [.int 1, .int 0, .int 100, .int 0])) :: (q_6, .inr (2, [.int 2, .int 0, .int 100, .int 0])) :: (q_8, .inr (2, [.int 3, .int 0, .int 100, .int 0])) :: (q_10, .inl (cy 2, 3, .inr (.inr (.inr (.inr (va_up (va_up (va_up (fun _ => none) 0 (some q_11)) 1 (some q_13)) 2 (some q_15))))))) :: (((w_12 ++ w_14) ++ w_16) ++ w_18)) (nc' := 26) (ns' := 114) rfl rfl rfl ?_)
  refine rc_putF hc hnm dX6_init_81 fl_X6_30 0 rfl (Nat.le_of_ble_eq_true rfl) fq_6_2 rfl rfl (rc_wn (ws' := (h0, .inr (6, [.ref q_1, .ref q_10, .ref q_17, .null, .int 0, .int 0])) :: (q_1, .inl (cy 1, 4, .inr (.inr (.inr (.inr (va_up (va_up (va_up (va_up (fun _ => none) 0 (some q_2)) 1 (some q_4)) 2 (some q_6)) 3 (some q_8))))))) :: (q_2, .inr (2, [.int 0, .int 0, .int 100, .int 0])) :: (q_4, .inr (2, [.int 1, .int 0, .int 100, .int 0])) :: (q_6, .inr (2, [.int 2, .int 0, .int 100, .int 0])) :: (q_8, .inr (2, [.int 3, .int 0, .int 100, .int 0])) :: (q_10, .inl (cy 2, 3, .inr (.inr (.inr (.inr (va_up (va_up (va_up (fun _ => none) 0 (some q_11)) 1 (some q_13)) 2 (some q_15))))))) :: (((w_12 ++ w_14) ++ w_16) ++ w_18)) (nc' := 26) (ns' := 114) rfl rfl rfl ?_)
  refine rm_aload_n hc dX6_init_84 rfl rfl ?_
  refine rc_new (fs := [.int 0, .int 0, .int 0]) hc dX6_init_85 nl_X6_34 hA nv_4 ⟨Nat.le_of_ble_eq_true rfl, Nat.le_of_ble_eq_true rfl⟩ (fun q_19 => ?_)
  refine rm_dup hc dX6_init_88 rfl ?_
  refine rc_initG (As := []) (rest := [.ref q_19, .ref h0]) hc dX6_init_89 (c_X4_init) il_X6_36 hAO hA rfl rfl (Nat.le_of_ble_eq_true rfl) ⟨⟨rfl, rfl⟩, Nat.le_of_ble_eq_true rfl, Nat.le_of_ble_eq_true rfl⟩ ⟨Nat.le_of_ble_eq_true rfl, Nat.le_of_ble_eq_true rfl⟩ (fun z_20 w_20 hw_20 => rc_wn (ws' := (h0, .inr (6, [.ref q_1, .ref q_10, .ref q_17, .null, .int 0, .int 0])) :: (q_1, .inl (cy 1, 4, .inr (.inr (.inr (.inr (va_up (va_up (va_up (va_up (fun _ => none) 0 (some q_2)) 1 (some q_4)) 2 (some q_6)) 3 (some q_8))))))) :: (q_2, .inr (2, [.int 0, .int 0, .int 100, .int 0])) :: (q_4, .inr (2, [.int 1, .int 0, .int 100, .int 0])) :: (q_6, .inr (2, [.int 2, .int 0, .int 100, .int 0])) :: (q_8, .inr (2, [.int 3, .int 0, .int 100, .int 0])) :: (q_10, .inl (cy 2, 3, .inr (.inr (.inr (.inr (va_up (va_up (va_up (fun _ => none) 0 (some q_11)) 1 (some q_13)) 2 (some q_15))))))) :: ((((w_12 ++ w_14) ++ w_16) ++ w_18) ++ w_20)) (nc' := 27) (ns' := 117) rfl rfl rfl ?_)
  refine rc_putF hc hnm dX6_init_92 fl_X6_37 0 rfl (Nat.le_of_ble_eq_true rfl) fq_6_3 rfl rfl (rc_wn (ws' := (h0, .inr (6, [.ref q_1, .ref q_10, .ref q_17, .ref q_19, .int 0, .int 0])) :: (q_1, .inl (cy 1, 4, .inr (.inr (.inr (.inr (va_up (va_up (va_up (va_up (fun _ => none) 0 (some q_2)) 1 (some q_4)) 2 (some q_6)) 3 (some q_8))))))) :: (q_2, .inr (2, [.int 0, .int 0, .int 100, .int 0])) :: (q_4, .inr (2, [.int 1, .int 0, .int 100, .int 0])) :: (q_6, .inr (2, [.int 2, .int 0, .int 100, .int 0])) :: (q_8, .inr (2, [.int 3, .int 0, .int 100, .int 0])) :: (q_10, .inl (cy 2, 3, .inr (.inr (.inr (.inr (va_up (va_up (va_up (fun _ => none) 0 (some q_11)) 1 (some q_13)) 2 (some q_15))))))) :: ((((w_12 ++ w_14) ++ w_16) ++ w_18) ++ w_20)) (nc' := 27) (ns' := 117) rfl rfl rfl ?_)
  subst hw_12; subst hw_14; subst hw_16; subst hw_18; subst hw_20
  obtain ⟨zz, hz1, hz2⟩ := fin_X6 (D := D) (cl := vwCl) cy h0 q_1 q_2 q_4 q_6 q_8 q_10 q_11 q_13 q_15 q_17 z_18 q_19 z_12 z_14 z_16
  exact rc_vret (W1 := fun z => W_X6 cy h0 z) (z := zz) hc dX6_init_95 hz1 (fun hD => dmap hD hz2)
