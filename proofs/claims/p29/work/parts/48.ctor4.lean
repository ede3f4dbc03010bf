abbrev rm_X3_init : Room := { frames := 4, cells := 169, slots := 744, locals := 82 }
set_option maxHeartbeats 4000000 in
set_option maxRecDepth 100000 in
theorem c_X3_init {l : Launch} {D : va_G} {cy : Nat → ClassId} {h0 : Nat} : Cn l yX3_init cX3_init 2 rm_X3_init D cy h0 [] (.inr (3, [.null, .int 0, .int 0])) 169 744 (S := Nat → Nat → Nat → Nat) (fun z => W_X3 cy h0 z) := by
  refine rc_entry (by decide) rfl (Nat.le_of_ble_eq_true rfl) ?_
  intro p e s m args below meth c hc hnm hAO hA
  show RM _ _ _ _ _ _ _ _ _ _ _ _ _ _ _ _ _ [(0, .ref h0)] []
  refine rm_aload_n hc dX3_init_0 rfl rfl ?_
  refine rc_obj hc dX3_init_1 ob_X3 (by decide) ⟨Nat.le_of_ble_eq_true rfl, Nat.le_of_ble_eq_true rfl⟩ ?_
  refine rm_aload_n hc dX3_init_4 rfl rfl ?_
  refine rm_bipush (v := 6) hc dX3_init_5 (by decide) ?_
  refine rc_newq (N := 6) (t0 := 4) (cA := cy 4) hc dX3_init_7 cl_X3_9 hAO.2.2.2 rfl hA (by decide) (by decide) (by decide) ⟨Nat.le_of_ble_eq_true rfl, Nat.le_of_ble_eq_true rfl⟩ (fun q_1 => rc_wn (ws' := [(h0, .inr (3, [.null, .int 0, .int 0])), (q_1, .inl (cy 4, 6, .inr (.inr (.inr (.inr (fun _ => none))))))]) (nc' := 1) (ns' := 6) rfl rfl rfl ?_)
  refine rc_putF hc hnm dX3_init_10 fl_X3_11 0 rfl (Nat.le_of_ble_eq_true rfl) fq_3_0 rfl rfl (rc_wn (ws' := [(h0, .inr (3, [.ref q_1, .int 0, .int 0])), (q_1, .inl (cy 4, 6, .inr (.inr (.inr (.inr (fun _ => none))))))]) (nc' := 1) (ns' := 6) rfl rfl rfl ?_)
  refine rm_iconst (v := 0) hc dX3_init_13 (by decide) ?_
  refine rm_istore_n (ls' := [(0, .ref h0), (1, .int 0)]) hc dX3_init_14 rfl (by omega) rfl ?_
  refine rm_iload_n hc dX3_init_15 rfl rfl ?_
  refine rm_bipush (v := 6) hc dX3_init_16 (by decide) ?_
  refine rm_icmp_ge hc dX3_init_18 (tgt := 40) rfl (fun h => absurd h (by decide)) (fun _ => ?_)
  refine rm_aload_n hc dX3_init_21 rfl rfl ?_
  refine rc_get hc dX3_init_22 fl_X3_11 0 rfl (v := .ref q_1) rfl ?_
  refine rm_iload_n hc dX3_init_25 rfl rfl ?_
  refine rc_new (fs := [.null, .null, .null, .null, .int 0, .int 0]) hc dX3_init_26 nl_X3_9 hA nv_6 ⟨Nat.le_of_ble_eq_true rfl, Nat.le_of_ble_eq_true rfl⟩ (fun q_2 => ?_)
  refine rm_dup hc dX3_init_29 rfl ?_
  refine rc_initG (As := []) (rest := [.ref q_2, .int 0, .ref q_1]) hc dX3_init_30 (c_X6_init) il_X3_17 hAO hA rfl rfl (Nat.le_of_ble_eq_true rfl) ⟨⟨rfl, rfl⟩, Nat.le_of_ble_eq_true rfl, Nat.le_of_ble_eq_true rfl⟩ ⟨Nat.le_of_ble_eq_true rfl, Nat.le_of_ble_eq_true rfl⟩ (fun z_3 w_3 hw_3 => rc_wn (ws' := (h0, .inr (3, [.ref q_1, .int 0, .int 0])) :: (q_1, .inl (cy 4, 6, .inr (.inr (.inr (.inr (fun _ => none)))))) :: w_3) (nc' := 29) (ns' := 129) rfl rfl rfl ?_)
  refine rc_astq (ci := 6) (r := (RX6, TX6, 6)) (t0 := 4) (i := 0) (vs := [.ref (z_3 1 0), .ref (z_3 3 0), .ref (z_3 6 0), .ref (z_3 8 0), .int 0, .int 0]) hc dX3_init_33 1 rfl rfl (List.mem_cons_of_mem _ (List.mem_cons_of_mem _ (by rw [hw_3]; exact W_X6_m cy q_2 z_3))) rfl (by decide) (by omega) (by omega) (rc_wn (ws' := (h0, .inr (3, [.ref q_1, .int 0, .int 0])) :: (q_1, .inl (cy 4, 6, .inr (.inr (.inr (.inr (va_up (fun _ => none) 0 (some q_2))))))) :: w_3) (nc' := 29) (ns' := 129) rfl rfl rfl ?_)
  refine rm_iinc (v := 1) (ls' := [(0, .ref h0), (1, .int 1)]) hc dX3_init_34 rfl (by decide) (by omega) rfl ?_
  refine rm_goto hc dX3_init_37 (tgt := 15) rfl ?_
  refine rm_iload_n hc dX3_init_15 rfl rfl ?_
  refine rm_bipush (v := 6) hc dX3_init_16 (by decide) ?_
  refine rm_icmp_ge hc dX3_init_18 (tgt := 40) rfl (fun h => absurd h (by decide)) (fun _ => ?_)
  refine rm_aload_n hc dX3_init_21 rfl rfl ?_
  refine rc_get hc dX3_init_22 fl_X3_11 0 rfl (v := .ref q_1) rfl ?_
  refine rm_iload_n hc dX3_init_25 rfl rfl ?_
  refine rc_new (fs := [.null, .null, .null, .null, .int 0, .int 0]) hc dX3_init_26 nl_X3_9 hA nv_6 ⟨Nat.le_of_ble_eq_true rfl, Nat.le_of_ble_eq_true rfl⟩ (fun q_4 => ?_)
  refine rm_dup hc dX3_init_29 rfl ?_
  refine rc_initG (As := []) (rest := [.ref q_4, .int 1, .ref q_1]) hc dX3_init_30 (c_X6_init) il_X3_17 hAO hA rfl rfl (Nat.le_of_ble_eq_true rfl) ⟨⟨rfl, rfl⟩, Nat.le_of_ble_eq_true rfl, Nat.le_of_ble_eq_true rfl⟩ ⟨Nat.le_of_ble_eq_true rfl, Nat.le_of_ble_eq_true rfl⟩ (fun z_5 w_5 hw_5 => rc_wn (ws' := (h0, .inr (3, [.ref q_1, .int 0, .int 0])) :: (q_1, .inl (cy 4, 6, .inr (.inr (.inr (.inr (va_up (fun _ => none) 0 (some q_2))))))) :: (w_3 ++ w_5)) (nc' := 57) (ns' := 252) rfl rfl rfl ?_)
  refine rc_astq (ci := 6) (r := (RX6, TX6, 6)) (t0 := 4) (i := 1) (vs := [.ref (z_5 1 0), .ref (z_5 3 0), .ref (z_5 6 0), .ref (z_5 8 0), .int 0, .int 0]) hc dX3_init_33 1 rfl rfl (List.mem_cons_of_mem _ (List.mem_cons_of_mem _ (List.mem_append_right _ (by rw [hw_5]; exact W_X6_m cy q_4 z_5)))) rfl (by decide) (by omega) (by omega) (rc_wn (ws' := (h0, .inr (3, [.ref q_1, .int 0, .int 0])) :: (q_1, .inl (cy 4, 6, .inr (.inr (.inr (.inr (va_up (va_up (fun _ => none) 0 (some q_2)) 1 (some q_4))))))) :: (w_3 ++ w_5)) (nc' := 57) (ns' := 252) rfl rfl rfl ?_)
  refine rm_iinc (v := 2) (ls' := [(0, .ref h0), (1, .int 2)]) hc dX3_init_34 rfl (by decide) (by omega) rfl ?_
  refine rm_goto hc dX3_init_37 (tgt := 15) rfl ?_
  refine rm_iload_n hc dX3_init_15 rfl rfl ?_
  refine rm_bipush (v := 6) hc dX3_init_16 (by decide) ?_
  refine rm_icmp_ge hc dX3_init_18 (tgt := 40) rfl (fun h => absurd h (by decide)) (fun _ => ?_)
  refine rm_aload_n hc dX3_init_21 rfl rfl ?_
  refine rc_get hc dX3_init_22 fl_X3_11 0 rfl (v := .ref q_1) rfl ?_
  refine rm_iload_n hc dX3_init_25 rfl rfl ?_
  refine rc_new (fs := [.null, .null, .null, .null, .int 0, .int 0]) hc dX3_init_26 nl_X3_9 hA nv_6 ⟨Nat.le_of_ble_eq_true rfl, Nat.le_of_ble_eq_true rfl⟩ (fun q_6 => ?_)
  refine rm_dup hc dX3_init_29 rfl ?_
  refine rc_initG (As := []) (rest := [.ref q_6, .int 2, .ref q_1]) hc dX3_init_30 (c_X6_init) il_X3_17 hAO hA rfl rfl (Nat.le_of_ble_eq_true rfl) ⟨⟨rfl, rfl⟩, Nat.le_of_ble_eq_true rfl, Nat.le_of_ble_eq_true rfl⟩ ⟨Nat.le_of_ble_eq_true rfl, Nat.le_of_ble_eq_true rfl⟩ (fun z_7 w_7 hw_7 => rc_wn (ws' := (h0, .inr (3, [.ref q_1, .int 0, .int 0])) :: (q_1, .inl (cy 4, 6, .inr (.inr (.inr (.inr (va_up (va_up (fun _ => none) 0 (some q_2)) 1 (some q_4))))))) :: ((w_3 ++ w_5) ++ w_7)) (nc' := 85) (ns' := 375) rfl rfl rfl ?_)
  refine rc_astq (ci := 6) (r := (RX6, TX6, 6)) (t0 := 4) (i := 2) (vs := [.ref (z_7 1 0), .ref (z_7 3 0), .ref (z_7 6 0), .ref (z_7 8 0), .int 0, .int 0]) hc dX3_init_33 1 rfl rfl (List.mem_cons_of_mem _ (List.mem_cons_of_mem _ (List.mem_append_right _ (by rw [hw_7]; exact W_X6_m cy q_6 z_7)))) rfl (by decide) (by omega) (by omega) (rc_wn (ws' := (h0, .inr (3, [.ref q_1, .int 0, .int 0])) :: (q_1, .inl (cy 4, 6, .inr (.inr (.inr (.inr (va_up (va_up (va_up (fun _ => none) 0 (some q_2)) 1 (some q_4)) 2 (some q_6))))))) :: ((w_3 ++ w_5) ++ w_7)) (nc' := 85) (ns' := 375) rfl rfl rfl ?_)
  refine rm_iinc (v := 3) (ls' := [(0, .ref h0), (1, .int 3)]) hc dX3_init_34 rfl (by decide) (by omega) rfl ?_
  refine rm_goto hc dX3_init_37 (tgt := 15) rfl ?_
  refine rm_iload_n hc dX3_init_15 rfl rfl ?_
  refine rm_bipush (v := 6) hc dX3_init_16 (by decide) ?_
  refine rm_icmp_ge hc dX3_init_18 (tgt := 40) rfl (fun h => absurd h (by decide)) (fun _ => ?_)
  refine rm_aload_n hc dX3_init_21 rfl rfl ?_
  refine rc_get hc dX3_init_22 fl_X3_11 0 rfl (v := .ref q_1) rfl ?_
  refine rm_iload_n hc dX3_init_25 rfl rfl ?_
  refine rc_new (fs := [.null, .null, .null, .null, .int 0, .int 0]) hc dX3_init_26 nl_X3_9 hA nv_6 ⟨Nat.le_of_ble_eq_true rfl, Nat.le_of_ble_eq_true rfl⟩ (fun q_8 => ?_)
  refine rm_dup hc dX3_init_29 rfl ?_
  refine rc_initG (As := []) (rest := [.ref q_8, .int 3, .ref q_1]) hc dX3_init_30 (c_X6_init) il_X3_17 hAO hA rfl rfl (Nat.le_of_ble_eq_true rfl) ⟨⟨rfl, rfl⟩, Nat.le_of_ble_eq_true rfl, Nat.le_of_ble_eq_true rfl⟩ ⟨Nat.le_of_ble_eq_true rfl, Nat.le_of_ble_eq_true rfl⟩ (fun z_9 w_9 hw_9 => rc_wn (ws' := (h0, .inr (3, [.ref q_1, .int 0, .int 0])) :: (q_1, .inl (cy 4, 6, .inr (.inr (.inr (.inr (va_up (va_up (va_up (fun _ => none) 0 (some q_2)) 1 (some q_4)) 2 (some q_6))))))) :: (((w_3 ++ w_5) ++ w_7) ++ w_9)) (nc' := 113) (ns' := 498) rfl rfl rfl ?_)
  refine rc_astq (ci := 6) (r := (RX6, TX6, 6)) (t0 := 4) (i := 3) (vs := [.ref (z_9 1 0), .ref (z_9 3 0), .ref (z_9 6 0), .ref (z_9 8 0), .int 0, .int 0]) hc dX3_init_33 1 rfl rfl (List.mem_cons_of_mem _ (List.mem_cons_of_mem _ (List.mem_append_right _ (by rw [hw_9]; exact W_X6_m cy q_8 z_9)))) rfl (by decide) (by omega) (by omega) (rc_wn (ws' := (h0, .inr (3, [.ref q_1, .int 0, .int 0])) :: (q_1, .inl (cy 4, 6, .inr (.inr (.inr (.inr (va_up (va_up (va_up (va_up (fun _ => none) 0 (some q_2)) 1 (some q_4)) 2 (some q_6)) 3 (some q_8))))))) :: (((w_3 ++ w_5) ++ w_7) ++ w_9)) (nc' := 113) (ns' := 498) rfl rfl rfl ?_)
  refine rm_iinc (v := 4) (ls' := [(0, .ref h0), (1, .int 4)]) hc dX3_init_34 rfl (by decide) (by omega) rfl ?_
  refine rm_goto hc dX3_init_37 (tgt := 15) rfl ?_
  refine rm_iload_n hc dX3_init_15 rfl rfl ?_
  refine rm_bipush (v := 6) hc dX3_init_16 (by decide) ?_
  refine rm_icmp_ge hc dX3_init_18 (tgt := 40) rfl (fun h => absurd h (by decide)) (fun _ => ?_)
  refine rm_aload_n hc dX3_init_21 rfl rfl ?_
  refine rc_get hc dX3_init_22 fl_X3_11 0 rfl (v := .ref q_1) rfl ?_
  refine rm_iload_n hc dX3_init_25 rfl rfl ?_
  refine rc_new (fs := [.null, .null, .null, .null, .int 0, .int 0]) hc dX3_init_26 nl_X3_9 hA nv_6 ⟨Nat.le_of_ble_eq_true rfl, Nat.le_of_ble_eq_true rfl⟩ (fun q_10 => ?_)
  refine rm_dup hc dX3_init_29 rfl ?_
  refine rc_initG (As := []) (rest := [.ref q_10, .int 4, .ref q_1]) hc dX3_init_30 (c_X6_init) il_X3_17 hAO hA rfl rfl (Nat.le_of_ble_eq_true rfl) ⟨⟨rfl, rfl⟩, Nat.le_of_ble_eq_true rfl, Nat.le_of_ble_eq_true rfl⟩ ⟨Nat.le_of_ble_eq_true rfl, Nat.le_of_ble_eq_true rfl⟩ (fun z_11 w_11 hw_11 => rc_wn (ws' := (h0, .inr (3, [.ref q_1, .int 0, .int 0])) :: (q_1, .inl (cy 4, 6, .inr (.inr (.inr (.inr (va_up (va_up (va_up (va_up (fun _ => none) 0 (some q_2)) 1 (some q_4)) 2 (some q_6)) 3 (some q_8))))))) :: ((((w_3 ++ w_5) ++ w_7) ++ w_9) ++ w_11)) (nc' := 141) (ns' := 621) rfl rfl rfl ?_)
  refine rc_astq (ci := 6) (r := (RX6, TX6, 6)) (t0 := 4) (i := 4) (vs := [.ref (z_11 1 0), .ref (z_11 3 0), .ref (z_11 6 0), .ref (z_11 8 0), .int 0, .int 0]) hc dX3_init_33 1 rfl rfl (List.mem_cons_of_mem _ (List.mem_cons_of_mem _ (List.mem_append_right _ (by rw [hw_11]; exact W_X6_m cy q_10 z_11)))) rfl (by decide) (by omega) (by omega) (rc_wn (ws' := (h0, .inr (3, [.ref q_1, .int 0, .int 0])) :: (q_1, .inl (cy 4, 6, .inr (.inr (.inr (.inr (va_up (va_up (va_up (va_up (va_up (fun _ => none) 0 (some q_2)) 1 (some q_4)) 2 (some q_6)) 3 (some q_8)) 4 (some q_10))))))) :: ((((w_3 ++ w_5) ++ w_7) ++ w_9) ++ w_11)) (nc' := 141) (ns' := 621) rfl rfl rfl ?_)
  refine rm_iinc (v := 5) (ls' := [(0, .ref h0), (1, .int 5)]) hc dX3_init_34 rfl (by decide) (by omega) rfl ?_
  refine rm_goto hc dX3_init_37 (tgt := 15) rfl ?_
  refine rm_iload_n hc dX3_init_15 rfl rfl ?_
  refine rm_bipush (v := 6) hc dX3_init_16 (by decide) ?_
  refine rm_icmp_ge hc dX3_init_18 (tgt := 40) rfl (fun h => absurd h (by decide)) (fun _ => ?_)
  refine rm_aload_n hc dX3_init_21 rfl rfl ?_
  refine rc_get hc dX3_init_22 fl_X3_11 0 rfl (v := .ref q_1) rfl ?_
  refine rm_iload_n hc dX3_init_25 rfl rfl ?_
  refine rc_new (fs := [.null, .null, .null, .null, .int 0, .int 0]) hc dX3_init_26 nl_X3_9 hA nv_6 ⟨Nat.le_of_ble_eq_true rfl, Nat.le_of_ble_eq_true rfl⟩ (fun q_12 => ?_)
  refine rm_dup hc dX3_init_29 rfl ?_
  refine rc_initG (As := []) (rest := [.ref q_12, .int 5, .ref q_1]) hc dX3_init_30 (c_X6_init) il_X3_17 hAO hA rfl rfl (Nat.le_of_ble_eq_true rfl) ⟨⟨rfl, rfl⟩, Nat.le_of_ble_eq_true rfl, Nat.le_of_ble_eq_true rfl⟩ ⟨Nat.le_of_ble_eq_true rfl, Nat.le_of_ble_eq_true rfl⟩ (fun z_13 w_13 hw_13 => rc_wn (ws' := (h0, .inr (3, [.ref q_1, .int 0, .int 0])) :: (q_1, .inl (cy 4, 6, .inr (.inr (.inr (.inr (va_up (va_up (va_up (va_up (va_up (fun _ => none) 0 (some q_2)) 1 (some q_4)) 2 (some q_6)) 3 (some q_8)) 4 (some q_10))))))) :: (((((w_3 ++ w_5) ++ w_7) ++ w_9) ++ w_11) ++ w_13)) (nc' := 169) (ns' := 744) rfl rfl rfl ?_)
  refine rc_astq (ci := 6) (r := (RX6, TX6, 6)) (t0 := 4) (i := 5) (vs := [.ref (z_13 1 0), .ref (z_13 3 0), .ref (z_13 6 0), .ref (z_13 8 0), .int 0, .int 0]) hc dX3_init_33 1 rfl rfl (List.mem_cons_of_mem _ (List.mem_cons_of_mem _ (List.mem_append_right _ (by rw [hw_13]; exact W_X6_m cy q_12 z_13)))) rfl (by decide) (by omega) (by omega) (rc_wn (ws' := (h0, .inr (3, [.ref q_1, .int 0, .int 0])) :: (q_1, .inl (cy 4, 6, .inr (.inr (.inr (.inr (va_up (va_up (va_up (va_up (va_up (va_up (fun _ => none) 0 (some q_2)) 1 (some q_4)) 2 (some q_6)) 3 (some q_8)) 4 (some q_10)) 5 (some q_12))))))) :: (((((w_3 ++ w_5) ++ w_7) ++ w_9) ++ w_11) ++ w_13)) (nc' := 169) (ns' := 744) rfl rfl rfl ?_)
  refine rm_iinc (v := 6) (ls' := [(0, .ref h0), (1, .int 6)]) hc dX3_init_34 rfl (by decide) (by omega) rfl ?_
  refine rm_goto hc dX3_init_37 (tgt := 15) rfl ?_
  refine rm_iload_n hc dX3_init_15 rfl rfl ?_
  refine rm_bipush (v := 6) hc dX3_init_16 (by decide) ?_
  refine rm_icmp_ge hc dX3_init_18 (tgt := 40) rfl (fun _ => ?_) (fun h => absurd (by decide) h)
  subst hw_3; subst hw_5; subst hw_7; subst hw_9; subst hw_11; subst hw_13
  obtain ⟨zz, hz1, hz2⟩ := fin_X3 (D := D) (cl := vwCl) cy h0 q_1 q_2 q_4 q_6 q_8 q_10 q_12 z_3 z_5 z_7 z_9 z_11 z_13
  exact rc_vret (W1 := fun z => W_X3 cy h0 z) (z := zz) hc dX3_init_40 hz1 (fun hD => dmap hD hz2)
