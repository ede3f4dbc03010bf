abbrev rm_X8_mixedDoor : Room := { frames := 5, cells := 0, slots := 0, locals := 119 }
set_option maxHeartbeats 4000000 in
set_option maxRecDepth 100000 in
theorem c_X8_mixedDoor {l : Launch} {D : va_G} {cy : Nat → ClassId} {ad : Ads} (hI : IJ ad) (x : Mem) {d : Nat} (hd3 : d < 3) {nr : Nat} {nb : Nat → Nat} (mm : Nat) (hmm : mm < 2 ^ 30) (hw : x 0 1 = nI mm) (hF : FLG x 0) (hnr : x 0 5 = nI nr) (hr8 : nr ≤ 8) (hnb : ∀ j, j < 4 → x 0 (16 + 4 * j) = nI (nb j)) (hb9 : ∀ j, j < 4 → nb j ≤ 999) (a : Int64) : Ctl l yX8_mixedDoor cX8_mixedDoor 11 (some .long) rm_X8_mixedDoor D cy ad [.ref (ad 8 9 0), .long a, .ref (ad 0 4 d)] x (fun r y => r = hsh a (dorL x d mm nr nb) ∧ E7 x y) := by
  refine rm_entry (Qc := Ql D cy ad (fun r y => r = hsh a (dorL x d mm nr nb) ∧ E7 x y)) hI (by decide) (Nat.le_of_ble_eq_true rfl) ?_
  intro p e s m args below meth c hc
  show RM _ _ _ _ _ _ _ _ _ _ _ _ _ _ _ _ _ [(0, .ref (ad 8 9 0)), (1, .long a), (3, .ref (ad 0 4 d))] []
  refine rm_lload_n hc dX8_mixedDoor_0 rfl rfl ?_
  refine rm_lstore (ls' := [(0, .ref (ad 8 9 0)), (1, .long a), (3, .ref (ad 0 4 d)), (4, .long a)]) hc dX8_mixedDoor_1 (by decide) rfl ?_
  refine rm_iconst (v := 0) hc dX8_mixedDoor_3 (by decide) ?_
  refine rm_istore (ls' := [(0, .ref (ad 8 9 0)), (1, .long a), (3, .ref (ad 0 4 d)), (4, .long a), (6, .int 0)]) hc dX8_mixedDoor_4 (by decide) rfl ?_
  refine rm_iload hc dX8_mixedDoor_6 rfl ?_
  refine rm_bipush (v := 8) hc dX8_mixedDoor_8 (by decide) ?_
  refine rm_icmp_ge (tgt := 40) hc dX8_mixedDoor_10 (by decide) (fun h => absurd h (by decide)) (fun _ => ?_)
  refine rm_lload hc dX8_mixedDoor_13 rfl ?_
  refine rm_aload_n hc dX8_mixedDoor_15 rfl rfl ?_
  refine rm_iload hc dX8_mixedDoor_16 rfl ?_
  refine rm_aload_n hc dX8_mixedDoor_18 rfl rfl ?_
  refine rm_get hc dX8_mixedDoor_19 fl_X8_10 dm_9 rfl rfl ?_
  refine rm_get hc dX8_mixedDoor_22 fl_X8_129 (dm_0 (by omega)) rfl rfl ?_
  refine rm_calliV (As := [.int 0, .ref (ad 0 8 0)]) (rest := [.long a]) hc dX8_mixedDoor_25 (c_X1_look hI x (k := 0) (d := d) (k2 := 0) (by omega) (by omega) (by omega) (by omega) 0) mv_X8_169 (dm_4 (by omega) (by omega) (by omega)) rfl rfl (hn := rfl) (hst := rfl) (hw := Nat.le_of_ble_eq_true rfl) (hR := ⟨⟨rfl, rfl⟩, Nat.le_of_ble_eq_true rfl, Nat.le_of_ble_eq_true rfl⟩) (hnc := ⟨Nat.zero_le _, Nat.zero_le _⟩) (fun r_2 y_2 h_2 => ?_)
  obtain ⟨e_2, ey_2⟩ := h_2
  obtain rfl := ey_2.symm
  refine rm_i2l hc dX8_mixedDoor_28 (fun v_3 e_3 => ?_)
  refine rm_calllS (As := [.long a, .long v_3]) (rest := []) hc dX8_mixedDoor_29 (c_X8_mixed hI x a v_3) ms_X8_202 (hn := rfl) (hst := rfl) (hw := Nat.le_of_ble_eq_true rfl) (hR := ⟨⟨rfl, rfl⟩, Nat.le_of_ble_eq_true rfl, Nat.le_of_ble_eq_true rfl⟩) (hnc := ⟨Nat.zero_le _, Nat.zero_le _⟩) (fun r_4 y_4 h_4 => ?_)
  obtain ⟨e_4, ey_4⟩ := h_4
  obtain rfl := ey_4.symm
  refine rm_lstore (ls' := [(0, .ref (ad 8 9 0)), (1, .long a), (3, .ref (ad 0 4 d)), (4, .long r_4), (6, .int 0)]) hc dX8_mixedDoor_32 (by decide) rfl ?_
  refine rm_iinc (v := 1) (ls' := [(0, .ref (ad 8 9 0)), (1, .long a), (3, .ref (ad 0 4 d)), (4, .long r_4), (6, .int 1)]) hc dX8_mixedDoor_34 rfl (by decide) (by decide) rfl ?_
  refine rm_goto (tgt := 6) hc dX8_mixedDoor_37 (by decide) ?_
  refine rm_iload hc dX8_mixedDoor_6 rfl ?_
  refine rm_bipush (v := 8) hc dX8_mixedDoor_8 (by decide) ?_
  refine rm_icmp_ge (tgt := 40) hc dX8_mixedDoor_10 (by decide) (fun h => absurd h (by decide)) (fun _ => ?_)
  refine rm_lload hc dX8_mixedDoor_13 rfl ?_
  refine rm_aload_n hc dX8_mixedDoor_15 rfl rfl ?_
  refine rm_iload hc dX8_mixedDoor_16 rfl ?_
  refine rm_aload_n hc dX8_mixedDoor_18 rfl rfl ?_
  refine rm_get hc dX8_mixedDoor_19 fl_X8_10 dm_9 rfl rfl ?_
  refine rm_get hc dX8_mixedDoor_22 fl_X8_129 (dm_0 (by omega)) rfl rfl ?_
  refine rm_calliV (As := [.int 1, .ref (ad 0 8 0)]) (rest := [.long r_4]) hc dX8_mixedDoor_25 (c_X1_look hI x (k := 0) (d := d) (k2 := 0) (by omega) (by omega) (by omega) (by omega) 1) mv_X8_169 (dm_4 (by omega) (by omega) (by omega)) rfl rfl (hn := rfl) (hst := rfl) (hw := Nat.le_of_ble_eq_true rfl) (hR := ⟨⟨rfl, rfl⟩, Nat.le_of_ble_eq_true rfl, Nat.le_of_ble_eq_true rfl⟩) (hnc := ⟨Nat.zero_le _, Nat.zero_le _⟩) (fun r_6 y_6 h_6 => ?_)
  obtain ⟨e_6, ey_6⟩ := h_6
  obtain rfl := ey_6.symm
  refine rm_i2l hc dX8_mixedDoor_28 (fun v_7 e_7 => ?_)
  refine rm_calllS (As := [.long r_4, .long v_7]) (rest := []) hc dX8_mixedDoor_29 (c_X8_mixed hI x r_4 v_7) ms_X8_202 (hn := rfl) (hst := rfl) (hw := Nat.le_of_ble_eq_true rfl) (hR := ⟨⟨rfl, rfl⟩, Nat.le_of_ble_eq_true rfl, Nat.le_of_ble_eq_true rfl⟩) (hnc := ⟨Nat.zero_le _, Nat.zero_le _⟩) (fun r_8 y_8 h_8 => ?_)
  obtain ⟨e_8, ey_8⟩ := h_8
  obtain rfl := ey_8.symm
  refine rm_lstore (ls' := [(0, .ref (ad 8 9 0)), (1, .long a), (3, .ref (ad 0 4 d)), (4, .long r_8), (6, .int 1)]) hc dX8_mixedDoor_32 (by decide) rfl ?_
  refine rm_iinc (v := 2) (ls' := [(0, .ref (ad 8 9 0)), (1, .long a), (3, .ref (ad 0 4 d)), (4, .long r_8), (6, .int 2)]) hc dX8_mixedDoor_34 rfl (by decide) (by decide) rfl ?_
  refine rm_goto (tgt := 6) hc dX8_mixedDoor_37 (by decide) ?_
  refine rm_iload hc dX8_mixedDoor_6 rfl ?_
  refine rm_bipush (v := 8) hc dX8_mixedDoor_8 (by decide) ?_
  refine rm_icmp_ge (tgt := 40) hc dX8_mixedDoor_10 (by decide) (fun h => absurd h (by decide)) (fun _ => ?_)
  refine rm_lload hc dX8_mixedDoor_13 rfl ?_
  refine rm_aload_n hc dX8_mixedDoor_15 rfl rfl ?_
  refine rm_iload hc dX8_mixedDoor_16 rfl ?_
  refine rm_aload_n hc dX8_mixedDoor_18 rfl rfl ?_
  refine rm_get hc dX8_mixedDoor_19 fl_X8_10 dm_9 rfl rfl ?_
  refine rm_get hc dX8_mixedDoor_22 fl_X8_129 (dm_0 (by omega)) rfl rfl ?_
  refine rm_calliV (As := [.int 2, .ref (ad 0 8 0)]) (rest := [.long r_8]) hc dX8_mixedDoor_25 (c_X1_look hI x (k := 0) (d := d) (k2 := 0) (by omega) (by omega) (by omega) (by omega) 2) mv_X8_169 (dm_4 (by omega) (by omega) (by omega)) rfl rfl (hn := rfl) (hst := rfl) (hw := Nat.le_of_ble_eq_true rfl) (hR := ⟨⟨rfl, rfl⟩, Nat.le_of_ble_eq_true rfl, Nat.le_of_ble_eq_true rfl⟩) (hnc := ⟨Nat.zero_le _, Nat.zero_le _⟩) (fun r_10 y_10 h_10 => ?_)
  obtain ⟨e_10, ey_10⟩ := h_10
  obtain rfl := ey_10.symm
  refine rm_i2l hc dX8_mixedDoor_28 (fun v_11 e_11 => ?_)
  refine rm_calllS (As := [.long r_8, .long v_11]) (rest := []) hc dX8_mixedDoor_29 (c_X8_mixed hI x r_8 v_11) ms_X8_202 (hn := rfl) (hst := rfl) (hw := Nat.le_of_ble_eq_true rfl) (hR := ⟨⟨rfl, rfl⟩, Nat.le_of_ble_eq_true rfl, Nat.le_of_ble_eq_true rfl⟩) (hnc := ⟨Nat.zero_le _, Nat.zero_le _⟩) (fun r_12 y_12 h_12 => ?_)
  obtain ⟨e_12, ey_12⟩ := h_12
  obtain rfl := ey_12.symm
  refine rm_lstore (ls' := [(0, .ref (ad 8 9 0)), (1, .long a), (3, .ref (ad 0 4 d)), (4, .long r_12), (6, .int 2)]) hc dX8_mixedDoor_32 (by decide) rfl ?_
  refine rm_iinc (v := 3) (ls' := [(0, .ref (ad 8 9 0)), (1, .long a), (3, .ref (ad 0 4 d)), (4, .long r_12), (6, .int 3)]) hc dX8_mixedDoor_34 rfl (by decide) (by decide) rfl ?_
  refine rm_goto (tgt := 6) hc dX8_mixedDoor_37 (by decide) ?_
  refine rm_iload hc dX8_mixedDoor_6 rfl ?_
  refine rm_bipush (v := 8) hc dX8_mixedDoor_8 (by decide) ?_
  refine rm_icmp_ge (tgt := 40) hc dX8_mixedDoor_10 (by decide) (fun h => absurd h (by decide)) (fun _ => ?_)
  refine rm_lload hc dX8_mixedDoor_13 rfl ?_
  refine rm_aload_n hc dX8_mixedDoor_15 rfl rfl ?_
  refine rm_iload hc dX8_mixedDoor_16 rfl ?_
  refine rm_aload_n hc dX8_mixedDoor_18 rfl rfl ?_
  refine rm_get hc dX8_mixedDoor_19 fl_X8_10 dm_9 rfl rfl ?_
  refine rm_get hc dX8_mixedDoor_22 fl_X8_129 (dm_0 (by omega)) rfl rfl ?_
  refine rm_calliV (As := [.int 3, .ref (ad 0 8 0)]) (rest := [.long r_12]) hc dX8_mixedDoor_25 (c_X1_look hI x (k := 0) (d := d) (k2 := 0) (by omega) (by omega) (by omega) (by omega) 3) mv_X8_169 (dm_4 (by omega) (by omega) (by omega)) rfl rfl (hn := rfl) (hst := rfl) (hw := Nat.le_of_ble_eq_true rfl) (hR := ⟨⟨rfl, rfl⟩, Nat.le_of_ble_eq_true rfl, Nat.le_of_ble_eq_true rfl⟩) (hnc := ⟨Nat.zero_le _, Nat.zero_le _⟩) (fun r_14 y_14 h_14 => ?_)
  obtain ⟨e_14, ey_14⟩ := h_14
  obtain rfl := ey_14.symm
  refine rm_i2l hc dX8_mixedDoor_28 (fun v_15 e_15 => ?_)
  refine rm_calllS (As := [.long r_12, .long v_15]) (rest := []) hc dX8_mixedDoor_29 (c_X8_mixed hI x r_12 v_15) ms_X8_202 (hn := rfl) (hst := rfl) (hw := Nat.le_of_ble_eq_true rfl) (hR := ⟨⟨rfl, rfl⟩, Nat.le_of_ble_eq_true rfl, Nat.le_of_ble_eq_true rfl⟩) (hnc := ⟨Nat.zero_le _, Nat.zero_le _⟩) (fun r_16 y_16 h_16 => ?_)
  obtain ⟨e_16, ey_16⟩ := h_16
  obtain rfl := ey_16.symm
  refine rm_lstore (ls' := [(0, .ref (ad 8 9 0)), (1, .long a), (3, .ref (ad 0 4 d)), (4, .long r_16), (6, .int 3)]) hc dX8_mixedDoor_32 (by decide) rfl ?_
  refine rm_iinc (v := 4) (ls' := [(0, .ref (ad 8 9 0)), (1, .long a), (3, .ref (ad 0 4 d)), (4, .long r_16), (6, .int 4)]) hc dX8_mixedDoor_34 rfl (by decide) (by decide) rfl ?_
  refine rm_goto (tgt := 6) hc dX8_mixedDoor_37 (by decide) ?_
  refine rm_iload hc dX8_mixedDoor_6 rfl ?_
  refine rm_bipush (v := 8) hc dX8_mixedDoor_8 (by decide) ?_
  refine rm_icmp_ge (tgt := 40) hc dX8_mixedDoor_10 (by decide) (fun h => absurd h (by decide)) (fun _ => ?_)
  refine rm_lload hc dX8_mixedDoor_13 rfl ?_
  refine rm_aload_n hc dX8_mixedDoor_15 rfl rfl ?_
  refine rm_iload hc dX8_mixedDoor_16 rfl ?_
  refine rm_aload_n hc dX8_mixedDoor_18 rfl rfl ?_
  refine rm_get hc dX8_mixedDoor_19 fl_X8_10 dm_9 rfl rfl ?_
  refine rm_get hc dX8_mixedDoor_22 fl_X8_129 (dm_0 (by omega)) rfl rfl ?_
  refine rm_calliV (As := [.int 4, .ref (ad 0 8 0)]) (rest := [.long r_16]) hc dX8_mixedDoor_25 (c_X1_look hI x (k := 0) (d := d) (k2 := 0) (by omega) (by omega) (by omega) (by omega) 4) mv_X8_169 (dm_4 (by omega) (by omega) (by omega)) rfl rfl (hn := rfl) (hst := rfl) (hw := Nat.le_of_ble_eq_true rfl) (hR := ⟨⟨rfl, rfl⟩, Nat.le_of_ble_eq_true rfl, Nat.le_of_ble_eq_true rfl⟩) (hnc := ⟨Nat.zero_le _, Nat.zero_le _⟩) (fun r_18 y_18 h_18 => ?_)
  obtain ⟨e_18, ey_18⟩ := h_18
  obtain rfl := ey_18.symm
  refine rm_i2l hc dX8_mixedDoor_28 (fun v_19 e_19 => ?_)
  refine rm_calllS (As := [.long r_16, .long v_19]) (rest := []) hc dX8_mixedDoor_29 (c_X8_mixed hI x r_16 v_19) ms_X8_202 (hn := rfl) (hst := rfl) (hw := Nat.le_of_ble_eq_true rfl) (hR := ⟨⟨rfl, rfl⟩, Nat.le_of_ble_eq_true rfl, Nat.le_of_ble_eq_true rfl⟩) (hnc := ⟨Nat.zero_le _, Nat.zero_le _⟩) (fun r_20 y_20 h_20 => ?_)
  obtain ⟨e_20, ey_20⟩ := h_20
  obtain rfl := ey_20.symm
  refine rm_lstore (ls' := [(0, .ref (ad 8 9 0)), (1, .long a), (3, .ref (ad 0 4 d)), (4, .long r_20), (6, .int 4)]) hc dX8_mixedDoor_32 (by decide) rfl ?_
  refine rm_iinc (v := 5) (ls' := [(0, .ref (ad 8 9 0)), (1, .long a), (3, .ref (ad 0 4 d)), (4, .long r_20), (6, .int 5)]) hc dX8_mixedDoor_34 rfl (by decide) (by decide) rfl ?_
  refine rm_goto (tgt := 6) hc dX8_mixedDoor_37 (by decide) ?_
  refine rm_iload hc dX8_mixedDoor_6 rfl ?_
  refine rm_bipush (v := 8) hc dX8_mixedDoor_8 (by decide) ?_
  refine rm_icmp_ge (tgt := 40) hc dX8_mixedDoor_10 (by decide) (fun h => absurd h (by decide)) (fun _ => ?_)
  refine rm_lload hc dX8_mixedDoor_13 rfl ?_
  refine rm_aload_n hc dX8_mixedDoor_15 rfl rfl ?_
  refine rm_iload hc dX8_mixedDoor_16 rfl ?_
  refine rm_aload_n hc dX8_mixedDoor_18 rfl rfl ?_
  refine rm_get hc dX8_mixedDoor_19 fl_X8_10 dm_9 rfl rfl ?_
  refine rm_get hc dX8_mixedDoor_22 fl_X8_129 (dm_0 (by omega)) rfl rfl ?_
  refine rm_calliV (As := [.int 5, .ref (ad 0 8 0)]) (rest := [.long r_20]) hc dX8_mixedDoor_25 (c_X1_look hI x (k := 0) (d := d) (k2 := 0) (by omega) (by omega) (by omega) (by omega) 5) mv_X8_169 (dm_4 (by omega) (by omega) (by omega)) rfl rfl (hn := rfl) (hst := rfl) (hw := Nat.le_of_ble_eq_true rfl) (hR := ⟨⟨rfl, rfl⟩, Nat.le_of_ble_eq_true rfl, Nat.le_of_ble_eq_true rfl⟩) (hnc := ⟨Nat.zero_le _, Nat.zero_le _⟩) (fun r_22 y_22 h_22 => ?_)
  obtain ⟨e_22, ey_22⟩ := h_22
  obtain rfl := ey_22.symm
  refine rm_i2l hc dX8_mixedDoor_28 (fun v_23 e_23 => ?_)
  refine rm_calllS (As := [.long r_20, .long v_23]) (rest := []) hc dX8_mixedDoor_29 (c_X8_mixed hI x r_20 v_23) ms_X8_202 (hn := rfl) (hst := rfl) (hw := Nat.le_of_ble_eq_true rfl) (hR := ⟨⟨rfl, rfl⟩, Nat.le_of_ble_eq_true rfl, Nat.le_of_ble_eq_true rfl⟩) (hnc := ⟨Nat.zero_le _, Nat.zero_le _⟩) (fun r_24 y_24 h_24 => ?_)
  obtain ⟨e_24, ey_24⟩ := h_24
  obtain rfl := ey_24.symm
  refine rm_lstore (ls' := [(0, .ref (ad 8 9 0)), (1, .long a), (3, .ref (ad 0 4 d)), (4, .long r_24), (6, .int 5)]) hc dX8_mixedDoor_32 (by decide) rfl ?_
  refine rm_iinc (v := 6) (ls' := [(0, .ref (ad 8 9 0)), (1, .long a), (3, .ref (ad 0 4 d)), (4, .long r_24), (6, .int 6)]) hc dX8_mixedDoor_34 rfl (by decide) (by decide) rfl ?_
  refine rm_goto (tgt := 6) hc dX8_mixedDoor_37 (by decide) ?_
  refine rm_iload hc dX8_mixedDoor_6 rfl ?_
  refine rm_bipush (v := 8) hc dX8_mixedDoor_8 (by decide) ?_
  refine rm_icmp_ge (tgt := 40) hc dX8_mixedDoor_10 (by decide) (fun h => absurd h (by decide)) (fun _ => ?_)
  refine rm_lload hc dX8_mixedDoor_13 rfl ?_
  refine rm_aload_n hc dX8_mixedDoor_15 rfl rfl ?_
  refine rm_iload hc dX8_mixedDoor_16 rfl ?_
  refine rm_aload_n hc dX8_mixedDoor_18 rfl rfl ?_
  refine rm_get hc dX8_mixedDoor_19 fl_X8_10 dm_9 rfl rfl ?_
  refine rm_get hc dX8_mixedDoor_22 fl_X8_129 (dm_0 (by omega)) rfl rfl ?_
  refine rm_calliV (As := [.int 6, .ref (ad 0 8 0)]) (rest := [.long r_24]) hc dX8_mixedDoor_25 (c_X1_look hI x (k := 0) (d := d) (k2 := 0) (by omega) (by omega) (by omega) (by omega) 6) mv_X8_169 (dm_4 (by omega) (by omega) (by omega)) rfl rfl (hn := rfl) (hst := rfl) (hw := Nat.le_of_ble_eq_true rfl) (hR := ⟨⟨rfl, rfl⟩, Nat.le_of_ble_eq_true rfl, Nat.le_of_ble_eq_true rfl⟩) (hnc := ⟨Nat.zero_le _, Nat.zero_le _⟩) (fun r_26 y_26 h_26 => ?_)
  obtain ⟨e_26, ey_26⟩ := h_26
  obtain rfl := ey_26.symm
  refine rm_i2l hc dX8_mixedDoor_28 (fun v_27 e_27 => ?_)
  refine rm_calllS (As := [.long r_24, .long v_27]) (rest := []) hc dX8_mixedDoor_29 (c_X8_mixed hI x r_24 v_27) ms_X8_202 (hn := rfl) (hst := rfl) (hw := Nat.le_of_ble_eq_true rfl) (hR := ⟨⟨rfl, rfl⟩, Nat.le_of_ble_eq_true rfl, Nat.le_of_ble_eq_true rfl⟩) (hnc := ⟨Nat.zero_le _, Nat.zero_le _⟩) (fun r_28 y_28 h_28 => ?_)
  obtain ⟨e_28, ey_28⟩ := h_28
  obtain rfl := ey_28.symm
  refine rm_lstore (ls' := [(0, .ref (ad 8 9 0)), (1, .long a), (3, .ref (ad 0 4 d)), (4, .long r_28), (6, .int 6)]) hc dX8_mixedDoor_32 (by decide) rfl ?_
  refine rm_iinc (v := 7) (ls' := [(0, .ref (ad 8 9 0)), (1, .long a), (3, .ref (ad 0 4 d)), (4, .long r_28), (6, .int 7)]) hc dX8_mixedDoor_34 rfl (by decide) (by decide) rfl ?_
  refine rm_goto (tgt := 6) hc dX8_mixedDoor_37 (by decide) ?_
  refine rm_iload hc dX8_mixedDoor_6 rfl ?_
  refine rm_bipush (v := 8) hc dX8_mixedDoor_8 (by decide) ?_
  refine rm_icmp_ge (tgt := 40) hc dX8_mixedDoor_10 (by decide) (fun h => absurd h (by decide)) (fun _ => ?_)
  refine rm_lload hc dX8_mixedDoor_13 rfl ?_
  refine rm_aload_n hc dX8_mixedDoor_15 rfl rfl ?_
  refine rm_iload hc dX8_mixedDoor_16 rfl ?_
  refine rm_aload_n hc dX8_mixedDoor_18 rfl rfl ?_
  refine rm_get hc dX8_mixedDoor_19 fl_X8_10 dm_9 rfl rfl ?_
  refine rm_get hc dX8_mixedDoor_22 fl_X8_129 (dm_0 (by omega)) rfl rfl ?_
  refine rm_calliV (As := [.int 7, .ref (ad 0 8 0)]) (rest := [.long r_28]) hc dX8_mixedDoor_25 (c_X1_look hI x (k := 0) (d := d) (k2 := 0) (by omega) (by omega) (by omega) (by omega) 7) mv_X8_169 (dm_4 (by omega) (by omega) (by omega)) rfl rfl (hn := rfl) (hst := rfl) (hw := Nat.le_of_ble_eq_true rfl) (hR := ⟨⟨rfl, rfl⟩, Nat.le_of_ble_eq_true rfl, Nat.le_of_ble_eq_true rfl⟩) (hnc := ⟨Nat.zero_le _, Nat.zero_le _⟩) (fun r_30 y_30 h_30 => ?_)
  obtain ⟨e_30, ey_30⟩ := h_30
  obtain rfl := ey_30.symm
  refine rm_i2l hc dX8_mixedDoor_28 (fun v_31 e_31 => ?_)
  refine rm_calllS (As := [.long r_28, .long v_31]) (rest := []) hc dX8_mixedDoor_29 (c_X8_mixed hI x r_28 v_31) ms_X8_202 (hn := rfl) (hst := rfl) (hw := Nat.le_of_ble_eq_true rfl) (hR := ⟨⟨rfl, rfl⟩, Nat.le_of_ble_eq_true rfl, Nat.le_of_ble_eq_true rfl⟩) (hnc := ⟨Nat.zero_le _, Nat.zero_le _⟩) (fun r_32 y_32 h_32 => ?_)
  obtain ⟨e_32, ey_32⟩ := h_32
  obtain rfl := ey_32.symm
  refine rm_lstore (ls' := [(0, .ref (ad 8 9 0)), (1, .long a), (3, .ref (ad 0 4 d)), (4, .long r_32), (6, .int 7)]) hc dX8_mixedDoor_32 (by decide) rfl ?_
  refine rm_iinc (v := 8) (ls' := [(0, .ref (ad 8 9 0)), (1, .long a), (3, .ref (ad 0 4 d)), (4, .long r_32), (6, .int 8)]) hc dX8_mixedDoor_34 rfl (by decide) (by decide) rfl ?_
  refine rm_goto (tgt := 6) hc dX8_mixedDoor_37 (by decide) ?_
  refine rm_iload hc dX8_mixedDoor_6 rfl ?_
  refine rm_bipush (v := 8) hc dX8_mixedDoor_8 (by decide) ?_
  refine rm_icmp_ge (tgt := 40) hc dX8_mixedDoor_10 (by decide) (fun _ => ?_) (fun h => absurd (by decide) h)
  refine rm_aload_n hc dX8_mixedDoor_40 rfl rfl ?_
  refine rm_get hc dX8_mixedDoor_41 fl_X8_93 (dm_4 (by omega) (by omega) (by omega)) rfl rfl ?_
  refine rm_astore (ls' := [(0, .ref (ad 8 9 0)), (1, .long a), (3, .ref (ad 0 4 d)), (4, .long r_32), (6, .ref (ad 0 5 d))]) hc dX8_mixedDoor_44 (by decide) rfl ?_
  refine rm_aload hc dX8_mixedDoor_46 rfl ?_
  refine rm_alen (n := 0) (t0 := 3) (v := 4) hc dX8_mixedDoor_48 (dm_5 (by omega) (by omega) (by omega)) rfl rfl rfl ?_
  refine rm_istore (ls' := [(0, .ref (ad 8 9 0)), (1, .long a), (3, .ref (ad 0 4 d)), (4, .long r_32), (6, .ref (ad 0 5 d)), (7, .int 4)]) hc dX8_mixedDoor_49 (by decide) rfl ?_
  refine rm_iconst (v := 0) hc dX8_mixedDoor_51 (by decide) ?_
  refine rm_istore (ls' := [(0, .ref (ad 8 9 0)), (1, .long a), (3, .ref (ad 0 4 d)), (4, .long r_32), (6, .ref (ad 0 5 d)), (7, .int 4), (8, .int 0)]) hc dX8_mixedDoor_52 (by decide) rfl ?_
  refine rm_iload hc dX8_mixedDoor_54 rfl ?_
  refine rm_iload hc dX8_mixedDoor_56 rfl ?_
  refine rm_icmp_ge (tgt := 104) hc dX8_mixedDoor_58 (by decide) (fun h => absurd h (by decide)) (fun _ => ?_)
  refine rm_aload hc dX8_mixedDoor_61 rfl ?_
  refine rm_iload hc dX8_mixedDoor_63 rfl ?_
  refine rm_aald (t0 := 3) (i := 0) (v := .ref (ad 0 (d + 20) 0)) hc dX8_mixedDoor_65 (dm_5 (by omega) (by omega) (by omega)) rfl rfl (by omega) (by decide) rfl rfl ?_
  refine rm_astore (ls' := [(0, .ref (ad 8 9 0)), (1, .long a), (3, .ref (ad 0 4 d)), (4, .long r_32), (6, .ref (ad 0 5 d)), (7, .int 4), (8, .int 0), (9, .ref (ad 0 (d + 20) 0))]) hc dX8_mixedDoor_66 (by decide) rfl ?_
  refine rm_iconst (v := 0) hc dX8_mixedDoor_68 (by decide) ?_
  refine rm_istore (ls' := [(0, .ref (ad 8 9 0)), (1, .long a), (3, .ref (ad 0 4 d)), (4, .long r_32), (6, .ref (ad 0 5 d)), (7, .int 4), (8, .int 0), (9, .ref (ad 0 (d + 20) 0)), (10, .int 0)]) hc dX8_mixedDoor_69 (by decide) rfl ?_
  refine rm_iload hc dX8_mixedDoor_71 rfl ?_
  refine rm_iconst (v := 4) hc dX8_mixedDoor_73 (by decide) ?_
  refine rm_icmp_ge (tgt := 98) hc dX8_mixedDoor_74 (by decide) (fun h => absurd h (by decide)) (fun _ => ?_)
  refine rm_lload hc dX8_mixedDoor_77 rfl ?_
  refine rm_aload hc dX8_mixedDoor_79 rfl ?_
  refine rm_iload hc dX8_mixedDoor_81 rfl ?_
  refine rm_calliV (As := [.int 0]) (rest := [.long r_32]) hc dX8_mixedDoor_83 (c_X5_look hI x (k := 0) (d := d) (s0 := 0) (by omega) (by omega) (by omega) (by omega) 0) mv_X8_168 (dm_s (d := d) (by omega) (by omega) (by omega) (by omega)) rfl rfl (hn := rfl) (hst := rfl) (hw := Nat.le_of_ble_eq_true rfl) (hR := ⟨⟨rfl, rfl⟩, Nat.le_of_ble_eq_true rfl, Nat.le_of_ble_eq_true rfl⟩) (hnc := ⟨Nat.zero_le _, Nat.zero_le _⟩) (fun r_36 y_36 h_36 => ?_)
  obtain ⟨e_36, ey_36⟩ := h_36
  obtain rfl := ey_36.symm
  refine rm_i2l hc dX8_mixedDoor_86 (fun v_37 e_37 => ?_)
  refine rm_calllS (As := [.long r_32, .long v_37]) (rest := []) hc dX8_mixedDoor_87 (c_X8_mixed hI x r_32 v_37) ms_X8_202 (hn := rfl) (hst := rfl) (hw := Nat.le_of_ble_eq_true rfl) (hR := ⟨⟨rfl, rfl⟩, Nat.le_of_ble_eq_true rfl, Nat.le_of_ble_eq_true rfl⟩) (hnc := ⟨Nat.zero_le _, Nat.zero_le _⟩) (fun r_38 y_38 h_38 => ?_)
  obtain ⟨e_38, ey_38⟩ := h_38
  obtain rfl := ey_38.symm
  refine rm_lstore (ls' := [(0, .ref (ad 8 9 0)), (1, .long a), (3, .ref (ad 0 4 d)), (4, .long r_38), (6, .ref (ad 0 5 d)), (7, .int 4), (8, .int 0), (9, .ref (ad 0 (d + 20) 0)), (10, .int 0)]) hc dX8_mixedDoor_90 (by decide) rfl ?_
  refine rm_iinc (v := 1) (ls' := [(0, .ref (ad 8 9 0)), (1, .long a), (3, .ref (ad 0 4 d)), (4, .long r_38), (6, .ref (ad 0 5 d)), (7, .int 4), (8, .int 0), (9, .ref (ad 0 (d + 20) 0)), (10, .int 1)]) hc dX8_mixedDoor_92 rfl (by decide) (by decide) rfl ?_
  refine rm_goto (tgt := 71) hc dX8_mixedDoor_95 (by decide) ?_
  refine rm_iload hc dX8_mixedDoor_71 rfl ?_
  refine rm_iconst (v := 4) hc dX8_mixedDoor_73 (by decide) ?_
  refine rm_icmp_ge (tgt := 98) hc dX8_mixedDoor_74 (by decide) (fun h => absurd h (by decide)) (fun _ => ?_)
  refine rm_lload hc dX8_mixedDoor_77 rfl ?_
  refine rm_aload hc dX8_mixedDoor_79 rfl ?_
  refine rm_iload hc dX8_mixedDoor_81 rfl ?_
  refine rm_calliV (As := [.int 1]) (rest := [.long r_38]) hc dX8_mixedDoor_83 (c_X5_look hI x (k := 0) (d := d) (s0 := 0) (by omega) (by omega) (by omega) (by omega) 1) mv_X8_168 (dm_s (d := d) (by omega) (by omega) (by omega) (by omega)) rfl rfl (hn := rfl) (hst := rfl) (hw := Nat.le_of_ble_eq_true rfl) (hR := ⟨⟨rfl, rfl⟩, Nat.le_of_ble_eq_true rfl, Nat.le_of_ble_eq_true rfl⟩) (hnc := ⟨Nat.zero_le _, Nat.zero_le _⟩) (fun r_40 y_40 h_40 => ?_)
  obtain ⟨e_40, ey_40⟩ := h_40
  obtain rfl := ey_40.symm
  refine rm_i2l hc dX8_mixedDoor_86 (fun v_41 e_41 => ?_)
  refine rm_calllS (As := [.long r_38, .long v_41]) (rest := []) hc dX8_mixedDoor_87 (c_X8_mixed hI x r_38 v_41) ms_X8_202 (hn := rfl) (hst := rfl) (hw := Nat.le_of_ble_eq_true rfl) (hR := ⟨⟨rfl, rfl⟩, Nat.le_of_ble_eq_true rfl, Nat.le_of_ble_eq_true rfl⟩) (hnc := ⟨Nat.zero_le _, Nat.zero_le _⟩) (fun r_42 y_42 h_42 => ?_)
  obtain ⟨e_42, ey_42⟩ := h_42
  obtain rfl := ey_42.symm
  refine rm_lstore (ls' := [(0, .ref (ad 8 9 0)), (1, .long a), (3, .ref (ad 0 4 d)), (4, .long r_42), (6, .ref (ad 0 5 d)), (7, .int 4), (8, .int 0), (9, .ref (ad 0 (d + 20) 0)), (10, .int 1)]) hc dX8_mixedDoor_90 (by decide) rfl ?_
  refine rm_iinc (v := 2) (ls' := [(0, .ref (ad 8 9 0)), (1, .long a), (3, .ref (ad 0 4 d)), (4, .long r_42), (6, .ref (ad 0 5 d)), (7, .int 4), (8, .int 0), (9, .ref (ad 0 (d + 20) 0)), (10, .int 2)]) hc dX8_mixedDoor_92 rfl (by decide) (by decide) rfl ?_
  refine rm_goto (tgt := 71) hc dX8_mixedDoor_95 (by decide) ?_
  refine rm_iload hc dX8_mixedDoor_71 rfl ?_
  refine rm_iconst (v := 4) hc dX8_mixedDoor_73 (by decide) ?_
  refine rm_icmp_ge (tgt := 98) hc dX8_mixedDoor_74 (by decide) (fun h => absurd h (by decide)) (fun _ => ?_)
  refine rm_lload hc dX8_mixedDoor_77 rfl ?_
  refine rm_aload hc dX8_mixedDoor_79 rfl ?_
  refine rm_iload hc dX8_mixedDoor_81 rfl ?_
  refine rm_calliV (As := [.int 2]) (rest := [.long r_42]) hc dX8_mixedDoor_83 (c_X5_look hI x (k := 0) (d := d) (s0 := 0) (by omega) (by omega) (by omega) (by omega) 2) mv_X8_168 (dm_s (d := d) (by omega) (by omega) (by omega) (by omega)) rfl rfl (hn := rfl) (hst := rfl) (hw := Nat.le_of_ble_eq_true rfl) (hR := ⟨⟨rfl, rfl⟩, Nat.le_of_ble_eq_true rfl, Nat.le_of_ble_eq_true rfl⟩) (hnc := ⟨Nat.zero_le _, Nat.zero_le _⟩) (fun r_44 y_44 h_44 => ?_)
  obtain ⟨e_44, ey_44⟩ := h_44
  obtain rfl := ey_44.symm
  refine rm_i2l hc dX8_mixedDoor_86 (fun v_45 e_45 => ?_)
  refine rm_calllS (As := [.long r_42, .long v_45]) (rest := []) hc dX8_mixedDoor_87 (c_X8_mixed hI x r_42 v_45) ms_X8_202 (hn := rfl) (hst := rfl) (hw := Nat.le_of_ble_eq_true rfl) (hR := ⟨⟨rfl, rfl⟩, Nat.le_of_ble_eq_true rfl, Nat.le_of_ble_eq_true rfl⟩) (hnc := ⟨Nat.zero_le _, Nat.zero_le _⟩) (fun r_46 y_46 h_46 => ?_)
  obtain ⟨e_46, ey_46⟩ := h_46
  obtain rfl := ey_46.symm
  refine rm_lstore (ls' := [(0, .ref (ad 8 9 0)), (1, .long a), (3, .ref (ad 0 4 d)), (4, .long r_46), (6, .ref (ad 0 5 d)), (7, .int 4), (8, .int 0), (9, .ref (ad 0 (d + 20) 0)), (10, .int 2)]) hc dX8_mixedDoor_90 (by decide) rfl ?_
  refine rm_iinc (v := 3) (ls' := [(0, .ref (ad 8 9 0)), (1, .long a), (3, .ref (ad 0 4 d)), (4, .long r_46), (6, .ref (ad 0 5 d)), (7, .int 4), (8, .int 0), (9, .ref (ad 0 (d + 20) 0)), (10, .int 3)]) hc dX8_mixedDoor_92 rfl (by decide) (by decide) rfl ?_
  refine rm_goto (tgt := 71) hc dX8_mixedDoor_95 (by decide) ?_
  refine rm_iload hc dX8_mixedDoor_71 rfl ?_
  refine rm_iconst (v := 4) hc dX8_mixedDoor_73 (by decide) ?_
  refine rm_icmp_ge (tgt := 98) hc dX8_mixedDoor_74 (by decide) (fun h => absurd h (by decide)) (fun _ => ?_)
  refine rm_lload hc dX8_mixedDoor_77 rfl ?_
  refine rm_aload hc dX8_mixedDoor_79 rfl ?_
  refine rm_iload hc dX8_mixedDoor_81 rfl ?_
  refine rm_calliV (As := [.int 3]) (rest := [.long r_46]) hc dX8_mixedDoor_83 (c_X5_look hI x (k := 0) (d := d) (s0 := 0) (by omega) (by omega) (by omega) (by omega) 3) mv_X8_168 (dm_s (d := d) (by omega) (by omega) (by omega) (by omega)) rfl rfl (hn := rfl) (hst := rfl) (hw := Nat.le_of_ble_eq_true rfl) (hR := ⟨⟨rfl, rfl⟩, Nat.le_of_ble_eq_true rfl, Nat.le_of_ble_eq_true rfl⟩) (hnc := ⟨Nat.zero_le _, Nat.zero_le _⟩) (fun r_48 y_48 h_48 => ?_)
  obtain ⟨e_48, ey_48⟩ := h_48
  obtain rfl := ey_48.symm
  refine rm_i2l hc dX8_mixedDoor_86 (fun v_49 e_49 => ?_)
  refine rm_calllS (As := [.long r_46, .long v_49]) (rest := []) hc dX8_mixedDoor_87 (c_X8_mixed hI x r_46 v_49) ms_X8_202 (hn := rfl) (hst := rfl) (hw := Nat.le_of_ble_eq_true rfl) (hR := ⟨⟨rfl, rfl⟩, Nat.le_of_ble_eq_true rfl, Nat.le_of_ble_eq_true rfl⟩) (hnc := ⟨Nat.zero_le _, Nat.zero_le _⟩) (fun r_50 y_50 h_50 => ?_)
  obtain ⟨e_50, ey_50⟩ := h_50
  obtain rfl := ey_50.symm
  refine rm_lstore (ls' := [(0, .ref (ad 8 9 0)), (1, .long a), (3, .ref (ad 0 4 d)), (4, .long r_50), (6, .ref (ad 0 5 d)), (7, .int 4), (8, .int 0), (9, .ref (ad 0 (d + 20) 0)), (10, .int 3)]) hc dX8_mixedDoor_90 (by decide) rfl ?_
  refine rm_iinc (v := 4) (ls' := [(0, .ref (ad 8 9 0)), (1, .long a), (3, .ref (ad 0 4 d)), (4, .long r_50), (6, .ref (ad 0 5 d)), (7, .int 4), (8, .int 0), (9, .ref (ad 0 (d + 20) 0)), (10, .int 4)]) hc dX8_mixedDoor_92 rfl (by decide) (by decide) rfl ?_
  refine rm_goto (tgt := 71) hc dX8_mixedDoor_95 (by decide) ?_
  refine rm_iload hc dX8_mixedDoor_71 rfl ?_
  refine rm_iconst (v := 4) hc dX8_mixedDoor_73 (by decide) ?_
  refine rm_icmp_ge (tgt := 98) hc dX8_mixedDoor_74 (by decide) (fun _ => ?_) (fun h => absurd (by decide) h)
  refine rm_iinc (v := 1) (ls' := [(0, .ref (ad 8 9 0)), (1, .long a), (3, .ref (ad 0 4 d)), (4, .long r_50), (6, .ref (ad 0 5 d)), (7, .int 4), (8, .int 1), (9, .ref (ad 0 (d + 20) 0)), (10, .int 4)]) hc dX8_mixedDoor_98 rfl (by decide) (by decide) rfl ?_
  refine rm_goto (tgt := 54) hc dX8_mixedDoor_101 (by decide) ?_
  refine rm_iload hc dX8_mixedDoor_54 rfl ?_
  refine rm_iload hc dX8_mixedDoor_56 rfl ?_
  refine rm_icmp_ge (tgt := 104) hc dX8_mixedDoor_58 (by decide) (fun h => absurd h (by decide)) (fun _ => ?_)
  refine rm_aload hc dX8_mixedDoor_61 rfl ?_
  refine rm_iload hc dX8_mixedDoor_63 rfl ?_
  refine rm_aald (t0 := 3) (i := 1) (v := .ref (ad 0 (d + 20) 1)) hc dX8_mixedDoor_65 (dm_5 (by omega) (by omega) (by omega)) rfl rfl (by omega) (by decide) rfl rfl ?_
  refine rm_astore (ls' := [(0, .ref (ad 8 9 0)), (1, .long a), (3, .ref (ad 0 4 d)), (4, .long r_50), (6, .ref (ad 0 5 d)), (7, .int 4), (8, .int 1), (9, .ref (ad 0 (d + 20) 1)), (10, .int 4)]) hc dX8_mixedDoor_66 (by decide) rfl ?_
  refine rm_iconst (v := 0) hc dX8_mixedDoor_68 (by decide) ?_
  refine rm_istore (ls' := [(0, .ref (ad 8 9 0)), (1, .long a), (3, .ref (ad 0 4 d)), (4, .long r_50), (6, .ref (ad 0 5 d)), (7, .int 4), (8, .int 1), (9, .ref (ad 0 (d + 20) 1)), (10, .int 0)]) hc dX8_mixedDoor_69 (by decide) rfl ?_
  refine rm_iload hc dX8_mixedDoor_71 rfl ?_
  refine rm_iconst (v := 4) hc dX8_mixedDoor_73 (by decide) ?_
  refine rm_icmp_ge (tgt := 98) hc dX8_mixedDoor_74 (by decide) (fun h => absurd h (by decide)) (fun _ => ?_)
  refine rm_lload hc dX8_mixedDoor_77 rfl ?_
  refine rm_aload hc dX8_mixedDoor_79 rfl ?_
  refine rm_iload hc dX8_mixedDoor_81 rfl ?_
  refine rm_calliV (As := [.int 0]) (rest := [.long r_50]) hc dX8_mixedDoor_83 (c_X5_look hI x (k := 0) (d := d) (s0 := 1) (by omega) (by omega) (by omega) (by omega) 0) mv_X8_168 (dm_s (d := d) (by omega) (by omega) (by omega) (by omega)) rfl rfl (hn := rfl) (hst := rfl) (hw := Nat.le_of_ble_eq_true rfl) (hR := ⟨⟨rfl, rfl⟩, Nat.le_of_ble_eq_true rfl, Nat.le_of_ble_eq_true rfl⟩) (hnc := ⟨Nat.zero_le _, Nat.zero_le _⟩) (fun r_54 y_54 h_54 => ?_)
  obtain ⟨e_54, ey_54⟩ := h_54
  obtain rfl := ey_54.symm
  refine rm_i2l hc dX8_mixedDoor_86 (fun v_55 e_55 => ?_)
  refine rm_calllS (As := [.long r_50, .long v_55]) (rest := []) hc dX8_mixedDoor_87 (c_X8_mixed hI x r_50 v_55) ms_X8_202 (hn := rfl) (hst := rfl) (hw := Nat.le_of_ble_eq_true rfl) (hR := ⟨⟨rfl, rfl⟩, Nat.le_of_ble_eq_true rfl, Nat.le_of_ble_eq_true rfl⟩) (hnc := ⟨Nat.zero_le _, Nat.zero_le _⟩) (fun r_56 y_56 h_56 => ?_)
  obtain ⟨e_56, ey_56⟩ := h_56
  obtain rfl := ey_56.symm
  refine rm_lstore (ls' := [(0, .ref (ad 8 9 0)), (1, .long a), (3, .ref (ad 0 4 d)), (4, .long r_56), (6, .ref (ad 0 5 d)), (7, .int 4), (8, .int 1), (9, .ref (ad 0 (d + 20) 1)), (10, .int 0)]) hc dX8_mixedDoor_90 (by decide) rfl ?_
  refine rm_iinc (v := 1) (ls' := [(0, .ref (ad 8 9 0)), (1, .long a), (3, .ref (ad 0 4 d)), (4, .long r_56), (6, .ref (ad 0 5 d)), (7, .int 4), (8, .int 1), (9, .ref (ad 0 (d + 20) 1)), (10, .int 1)]) hc dX8_mixedDoor_92 rfl (by decide) (by decide) rfl ?_
  refine rm_goto (tgt := 71) hc dX8_mixedDoor_95 (by decide) ?_
  refine rm_iload hc dX8_mixedDoor_71 rfl ?_
  refine rm_iconst (v := 4) hc dX8_mixedDoor_73 (by decide) ?_
  refine rm_icmp_ge (tgt := 98) hc dX8_mixedDoor_74 (by decide) (fun h => absurd h (by decide)) (fun _ => ?_)
  refine rm_lload hc dX8_mixedDoor_77 rfl ?_
  refine rm_aload hc dX8_mixedDoor_79 rfl ?_
  refine rm_iload hc dX8_mixedDoor_81 rfl ?_
  refine rm_calliV (As := [.int 1]) (rest := [.long r_56]) hc dX8_mixedDoor_83 (c_X5_look hI x (k := 0) (d := d) (s0 := 1) (by omega) (by omega) (by omega) (by omega) 1) mv_X8_168 (dm_s (d := d) (by omega) (by omega) (by omega) (by omega)) rfl rfl (hn := rfl) (hst := rfl) (hw := Nat.le_of_ble_eq_true rfl) (hR := ⟨⟨rfl, rfl⟩, Nat.le_of_ble_eq_true rfl, Nat.le_of_ble_eq_true rfl⟩) (hnc := ⟨Nat.zero_le _, Nat.zero_le _⟩) (fun r_58 y_58 h_58 => ?_)
  obtain ⟨e_58, ey_58⟩ := h_58
  obtain rfl := ey_58.symm
  refine rm_i2l hc dX8_mixedDoor_86 (fun v_59 e_59 => ?_)
  refine rm_calllS (As := [.long r_56, .long v_59]) (rest := []) hc dX8_mixedDoor_87 (c_X8_mixed hI x r_56 v_59) ms_X8_202 (hn := rfl) (hst := rfl) (hw := Nat.le_of_ble_eq_true rfl) (hR := ⟨⟨rfl, rfl⟩, Nat.le_of_ble_eq_true rfl, Nat.le_of_ble_eq_true rfl⟩) (hnc := ⟨Nat.zero_le _, Nat.zero_le _⟩) (fun r_60 y_60 h_60 => ?_)
  obtain ⟨e_60, ey_60⟩ := h_60
  obtain rfl := ey_60.symm
  refine rm_lstore (ls' := [(0, .ref (ad 8 9 0)), (1, .long a), (3, .ref (ad 0 4 d)), (4, .long r_60), (6, .ref (ad 0 5 d)), (7, .int 4), (8, .int 1), (9, .ref (ad 0 (d + 20) 1)), (10, .int 1)]) hc dX8_mixedDoor_90 (by decide) rfl ?_
  refine rm_iinc (v := 2) (ls' := [(0, .ref (ad 8 9 0)), (1, .long a), (3, .ref (ad 0 4 d)), (4, .long r_60), (6, .ref (ad 0 5 d)), (7, .int 4), (8, .int 1), (9, .ref (ad 0 (d + 20) 1)), (10, .int 2)]) hc dX8_mixedDoor_92 rfl (by decide) (by decide) rfl ?_
  refine rm_goto (tgt := 71) hc dX8_mixedDoor_95 (by decide) ?_
  refine rm_iload hc dX8_mixedDoor_71 rfl ?_
  refine rm_iconst (v := 4) hc dX8_mixedDoor_73 (by decide) ?_
  refine rm_icmp_ge (tgt := 98) hc dX8_mixedDoor_74 (by decide) (fun h => absurd h (by decide)) (fun _ => ?_)
  refine rm_lload hc dX8_mixedDoor_77 rfl ?_
  refine rm_aload hc dX8_mixedDoor_79 rfl ?_
  refine rm_iload hc dX8_mixedDoor_81 rfl ?_
  refine rm_calliV (As := [.int 2]) (rest := [.long r_60]) hc dX8_mixedDoor_83 (c_X5_look hI x (k := 0) (d := d) (s0 := 1) (by omega) (by omega) (by omega) (by omega) 2) mv_X8_168 (dm_s (d := d) (by omega) (by omega) (by omega) (by omega)) rfl rfl (hn := rfl) (hst := rfl) (hw := Nat.le_of_ble_eq_true rfl) (hR := ⟨⟨rfl, rfl⟩, Nat.le_of_ble_eq_true rfl, Nat.le_of_ble_eq_true rfl⟩) (hnc := ⟨Nat.zero_le _, Nat.zero_le _⟩) (fun r_62 y_62 h_62 => ?_)
  obtain ⟨e_62, ey_62⟩ := h_62
  obtain rfl := ey_62.symm
  refine rm_i2l hc dX8_mixedDoor_86 (fun v_63 e_63 => ?_)
  refine rm_calllS (As := [.long r_60, .long v_63]) (rest := []) hc dX8_mixedDoor_87 (c_X8_mixed hI x r_60 v_63) ms_X8_202 (hn := rfl) (hst := rfl) (hw := Nat.le_of_ble_eq_true rfl) (hR := ⟨⟨rfl, rfl⟩, Nat.le_of_ble_eq_true rfl, Nat.le_of_ble_eq_true rfl⟩) (hnc := ⟨Nat.zero_le _, Nat.zero_le _⟩) (fun r_64 y_64 h_64 => ?_)
  obtain ⟨e_64, ey_64⟩ := h_64
  obtain rfl := ey_64.symm
  refine rm_lstore (ls' := [(0, .ref (ad 8 9 0)), (1, .long a), (3, .ref (ad 0 4 d)), (4, .long r_64), (6, .ref (ad 0 5 d)), (7, .int 4), (8, .int 1), (9, .ref (ad 0 (d + 20) 1)), (10, .int 2)]) hc dX8_mixedDoor_90 (by decide) rfl ?_
  refine rm_iinc (v := 3) (ls' := [(0, .ref (ad 8 9 0)), (1, .long a), (3, .ref (ad 0 4 d)), (4, .long r_64), (6, .ref (ad 0 5 d)), (7, .int 4), (8, .int 1), (9, .ref (ad 0 (d + 20) 1)), (10, .int 3)]) hc dX8_mixedDoor_92 rfl (by decide) (by decide) rfl ?_
  refine rm_goto (tgt := 71) hc dX8_mixedDoor_95 (by decide) ?_
  refine rm_iload hc dX8_mixedDoor_71 rfl ?_
  refine rm_iconst (v := 4) hc dX8_mixedDoor_73 (by decide) ?_
  refine rm_icmp_ge (tgt := 98) hc dX8_mixedDoor_74 (by decide) (fun h => absurd h (by decide)) (fun _ => ?_)
  refine rm_lload hc dX8_mixedDoor_77 rfl ?_
  refine rm_aload hc dX8_mixedDoor_79 rfl ?_
  refine rm_iload hc dX8_mixedDoor_81 rfl ?_
  refine rm_calliV (As := [.int 3]) (rest := [.long r_64]) hc dX8_mixedDoor_83 (c_X5_look hI x (k := 0) (d := d) (s0 := 1) (by omega) (by omega) (by omega) (by omega) 3) mv_X8_168 (dm_s (d := d) (by omega) (by omega) (by omega) (by omega)) rfl rfl (hn := rfl) (hst := rfl) (hw := Nat.le_of_ble_eq_true rfl) (hR := ⟨⟨rfl, rfl⟩, Nat.le_of_ble_eq_true rfl, Nat.le_of_ble_eq_true rfl⟩) (hnc := ⟨Nat.zero_le _, Nat.zero_le _⟩) (fun r_66 y_66 h_66 => ?_)
  obtain ⟨e_66, ey_66⟩ := h_66
  obtain rfl := ey_66.symm
  refine rm_i2l hc dX8_mixedDoor_86 (fun v_67 e_67 => ?_)
  refine rm_calllS (As := [.long r_64, .long v_67]) (rest := []) hc dX8_mixedDoor_87 (c_X8_mixed hI x r_64 v_67) ms_X8_202 (hn := rfl) (hst := rfl) (hw := Nat.le_of_ble_eq_true rfl) (hR := ⟨⟨rfl, rfl⟩, Nat.le_of_ble_eq_true rfl, Nat.le_of_ble_eq_true rfl⟩) (hnc := ⟨Nat.zero_le _, Nat.zero_le _⟩) (fun r_68 y_68 h_68 => ?_)
  obtain ⟨e_68, ey_68⟩ := h_68
  obtain rfl := ey_68.symm
  refine rm_lstore (ls' := [(0, .ref (ad 8 9 0)), (1, .long a), (3, .ref (ad 0 4 d)), (4, .long r_68), (6, .ref (ad 0 5 d)), (7, .int 4), (8, .int 1), (9, .ref (ad 0 (d + 20) 1)), (10, .int 3)]) hc dX8_mixedDoor_90 (by decide) rfl ?_
  refine rm_iinc (v := 4) (ls' := [(0, .ref (ad 8 9 0)), (1, .long a), (3, .ref (ad 0 4 d)), (4, .long r_68), (6, .ref (ad 0 5 d)), (7, .int 4), (8, .int 1), (9, .ref (ad 0 (d + 20) 1)), (10, .int 4)]) hc dX8_mixedDoor_92 rfl (by decide) (by decide) rfl ?_
  refine rm_goto (tgt := 71) hc dX8_mixedDoor_95 (by decide) ?_
  refine rm_iload hc dX8_mixedDoor_71 rfl ?_
  refine rm_iconst (v := 4) hc dX8_mixedDoor_73 (by decide) ?_
  refine rm_icmp_ge (tgt := 98) hc dX8_mixedDoor_74 (by decide) (fun _ => ?_) (fun h => absurd (by decide) h)
  refine rm_iinc (v := 2) (ls' := [(0, .ref (ad 8 9 0)), (1, .long a), (3, .ref (ad 0 4 d)), (4, .long r_68), (6, .ref (ad 0 5 d)), (7, .int 4), (8, .int 2), (9, .ref (ad 0 (d + 20) 1)), (10, .int 4)]) hc dX8_mixedDoor_98 rfl (by decide) (by decide) rfl ?_
  refine rm_goto (tgt := 54) hc dX8_mixedDoor_101 (by decide) ?_
  refine rm_iload hc dX8_mixedDoor_54 rfl ?_
  refine rm_iload hc dX8_mixedDoor_56 rfl ?_
  refine rm_icmp_ge (tgt := 104) hc dX8_mixedDoor_58 (by decide) (fun h => absurd h (by decide)) (fun _ => ?_)
  refine rm_aload hc dX8_mixedDoor_61 rfl ?_
  refine rm_iload hc dX8_mixedDoor_63 rfl ?_
  refine rm_aald (t0 := 3) (i := 2) (v := .ref (ad 0 (d + 20) 2)) hc dX8_mixedDoor_65 (dm_5 (by omega) (by omega) (by omega)) rfl rfl (by omega) (by decide) rfl rfl ?_
  refine rm_astore (ls' := [(0, .ref (ad 8 9 0)), (1, .long a), (3, .ref (ad 0 4 d)), (4, .long r_68), (6, .ref (ad 0 5 d)), (7, .int 4), (8, .int 2), (9, .ref (ad 0 (d + 20) 2)), (10, .int 4)]) hc dX8_mixedDoor_66 (by decide) rfl ?_
  refine rm_iconst (v := 0) hc dX8_mixedDoor_68 (by decide) ?_
  refine rm_istore (ls' := [(0, .ref (ad 8 9 0)), (1, .long a), (3, .ref (ad 0 4 d)), (4, .long r_68), (6, .ref (ad 0 5 d)), (7, .int 4), (8, .int 2), (9, .ref (ad 0 (d + 20) 2)), (10, .int 0)]) hc dX8_mixedDoor_69 (by decide) rfl ?_
  refine rm_iload hc dX8_mixedDoor_71 rfl ?_
  refine rm_iconst (v := 4) hc dX8_mixedDoor_73 (by decide) ?_
  refine rm_icmp_ge (tgt := 98) hc dX8_mixedDoor_74 (by decide) (fun h => absurd h (by decide)) (fun _ => ?_)
  refine rm_lload hc dX8_mixedDoor_77 rfl ?_
  refine rm_aload hc dX8_mixedDoor_79 rfl ?_
  refine rm_iload hc dX8_mixedDoor_81 rfl ?_
  refine rm_calliV (As := [.int 0]) (rest := [.long r_68]) hc dX8_mixedDoor_83 (c_X5_look hI x (k := 0) (d := d) (s0 := 2) (by omega) (by omega) (by omega) (by omega) 0) mv_X8_168 (dm_s (d := d) (by omega) (by omega) (by omega) (by omega)) rfl rfl (hn := rfl) (hst := rfl) (hw := Nat.le_of_ble_eq_true rfl) (hR := ⟨⟨rfl, rfl⟩, Nat.le_of_ble_eq_true rfl, Nat.le_of_ble_eq_true rfl⟩) (hnc := ⟨Nat.zero_le _, Nat.zero_le _⟩) (fun r_72 y_72 h_72 => ?_)
  obtain ⟨e_72, ey_72⟩ := h_72
  obtain rfl := ey_72.symm
  refine rm_i2l hc dX8_mixedDoor_86 (fun v_73 e_73 => ?_)
  refine rm_calllS (As := [.long r_68, .long v_73]) (rest := []) hc dX8_mixedDoor_87 (c_X8_mixed hI x r_68 v_73) ms_X8_202 (hn := rfl) (hst := rfl) (hw := Nat.le_of_ble_eq_true rfl) (hR := ⟨⟨rfl, rfl⟩, Nat.le_of_ble_eq_true rfl, Nat.le_of_ble_eq_true rfl⟩) (hnc := ⟨Nat.zero_le _, Nat.zero_le _⟩) (fun r_74 y_74 h_74 => ?_)
  obtain ⟨e_74, ey_74⟩ := h_74
  obtain rfl := ey_74.symm
  refine rm_lstore (ls' := [(0, .ref (ad 8 9 0)), (1, .long a), (3, .ref (ad 0 4 d)), (4, .long r_74), (6, .ref (ad 0 5 d)), (7, .int 4), (8, .int 2), (9, .ref (ad 0 (d + 20) 2)), (10, .int 0)]) hc dX8_mixedDoor_90 (by decide) rfl ?_
  refine rm_iinc (v := 1) (ls' := [(0, .ref (ad 8 9 0)), (1, .long a), (3, .ref (ad 0 4 d)), (4, .long r_74), (6, .ref (ad 0 5 d)), (7, .int 4), (8, .int 2), (9, .ref (ad 0 (d + 20) 2)), (10, .int 1)]) hc dX8_mixedDoor_92 rfl (by decide) (by decide) rfl ?_
  refine rm_goto (tgt := 71) hc dX8_mixedDoor_95 (by decide) ?_
  refine rm_iload hc dX8_mixedDoor_71 rfl ?_
  refine rm_iconst (v := 4) hc dX8_mixedDoor_73 (by decide) ?_
  refine rm_icmp_ge (tgt := 98) hc dX8_mixedDoor_74 (by decide) (fun h => absurd h (by decide)) (fun _ => ?_)
  refine rm_lload hc dX8_mixedDoor_77 rfl ?_
  refine rm_aload hc dX8_mixedDoor_79 rfl ?_
  refine rm_iload hc dX8_mixedDoor_81 rfl ?_
  refine rm_calliV (As := [.int 1]) (rest := [.long r_74]) hc dX8_mixedDoor_83 (c_X5_look hI x (k := 0) (d := d) (s0 := 2) (by omega) (by omega) (by omega) (by omega) 1) mv_X8_168 (dm_s (d := d) (by omega) (by omega) (by omega) (by omega)) rfl rfl (hn := rfl) (hst := rfl) (hw := Nat.le_of_ble_eq_true rfl) (hR := ⟨⟨rfl, rfl⟩, Nat.le_of_ble_eq_true rfl, Nat.le_of_ble_eq_true rfl⟩) (hnc := ⟨Nat.zero_le _, Nat.zero_le _⟩) (fun r_76 y_76 h_76 => ?_)
  obtain ⟨e_76, ey_76⟩ := h_76
  obtain rfl := ey_76.symm
  refine rm_i2l hc dX8_mixedDoor_86 (fun v_77 e_77 => ?_)
  refine rm_calllS (As := [.long r_74, .long v_77]) (rest := []) hc dX8_mixedDoor_87 (c_X8_mixed hI x r_74 v_77) ms_X8_202 (hn := rfl) (hst := rfl) (hw := Nat.le_of_ble_eq_true rfl) (hR := ⟨⟨rfl, rfl⟩, Nat.le_of_ble_eq_true rfl, Nat.le_of_ble_eq_true rfl⟩) (hnc := ⟨Nat.zero_le _, Nat.zero_le _⟩) (fun r_78 y_78 h_78 => ?_)
  obtain ⟨e_78, ey_78⟩ := h_78
  obtain rfl := ey_78.symm
  refine rm_lstore (ls' := [(0, .ref (ad 8 9 0)), (1, .long a), (3, .ref (ad 0 4 d)), (4, .long r_78), (6, .ref (ad 0 5 d)), (7, .int 4), (8, .int 2), (9, .ref (ad 0 (d + 20) 2)), (10, .int 1)]) hc dX8_mixedDoor_90 (by decide) rfl ?_
  refine rm_iinc (v := 2) (ls' := [(0, .ref (ad 8 9 0)), (1, .long a), (3, .ref (ad 0 4 d)), (4, .long r_78), (6, .ref (ad 0 5 d)), (7, .int 4), (8, .int 2), (9, .ref (ad 0 (d + 20) 2)), (10, .int 2)]) hc dX8_mixedDoor_92 rfl (by decide) (by decide) rfl ?_
  refine rm_goto (tgt := 71) hc dX8_mixedDoor_95 (by decide) ?_
  refine rm_iload hc dX8_mixedDoor_71 rfl ?_
  refine rm_iconst (v := 4) hc dX8_mixedDoor_73 (by decide) ?_
  refine rm_icmp_ge (tgt := 98) hc dX8_mixedDoor_74 (by decide) (fun h => absurd h (by decide)) (fun _ => ?_)
  refine rm_lload hc dX8_mixedDoor_77 rfl ?_
  refine rm_aload hc dX8_mixedDoor_79 rfl ?_
  refine rm_iload hc dX8_mixedDoor_81 rfl ?_
  refine rm_calliV (As := [.int 2]) (rest := [.long r_78]) hc dX8_mixedDoor_83 (c_X5_look hI x (k := 0) (d := d) (s0 := 2) (by omega) (by omega) (by omega) (by omega) 2) mv_X8_168 (dm_s (d := d) (by omega) (by omega) (by omega) (by omega)) rfl rfl (hn := rfl) (hst := rfl) (hw := Nat.le_of_ble_eq_true rfl) (hR := ⟨⟨rfl, rfl⟩, Nat.le_of_ble_eq_true rfl, Nat.le_of_ble_eq_true rfl⟩) (hnc := ⟨Nat.zero_le _, Nat.zero_le _⟩) (fun r_80 y_80 h_80 => ?_)
  obtain ⟨e_80, ey_80⟩ := h_80
  obtain rfl := ey_80.symm
  refine rm_i2l hc dX8_mixedDoor_86 (fun v_81 e_81 => ?_)
  refine rm_calllS (As := [.long r_78, .long v_81]) (rest := []) hc dX8_mixedDoor_87 (c_X8_mixed hI x r_78 v_81) ms_X8_202 (hn := rfl) (hst := rfl) (hw := Nat.le_of_ble_eq_true rfl) (hR := ⟨⟨rfl, rfl⟩, Nat.le_of_ble_eq_true rfl, Nat.le_of_ble_eq_true rfl⟩) (hnc := ⟨Nat.zero_le _, Nat.zero_le _⟩) (fun r_82 y_82 h_82 => ?_)
  obtain ⟨e_82, ey_82⟩ := h_82
  obtain rfl := ey_82.symm
  refine rm_lstore (ls' := [(0, .ref (ad 8 9 0)), (1, .long a), (3, .ref (ad 0 4 d)), (4, .long r_82), (6, .ref (ad 0 5 d)), (7, .int 4), (8, .int 2), (9, .ref (ad 0 (d + 20) 2)), (10, .int 2)]) hc dX8_mixedDoor_90 (by decide) rfl ?_
  refine rm_iinc (v := 3) (ls' := [(0, .ref (ad 8 9 0)), (1, .long a), (3, .ref (ad 0 4 d)), (4, .long r_82), (6, .ref (ad 0 5 d)), (7, .int 4), (8, .int 2), (9, .ref (ad 0 (d + 20) 2)), (10, .int 3)]) hc dX8_mixedDoor_92 rfl (by decide) (by decide) rfl ?_
  refine rm_goto (tgt := 71) hc dX8_mixedDoor_95 (by decide) ?_
  refine rm_iload hc dX8_mixedDoor_71 rfl ?_
  refine rm_iconst (v := 4) hc dX8_mixedDoor_73 (by decide) ?_
  refine rm_icmp_ge (tgt := 98) hc dX8_mixedDoor_74 (by decide) (fun h => absurd h (by decide)) (fun _ => ?_)
  refine rm_lload hc dX8_mixedDoor_77 rfl ?_
  refine rm_aload hc dX8_mixedDoor_79 rfl ?_
  refine rm_iload hc dX8_mixedDoor_81 rfl ?_
  refine rm_calliV (As := [.int 3]) (rest := [.long r_82]) hc dX8_mixedDoor_83 (c_X5_look hI x (k := 0) (d := d) (s0 := 2) (by omega) (by omega) (by omega) (by omega) 3) mv_X8_168 (dm_s (d := d) (by omega) (by omega) (by omega) (by omega)) rfl rfl (hn := rfl) (hst := rfl) (hw := Nat.le_of_ble_eq_true rfl) (hR := ⟨⟨rfl, rfl⟩, Nat.le_of_ble_eq_true rfl, Nat.le_of_ble_eq_true rfl⟩) (hnc := ⟨Nat.zero_le _, Nat.zero_le _⟩) (fun r_84 y_84 h_84 => ?_)
  obtain ⟨e_84, ey_84⟩ := h_84
  obtain rfl := ey_84.symm
  refine rm_i2l hc dX8_mixedDoor_86 (fun v_85 e_85 => ?_)
  refine rm_calllS (As := [.long r_82, .long v_85]) (rest := []) hc dX8_mixedDoor_87 (c_X8_mixed hI x r_82 v_85) ms_X8_202 (hn := rfl) (hst := rfl) (hw := Nat.le_of_ble_eq_true rfl) (hR := ⟨⟨rfl, rfl⟩, Nat.le_of_ble_eq_true rfl, Nat.le_of_ble_eq_true rfl⟩) (hnc := ⟨Nat.zero_le _, Nat.zero_le _⟩) (fun r_86 y_86 h_86 => ?_)
  obtain ⟨e_86, ey_86⟩ := h_86
  obtain rfl := ey_86.symm
  refine rm_lstore (ls' := [(0, .ref (ad 8 9 0)), (1, .long a), (3, .ref (ad 0 4 d)), (4, .long r_86), (6, .ref (ad 0 5 d)), (7, .int 4), (8, .int 2), (9, .ref (ad 0 (d + 20) 2)), (10, .int 3)]) hc dX8_mixedDoor_90 (by decide) rfl ?_
  refine rm_iinc (v := 4) (ls' := [(0, .ref (ad 8 9 0)), (1, .long a), (3, .ref (ad 0 4 d)), (4, .long r_86), (6, .ref (ad 0 5 d)), (7, .int 4), (8, .int 2), (9, .ref (ad 0 (d + 20) 2)), (10, .int 4)]) hc dX8_mixedDoor_92 rfl (by decide) (by decide) rfl ?_
  refine rm_goto (tgt := 71) hc dX8_mixedDoor_95 (by decide) ?_
  refine rm_iload hc dX8_mixedDoor_71 rfl ?_
  refine rm_iconst (v := 4) hc dX8_mixedDoor_73 (by decide) ?_
  refine rm_icmp_ge (tgt := 98) hc dX8_mixedDoor_74 (by decide) (fun _ => ?_) (fun h => absurd (by decide) h)
  refine rm_iinc (v := 3) (ls' := [(0, .ref (ad 8 9 0)), (1, .long a), (3, .ref (ad 0 4 d)), (4, .long r_86), (6, .ref (ad 0 5 d)), (7, .int 4), (8, .int 3), (9, .ref (ad 0 (d + 20) 2)), (10, .int 4)]) hc dX8_mixedDoor_98 rfl (by decide) (by decide) rfl ?_
  refine rm_goto (tgt := 54) hc dX8_mixedDoor_101 (by decide) ?_
  refine rm_iload hc dX8_mixedDoor_54 rfl ?_
  refine rm_iload hc dX8_mixedDoor_56 rfl ?_
  refine rm_icmp_ge (tgt := 104) hc dX8_mixedDoor_58 (by decide) (fun h => absurd h (by decide)) (fun _ => ?_)
  refine rm_aload hc dX8_mixedDoor_61 rfl ?_
  refine rm_iload hc dX8_mixedDoor_63 rfl ?_
  refine rm_aald (t0 := 3) (i := 3) (v := .ref (ad 0 (d + 20) 3)) hc dX8_mixedDoor_65 (dm_5 (by omega) (by omega) (by omega)) rfl rfl (by omega) (by decide) rfl rfl ?_
  refine rm_astore (ls' := [(0, .ref (ad 8 9 0)), (1, .long a), (3, .ref (ad 0 4 d)), (4, .long r_86), (6, .ref (ad 0 5 d)), (7, .int 4), (8, .int 3), (9, .ref (ad 0 (d + 20) 3)), (10, .int 4)]) hc dX8_mixedDoor_66 (by decide) rfl ?_
  refine rm_iconst (v := 0) hc dX8_mixedDoor_68 (by decide) ?_
  refine rm_istore (ls' := [(0, .ref (ad 8 9 0)), (1, .long a), (3, .ref (ad 0 4 d)), (4, .long r_86), (6, .ref (ad 0 5 d)), (7, .int 4), (8, .int 3), (9, .ref (ad 0 (d + 20) 3)), (10, .int 0)]) hc dX8_mixedDoor_69 (by decide) rfl ?_
  refine rm_iload hc dX8_mixedDoor_71 rfl ?_
  refine rm_iconst (v := 4) hc dX8_mixedDoor_73 (by decide) ?_
  refine rm_icmp_ge (tgt := 98) hc dX8_mixedDoor_74 (by decide) (fun h => absurd h (by decide)) (fun _ => ?_)
  refine rm_lload hc dX8_mixedDoor_77 rfl ?_
  refine rm_aload hc dX8_mixedDoor_79 rfl ?_
  refine rm_iload hc dX8_mixedDoor_81 rfl ?_
  refine rm_calliV (As := [.int 0]) (rest := [.long r_86]) hc dX8_mixedDoor_83 (c_X5_look hI x (k := 0) (d := d) (s0 := 3) (by omega) (by omega) (by omega) (by omega) 0) mv_X8_168 (dm_s (d := d) (by omega) (by omega) (by omega) (by omega)) rfl rfl (hn := rfl) (hst := rfl) (hw := Nat.le_of_ble_eq_true rfl) (hR := ⟨⟨rfl, rfl⟩, Nat.le_of_ble_eq_true rfl, Nat.le_of_ble_eq_true rfl⟩) (hnc := ⟨Nat.zero_le _, Nat.zero_le _⟩) (fun r_90 y_90 h_90 => ?_)
  obtain ⟨e_90, ey_90⟩ := h_90
  obtain rfl := ey_90.symm
  refine rm_i2l hc dX8_mixedDoor_86 (fun v_91 e_91 => ?_)
  refine rm_calllS (As := [.long r_86, .long v_91]) (rest := []) hc dX8_mixedDoor_87 (c_X8_mixed hI x r_86 v_91) ms_X8_202 (hn := rfl) (hst := rfl) (hw := Nat.le_of_ble_eq_true rfl) (hR := ⟨⟨rfl, rfl⟩, Nat.le_of_ble_eq_true rfl, Nat.le_of_ble_eq_true rfl⟩) (hnc := ⟨Nat.zero_le _, Nat.zero_le _⟩) (fun r_92 y_92 h_92 => ?_)
  obtain ⟨e_92, ey_92⟩ := h_92
  obtain rfl := ey_92.symm
  refine rm_lstore (ls' := [(0, .ref (ad 8 9 0)), (1, .long a), (3, .ref (ad 0 4 d)), (4, .long r_92), (6, .ref (ad 0 5 d)), (7, .int 4), (8, .int 3), (9, .ref (ad 0 (d + 20) 3)), (10, .int 0)]) hc dX8_mixedDoor_90 (by decide) rfl ?_
  refine rm_iinc (v := 1) (ls' := [(0, .ref (ad 8 9 0)), (1, .long a), (3, .ref (ad 0 4 d)), (4, .long r_92), (6, .ref (ad 0 5 d)), (7, .int 4), (8, .int 3), (9, .ref (ad 0 (d + 20) 3)), (10, .int 1)]) hc dX8_mixedDoor_92 rfl (by decide) (by decide) rfl ?_
  refine rm_goto (tgt := 71) hc dX8_mixedDoor_95 (by decide) ?_
  refine rm_iload hc dX8_mixedDoor_71 rfl ?_
  refine rm_iconst (v := 4) hc dX8_mixedDoor_73 (by decide) ?_
  refine rm_icmp_ge (tgt := 98) hc dX8_mixedDoor_74 (by decide) (fun h => absurd h (by decide)) (fun _ => ?_)
  refine rm_lload hc dX8_mixedDoor_77 rfl ?_
  refine rm_aload hc dX8_mixedDoor_79 rfl ?_
  refine rm_iload hc dX8_mixedDoor_81 rfl ?_
  refine rm_calliV (As := [.int 1]) (rest := [.long r_92]) hc dX8_mixedDoor_83 (c_X5_look hI x (k := 0) (d := d) (s0 := 3) (by omega) (by omega) (by omega) (by omega) 1) mv_X8_168 (dm_s (d := d) (by omega) (by omega) (by omega) (by omega)) rfl rfl (hn := rfl) (hst := rfl) (hw := Nat.le_of_ble_eq_true rfl) (hR := ⟨⟨rfl, rfl⟩, Nat.le_of_ble_eq_true rfl, Nat.le_of_ble_eq_true rfl⟩) (hnc := ⟨Nat.zero_le _, Nat.zero_le _⟩) (fun r_94 y_94 h_94 => ?_)
  obtain ⟨e_94, ey_94⟩ := h_94
  obtain rfl := ey_94.symm
  refine rm_i2l hc dX8_mixedDoor_86 (fun v_95 e_95 => ?_)
  refine rm_calllS (As := [.long r_92, .long v_95]) (rest := []) hc dX8_mixedDoor_87 (c_X8_mixed hI x r_92 v_95) ms_X8_202 (hn := rfl) (hst := rfl) (hw := Nat.le_of_ble_eq_true rfl) (hR := ⟨⟨rfl, rfl⟩, Nat.le_of_ble_eq_true rfl, Nat.le_of_ble_eq_true rfl⟩) (hnc := ⟨Nat.zero_le _, Nat.zero_le _⟩) (fun r_96 y_96 h_96 => ?_)
  obtain ⟨e_96, ey_96⟩ := h_96
  obtain rfl := ey_96.symm
  refine rm_lstore (ls' := [(0, .ref (ad 8 9 0)), (1, .long a), (3, .ref (ad 0 4 d)), (4, .long r_96), (6, .ref (ad 0 5 d)), (7, .int 4), (8, .int 3), (9, .ref (ad 0 (d + 20) 3)), (10, .int 1)]) hc dX8_mixedDoor_90 (by decide) rfl ?_
  refine rm_iinc (v := 2) (ls' := [(0, .ref (ad 8 9 0)), (1, .long a), (3, .ref (ad 0 4 d)), (4, .long r_96), (6, .ref (ad 0 5 d)), (7, .int 4), (8, .int 3), (9, .ref (ad 0 (d + 20) 3)), (10, .int 2)]) hc dX8_mixedDoor_92 rfl (by decide) (by decide) rfl ?_
  refine rm_goto (tgt := 71) hc dX8_mixedDoor_95 (by decide) ?_
  refine rm_iload hc dX8_mixedDoor_71 rfl ?_
  refine rm_iconst (v := 4) hc dX8_mixedDoor_73 (by decide) ?_
  refine rm_icmp_ge (tgt := 98) hc dX8_mixedDoor_74 (by decide) (fun h => absurd h (by decide)) (fun _ => ?_)
  refine rm_lload hc dX8_mixedDoor_77 rfl ?_
  refine rm_aload hc dX8_mixedDoor_79 rfl ?_
  refine rm_iload hc dX8_mixedDoor_81 rfl ?_
  refine rm_calliV (As := [.int 2]) (rest := [.long r_96]) hc dX8_mixedDoor_83 (c_X5_look hI x (k := 0) (d := d) (s0 := 3) (by omega) (by omega) (by omega) (by omega) 2) mv_X8_168 (dm_s (d := d) (by omega) (by omega) (by omega) (by omega)) rfl rfl (hn := rfl) (hst := rfl) (hw := Nat.le_of_ble_eq_true rfl) (hR := ⟨⟨rfl, rfl⟩, Nat.le_of_ble_eq_true rfl, Nat.le_of_ble_eq_true rfl⟩) (hnc := ⟨Nat.zero_le _, Nat.zero_le _⟩) (fun r_98 y_98 h_98 => ?_)
  obtain ⟨e_98, ey_98⟩ := h_98
  obtain rfl := ey_98.symm
  refine rm_i2l hc dX8_mixedDoor_86 (fun v_99 e_99 => ?_)
  refine rm_calllS (As := [.long r_96, .long v_99]) (rest := []) hc dX8_mixedDoor_87 (c_X8_mixed hI x r_96 v_99) ms_X8_202 (hn := rfl) (hst := rfl) (hw := Nat.le_of_ble_eq_true rfl) (hR := ⟨⟨rfl, rfl⟩, Nat.le_of_ble_eq_true rfl, Nat.le_of_ble_eq_true rfl⟩) (hnc := ⟨Nat.zero_le _, Nat.zero_le _⟩) (fun r_100 y_100 h_100 => ?_)
  obtain ⟨e_100, ey_100⟩ := h_100
  obtain rfl := ey_100.symm
  refine rm_lstore (ls' := [(0, .ref (ad 8 9 0)), (1, .long a), (3, .ref (ad 0 4 d)), (4, .long r_100), (6, .ref (ad 0 5 d)), (7, .int 4), (8, .int 3), (9, .ref (ad 0 (d + 20) 3)), (10, .int 2)]) hc dX8_mixedDoor_90 (by decide) rfl ?_
  refine rm_iinc (v := 3) (ls' := [(0, .ref (ad 8 9 0)), (1, .long a), (3, .ref (ad 0 4 d)), (4, .long r_100), (6, .ref (ad 0 5 d)), (7, .int 4), (8, .int 3), (9, .ref (ad 0 (d + 20) 3)), (10, .int 3)]) hc dX8_mixedDoor_92 rfl (by decide) (by decide) rfl ?_
  refine rm_goto (tgt := 71) hc dX8_mixedDoor_95 (by decide) ?_
  refine rm_iload hc dX8_mixedDoor_71 rfl ?_
  refine rm_iconst (v := 4) hc dX8_mixedDoor_73 (by decide) ?_
  refine rm_icmp_ge (tgt := 98) hc dX8_mixedDoor_74 (by decide) (fun h => absurd h (by decide)) (fun _ => ?_)
  refine rm_lload hc dX8_mixedDoor_77 rfl ?_
  refine rm_aload hc dX8_mixedDoor_79 rfl ?_
  refine rm_iload hc dX8_mixedDoor_81 rfl ?_
  refine rm_calliV (As := [.int 3]) (rest := [.long r_100]) hc dX8_mixedDoor_83 (c_X5_look hI x (k := 0) (d := d) (s0 := 3) (by omega) (by omega) (by omega) (by omega) 3) mv_X8_168 (dm_s (d := d) (by omega) (by omega) (by omega) (by omega)) rfl rfl (hn := rfl) (hst := rfl) (hw := Nat.le_of_ble_eq_true rfl) (hR := ⟨⟨rfl, rfl⟩, Nat.le_of_ble_eq_true rfl, Nat.le_of_ble_eq_true rfl⟩) (hnc := ⟨Nat.zero_le _, Nat.zero_le _⟩) (fun r_102 y_102 h_102 => ?_)
  obtain ⟨e_102, ey_102⟩ := h_102
  obtain rfl := ey_102.symm
  refine rm_i2l hc dX8_mixedDoor_86 (fun v_103 e_103 => ?_)
  refine rm_calllS (As := [.long r_100, .long v_103]) (rest := []) hc dX8_mixedDoor_87 (c_X8_mixed hI x r_100 v_103) ms_X8_202 (hn := rfl) (hst := rfl) (hw := Nat.le_of_ble_eq_true rfl) (hR := ⟨⟨rfl, rfl⟩, Nat.le_of_ble_eq_true rfl, Nat.le_of_ble_eq_true rfl⟩) (hnc := ⟨Nat.zero_le _, Nat.zero_le _⟩) (fun r_104 y_104 h_104 => ?_)
  obtain ⟨e_104, ey_104⟩ := h_104
  obtain rfl := ey_104.symm
  refine rm_lstore (ls' := [(0, .ref (ad 8 9 0)), (1, .long a), (3, .ref (ad 0 4 d)), (4, .long r_104), (6, .ref (ad 0 5 d)), (7, .int 4), (8, .int 3), (9, .ref (ad 0 (d + 20) 3)), (10, .int 3)]) hc dX8_mixedDoor_90 (by decide) rfl ?_
  refine rm_iinc (v := 4) (ls' := [(0, .ref (ad 8 9 0)), (1, .long a), (3, .ref (ad 0 4 d)), (4, .long r_104), (6, .ref (ad 0 5 d)), (7, .int 4), (8, .int 3), (9, .ref (ad 0 (d + 20) 3)), (10, .int 4)]) hc dX8_mixedDoor_92 rfl (by decide) (by decide) rfl ?_
  refine rm_goto (tgt := 71) hc dX8_mixedDoor_95 (by decide) ?_
  refine rm_iload hc dX8_mixedDoor_71 rfl ?_
  refine rm_iconst (v := 4) hc dX8_mixedDoor_73 (by decide) ?_
  refine rm_icmp_ge (tgt := 98) hc dX8_mixedDoor_74 (by decide) (fun _ => ?_) (fun h => absurd (by decide) h)
  refine rm_iinc (v := 4) (ls' := [(0, .ref (ad 8 9 0)), (1, .long a), (3, .ref (ad 0 4 d)), (4, .long r_104), (6, .ref (ad 0 5 d)), (7, .int 4), (8, .int 4), (9, .ref (ad 0 (d + 20) 3)), (10, .int 4)]) hc dX8_mixedDoor_98 rfl (by decide) (by decide) rfl ?_
  refine rm_goto (tgt := 54) hc dX8_mixedDoor_101 (by decide) ?_
  refine rm_iload hc dX8_mixedDoor_54 rfl ?_
  refine rm_iload hc dX8_mixedDoor_56 rfl ?_
  refine rm_icmp_ge (tgt := 104) hc dX8_mixedDoor_58 (by decide) (fun _ => ?_) (fun h => absurd (by decide) h)
  refine rm_lload hc dX8_mixedDoor_104 rfl ?_
  refine rm_aload_n hc dX8_mixedDoor_106 rfl rfl ?_
  refine rm_aload_n hc dX8_mixedDoor_107 rfl rfl ?_
  refine rm_calliV (As := [.ref (ad 0 4 d)]) (rest := [.long r_104]) hc dX8_mixedDoor_108 (c_X8_firstUseful hI x (d := d) (nr := nr) (by omega) mm (by omega) (((E7.rf x).at (by omega)).trans hw) ((E7.rf x).flg (by omega) hF) (((E7.rf x).at (by omega)).trans hnr) (by omega)) mv_X8_190 dm_9 rfl rfl (hn := rfl) (hst := rfl) (hw := Nat.le_of_ble_eq_true rfl) (hR := ⟨⟨rfl, rfl⟩, Nat.le_of_ble_eq_true rfl, Nat.le_of_ble_eq_true rfl⟩) (hnc := ⟨Nat.zero_le _, Nat.zero_le _⟩) (fun r_107 y_107 h_107 => ?_)
  obtain ⟨e_107, ey_107⟩ := h_107
  replace e_107 : r_107 = fusS x d mm nr 0 := e_107.trans (fus_congr (E7.rf x) _ _)
  have hE_107 : E7 x y_107 := (E7.rf x).tr ey_107
  refine rm_i2l hc dX8_mixedDoor_111 (fun v_108 e_108 => ?_)
  refine rm_calllS (As := [.long r_104, .long v_108]) (rest := []) hc dX8_mixedDoor_112 (c_X8_mixed hI y_107 r_104 v_108) ms_X8_202 (hn := rfl) (hst := rfl) (hw := Nat.le_of_ble_eq_true rfl) (hR := ⟨⟨rfl, rfl⟩, Nat.le_of_ble_eq_true rfl, Nat.le_of_ble_eq_true rfl⟩) (hnc := ⟨Nat.zero_le _, Nat.zero_le _⟩) (fun r_109 y_109 h_109 => ?_)
  obtain ⟨e_109, ey_109⟩ := h_109
  obtain rfl := ey_109.symm
  refine rm_lstore (ls' := [(0, .ref (ad 8 9 0)), (1, .long a), (3, .ref (ad 0 4 d)), (4, .long r_109), (6, .ref (ad 0 5 d)), (7, .int 4), (8, .int 4), (9, .ref (ad 0 (d + 20) 3)), (10, .int 4)]) hc dX8_mixedDoor_115 (by decide) rfl ?_
  refine rm_aload_n hc dX8_mixedDoor_117 rfl rfl ?_
  refine rm_get hc dX8_mixedDoor_118 fl_X8_10 dm_9 rfl rfl ?_
  refine rm_get hc dX8_mixedDoor_121 fl_X8_49 (dm_0 (by omega)) rfl rfl ?_
  refine rm_astore (ls' := [(0, .ref (ad 8 9 0)), (1, .long a), (3, .ref (ad 0 4 d)), (4, .long r_109), (6, .ref (ad 0 1 0)), (7, .int 4), (8, .int 4), (9, .ref (ad 0 (d + 20) 3)), (10, .int 4)]) hc dX8_mixedDoor_124 (by decide) rfl ?_
  refine rm_aload hc dX8_mixedDoor_126 rfl ?_
  refine rm_alen (n := 0) (t0 := 1) (v := 4) hc dX8_mixedDoor_128 (dm_1 (by omega)) rfl rfl rfl ?_
  refine rm_istore (ls' := [(0, .ref (ad 8 9 0)), (1, .long a), (3, .ref (ad 0 4 d)), (4, .long r_109), (6, .ref (ad 0 1 0)), (7, .int 4), (8, .int 4), (9, .ref (ad 0 (d + 20) 3)), (10, .int 4)]) hc dX8_mixedDoor_129 (by decide) rfl ?_
  refine rm_iconst (v := 0) hc dX8_mixedDoor_131 (by decide) ?_
  refine rm_istore (ls' := [(0, .ref (ad 8 9 0)), (1, .long a), (3, .ref (ad 0 4 d)), (4, .long r_109), (6, .ref (ad 0 1 0)), (7, .int 4), (8, .int 0), (9, .ref (ad 0 (d + 20) 3)), (10, .int 4)]) hc dX8_mixedDoor_132 (by decide) rfl ?_
  refine rm_iload hc dX8_mixedDoor_134 rfl ?_
  refine rm_iload hc dX8_mixedDoor_136 rfl ?_
  refine rm_icmp_ge (tgt := 184) hc dX8_mixedDoor_138 (by decide) (fun h => absurd h (by decide)) (fun _ => ?_)
  refine rm_aload hc dX8_mixedDoor_141 rfl ?_
  refine rm_iload hc dX8_mixedDoor_143 rfl ?_
  refine rm_aald (t0 := 1) (i := 0) (v := .ref (ad 0 2 0)) hc dX8_mixedDoor_145 (dm_1 (by omega)) rfl rfl (by omega) (by decide) rfl rfl ?_
  refine rm_astore (ls' := [(0, .ref (ad 8 9 0)), (1, .long a), (3, .ref (ad 0 4 d)), (4, .long r_109), (6, .ref (ad 0 1 0)), (7, .int 4), (8, .int 0), (9, .ref (ad 0 2 0)), (10, .int 4)]) hc dX8_mixedDoor_146 (by decide) rfl ?_
  refine rm_lload hc dX8_mixedDoor_148 rfl ?_
  refine rm_aload_n hc dX8_mixedDoor_150 rfl rfl ?_
  refine rm_aload hc dX8_mixedDoor_151 rfl ?_
  refine rm_aload_n hc dX8_mixedDoor_153 rfl rfl ?_
  refine rm_calliV (As := [.ref (ad 0 2 0), .ref (ad 0 4 d)]) (rest := [.long r_109]) hc dX8_mixedDoor_154 (c_X8_pressesToOpen hI y_107 (j := 0) (d := d) (nb := nb 0) (by omega) (by omega) mm (by omega) ((hE_107.at (by omega)).trans hw) (hE_107.flg (by omega) hF) ((hE_107.at (by omega)).trans (hnb 0 (by omega))) (hb9 0 (by omega))) mv_X8_183 dm_9 rfl rfl (hn := rfl) (hst := rfl) (hw := Nat.le_of_ble_eq_true rfl) (hR := ⟨⟨rfl, rfl⟩, Nat.le_of_ble_eq_true rfl, Nat.le_of_ble_eq_true rfl⟩) (hnc := ⟨Nat.zero_le _, Nat.zero_le _⟩) (fun r_111 y_111 h_111 => ?_)
  obtain ⟨e_111, ey_111⟩ := h_111
  replace e_111 : r_111 = ptoX x 0 d mm (nb 0) := e_111.trans hE_107.pto
  have hE_111 : E7 x y_111 := hE_107.tr ey_111
  refine rm_i2l hc dX8_mixedDoor_157 (fun v_112 e_112 => ?_)
  refine rm_calllS (As := [.long r_109, .long v_112]) (rest := []) hc dX8_mixedDoor_158 (c_X8_mixed hI y_111 r_109 v_112) ms_X8_202 (hn := rfl) (hst := rfl) (hw := Nat.le_of_ble_eq_true rfl) (hR := ⟨⟨rfl, rfl⟩, Nat.le_of_ble_eq_true rfl, Nat.le_of_ble_eq_true rfl⟩) (hnc := ⟨Nat.zero_le _, Nat.zero_le _⟩) (fun r_113 y_113 h_113 => ?_)
  obtain ⟨e_113, ey_113⟩ := h_113
  obtain rfl := ey_113.symm
  refine rm_lstore (ls' := [(0, .ref (ad 8 9 0)), (1, .long a), (3, .ref (ad 0 4 d)), (4, .long r_113), (6, .ref (ad 0 1 0)), (7, .int 4), (8, .int 0), (9, .ref (ad 0 2 0)), (10, .int 4)]) hc dX8_mixedDoor_161 (by decide) rfl ?_
  refine rm_lload hc dX8_mixedDoor_163 rfl ?_
  refine rm_aload_n hc dX8_mixedDoor_165 rfl rfl ?_
  refine rm_aload hc dX8_mixedDoor_166 rfl ?_
  refine rm_aload_n hc dX8_mixedDoor_168 rfl rfl ?_
  refine rm_calliV (As := [.ref (ad 0 2 0), .ref (ad 0 4 d)]) (rest := [.long r_113]) hc dX8_mixedDoor_169 (c_X8_mostUnheard hI y_111 (j := 0) (d := d) (by omega) (by omega) mm (by omega) ((hE_111.at (by omega)).trans hw) (hE_111.flg (by omega) hF)) mv_X8_187 dm_9 rfl rfl (hn := rfl) (hst := rfl) (hw := Nat.le_of_ble_eq_true rfl) (hR := ⟨⟨rfl, rfl⟩, Nat.le_of_ble_eq_true rfl, Nat.le_of_ble_eq_true rfl⟩) (hnc := ⟨Nat.zero_le _, Nat.zero_le _⟩) (fun r_114 y_114 h_114 => ?_)
  obtain ⟨e_114, ey_114⟩ := h_114
  replace e_114 : r_114 = munX x 0 d mm := e_114.trans hE_111.mun
  have hE_114 : E7 x y_114 := hE_111.tr ey_114
  refine rm_i2l hc dX8_mixedDoor_172 (fun v_115 e_115 => ?_)
  refine rm_calllS (As := [.long r_113, .long v_115]) (rest := []) hc dX8_mixedDoor_173 (c_X8_mixed hI y_114 r_113 v_115) ms_X8_202 (hn := rfl) (hst := rfl) (hw := Nat.le_of_ble_eq_true rfl) (hR := ⟨⟨rfl, rfl⟩, Nat.le_of_ble_eq_true rfl, Nat.le_of_ble_eq_true rfl⟩) (hnc := ⟨Nat.zero_le _, Nat.zero_le _⟩) (fun r_116 y_116 h_116 => ?_)
  obtain ⟨e_116, ey_116⟩ := h_116
  obtain rfl := ey_116.symm
  refine rm_lstore (ls' := [(0, .ref (ad 8 9 0)), (1, .long a), (3, .ref (ad 0 4 d)), (4, .long r_116), (6, .ref (ad 0 1 0)), (7, .int 4), (8, .int 0), (9, .ref (ad 0 2 0)), (10, .int 4)]) hc dX8_mixedDoor_176 (by decide) rfl ?_
  refine rm_iinc (v := 1) (ls' := [(0, .ref (ad 8 9 0)), (1, .long a), (3, .ref (ad 0 4 d)), (4, .long r_116), (6, .ref (ad 0 1 0)), (7, .int 4), (8, .int 1), (9, .ref (ad 0 2 0)), (10, .int 4)]) hc dX8_mixedDoor_178 rfl (by decide) (by decide) rfl ?_
  refine rm_goto (tgt := 134) hc dX8_mixedDoor_181 (by decide) ?_
  refine rm_iload hc dX8_mixedDoor_134 rfl ?_
  refine rm_iload hc dX8_mixedDoor_136 rfl ?_
  refine rm_icmp_ge (tgt := 184) hc dX8_mixedDoor_138 (by decide) (fun h => absurd h (by decide)) (fun _ => ?_)
  refine rm_aload hc dX8_mixedDoor_141 rfl ?_
  refine rm_iload hc dX8_mixedDoor_143 rfl ?_
  refine rm_aald (t0 := 1) (i := 1) (v := .ref (ad 0 2 1)) hc dX8_mixedDoor_145 (dm_1 (by omega)) rfl rfl (by omega) (by decide) rfl rfl ?_
  refine rm_astore (ls' := [(0, .ref (ad 8 9 0)), (1, .long a), (3, .ref (ad 0 4 d)), (4, .long r_116), (6, .ref (ad 0 1 0)), (7, .int 4), (8, .int 1), (9, .ref (ad 0 2 1)), (10, .int 4)]) hc dX8_mixedDoor_146 (by decide) rfl ?_
  refine rm_lload hc dX8_mixedDoor_148 rfl ?_
  refine rm_aload_n hc dX8_mixedDoor_150 rfl rfl ?_
  refine rm_aload hc dX8_mixedDoor_151 rfl ?_
  refine rm_aload_n hc dX8_mixedDoor_153 rfl rfl ?_
  refine rm_calliV (As := [.ref (ad 0 2 1), .ref (ad 0 4 d)]) (rest := [.long r_116]) hc dX8_mixedDoor_154 (c_X8_pressesToOpen hI y_114 (j := 1) (d := d) (nb := nb 1) (by omega) (by omega) mm (by omega) ((hE_114.at (by omega)).trans hw) (hE_114.flg (by omega) hF) ((hE_114.at (by omega)).trans (hnb 1 (by omega))) (hb9 1 (by omega))) mv_X8_183 dm_9 rfl rfl (hn := rfl) (hst := rfl) (hw := Nat.le_of_ble_eq_true rfl) (hR := ⟨⟨rfl, rfl⟩, Nat.le_of_ble_eq_true rfl, Nat.le_of_ble_eq_true rfl⟩) (hnc := ⟨Nat.zero_le _, Nat.zero_le _⟩) (fun r_118 y_118 h_118 => ?_)
  obtain ⟨e_118, ey_118⟩ := h_118
  replace e_118 : r_118 = ptoX x 1 d mm (nb 1) := e_118.trans hE_114.pto
  have hE_118 : E7 x y_118 := hE_114.tr ey_118
  refine rm_i2l hc dX8_mixedDoor_157 (fun v_119 e_119 => ?_)
  refine rm_calllS (As := [.long r_116, .long v_119]) (rest := []) hc dX8_mixedDoor_158 (c_X8_mixed hI y_118 r_116 v_119) ms_X8_202 (hn := rfl) (hst := rfl) (hw := Nat.le_of_ble_eq_true rfl) (hR := ⟨⟨rfl, rfl⟩, Nat.le_of_ble_eq_true rfl, Nat.le_of_ble_eq_true rfl⟩) (hnc := ⟨Nat.zero_le _, Nat.zero_le _⟩) (fun r_120 y_120 h_120 => ?_)
  obtain ⟨e_120, ey_120⟩ := h_120
  obtain rfl := ey_120.symm
  refine rm_lstore (ls' := [(0, .ref (ad 8 9 0)), (1, .long a), (3, .ref (ad 0 4 d)), (4, .long r_120), (6, .ref (ad 0 1 0)), (7, .int 4), (8, .int 1), (9, .ref (ad 0 2 1)), (10, .int 4)]) hc dX8_mixedDoor_161 (by decide) rfl ?_
  refine rm_lload hc dX8_mixedDoor_163 rfl ?_
  refine rm_aload_n hc dX8_mixedDoor_165 rfl rfl ?_
  refine rm_aload hc dX8_mixedDoor_166 rfl ?_
  refine rm_aload_n hc dX8_mixedDoor_168 rfl rfl ?_
  refine rm_calliV (As := [.ref (ad 0 2 1), .ref (ad 0 4 d)]) (rest := [.long r_120]) hc dX8_mixedDoor_169 (c_X8_mostUnheard hI y_118 (j := 1) (d := d) (by omega) (by omega) mm (by omega) ((hE_118.at (by omega)).trans hw) (hE_118.flg (by omega) hF)) mv_X8_187 dm_9 rfl rfl (hn := rfl) (hst := rfl) (hw := Nat.le_of_ble_eq_true rfl) (hR := ⟨⟨rfl, rfl⟩, Nat.le_of_ble_eq_true rfl, Nat.le_of_ble_eq_true rfl⟩) (hnc := ⟨Nat.zero_le _, Nat.zero_le _⟩) (fun r_121 y_121 h_121 => ?_)
  obtain ⟨e_121, ey_121⟩ := h_121
  replace e_121 : r_121 = munX x 1 d mm := e_121.trans hE_118.mun
  have hE_121 : E7 x y_121 := hE_118.tr ey_121
  refine rm_i2l hc dX8_mixedDoor_172 (fun v_122 e_122 => ?_)
  refine rm_calllS (As := [.long r_120, .long v_122]) (rest := []) hc dX8_mixedDoor_173 (c_X8_mixed hI y_121 r_120 v_122) ms_X8_202 (hn := rfl) (hst := rfl) (hw := Nat.le_of_ble_eq_true rfl) (hR := ⟨⟨rfl, rfl⟩, Nat.le_of_ble_eq_true rfl, Nat.le_of_ble_eq_true rfl⟩) (hnc := ⟨Nat.zero_le _, Nat.zero_le _⟩) (fun r_123 y_123 h_123 => ?_)
  obtain ⟨e_123, ey_123⟩ := h_123
  obtain rfl := ey_123.symm
  refine rm_lstore (ls' := [(0, .ref (ad 8 9 0)), (1, .long a), (3, .ref (ad 0 4 d)), (4, .long r_123), (6, .ref (ad 0 1 0)), (7, .int 4), (8, .int 1), (9, .ref (ad 0 2 1)), (10, .int 4)]) hc dX8_mixedDoor_176 (by decide) rfl ?_
  refine rm_iinc (v := 2) (ls' := [(0, .ref (ad 8 9 0)), (1, .long a), (3, .ref (ad 0 4 d)), (4, .long r_123), (6, .ref (ad 0 1 0)), (7, .int 4), (8, .int 2), (9, .ref (ad 0 2 1)), (10, .int 4)]) hc dX8_mixedDoor_178 rfl (by decide) (by decide) rfl ?_
  refine rm_goto (tgt := 134) hc dX8_mixedDoor_181 (by decide) ?_
  refine rm_iload hc dX8_mixedDoor_134 rfl ?_
  refine rm_iload hc dX8_mixedDoor_136 rfl ?_
  refine rm_icmp_ge (tgt := 184) hc dX8_mixedDoor_138 (by decide) (fun h => absurd h (by decide)) (fun _ => ?_)
  refine rm_aload hc dX8_mixedDoor_141 rfl ?_
  refine rm_iload hc dX8_mixedDoor_143 rfl ?_
  refine rm_aald (t0 := 1) (i := 2) (v := .ref (ad 0 2 2)) hc dX8_mixedDoor_145 (dm_1 (by omega)) rfl rfl (by omega) (by decide) rfl rfl ?_
  refine rm_astore (ls' := [(0, .ref (ad 8 9 0)), (1, .long a), (3, .ref (ad 0 4 d)), (4, .long r_123), (6, .ref (ad 0 1 0)), (7, .int 4), (8, .int 2), (9, .ref (ad 0 2 2)), (10, .int 4)]) hc dX8_mixedDoor_146 (by decide) rfl ?_
  refine rm_lload hc dX8_mixedDoor_148 rfl ?_
  refine rm_aload_n hc dX8_mixedDoor_150 rfl rfl ?_
  refine rm_aload hc dX8_mixedDoor_151 rfl ?_
  refine rm_aload_n hc dX8_mixedDoor_153 rfl rfl ?_
  refine rm_calliV (As := [.ref (ad 0 2 2), .ref (ad 0 4 d)]) (rest := [.long r_123]) hc dX8_mixedDoor_154 (c_X8_pressesToOpen hI y_121 (j := 2) (d := d) (nb := nb 2) (by omega) (by omega) mm (by omega) ((hE_121.at (by omega)).trans hw) (hE_121.flg (by omega) hF) ((hE_121.at (by omega)).trans (hnb 2 (by omega))) (hb9 2 (by omega))) mv_X8_183 dm_9 rfl rfl (hn := rfl) (hst := rfl) (hw := Nat.le_of_ble_eq_true rfl) (hR := ⟨⟨rfl, rfl⟩, Nat.le_of_ble_eq_true rfl, Nat.le_of_ble_eq_true rfl⟩) (hnc := ⟨Nat.zero_le _, Nat.zero_le _⟩) (fun r_125 y_125 h_125 => ?_)
  obtain ⟨e_125, ey_125⟩ := h_125
  replace e_125 : r_125 = ptoX x 2 d mm (nb 2) := e_125.trans hE_121.pto
  have hE_125 : E7 x y_125 := hE_121.tr ey_125
  refine rm_i2l hc dX8_mixedDoor_157 (fun v_126 e_126 => ?_)
  refine rm_calllS (As := [.long r_123, .long v_126]) (rest := []) hc dX8_mixedDoor_158 (c_X8_mixed hI y_125 r_123 v_126) ms_X8_202 (hn := rfl) (hst := rfl) (hw := Nat.le_of_ble_eq_true rfl) (hR := ⟨⟨rfl, rfl⟩, Nat.le_of_ble_eq_true rfl, Nat.le_of_ble_eq_true rfl⟩) (hnc := ⟨Nat.zero_le _, Nat.zero_le _⟩) (fun r_127 y_127 h_127 => ?_)
  obtain ⟨e_127, ey_127⟩ := h_127
  obtain rfl := ey_127.symm
  refine rm_lstore (ls' := [(0, .ref (ad 8 9 0)), (1, .long a), (3, .ref (ad 0 4 d)), (4, .long r_127), (6, .ref (ad 0 1 0)), (7, .int 4), (8, .int 2), (9, .ref (ad 0 2 2)), (10, .int 4)]) hc dX8_mixedDoor_161 (by decide) rfl ?_
  refine rm_lload hc dX8_mixedDoor_163 rfl ?_
  refine rm_aload_n hc dX8_mixedDoor_165 rfl rfl ?_
  refine rm_aload hc dX8_mixedDoor_166 rfl ?_
  refine rm_aload_n hc dX8_mixedDoor_168 rfl rfl ?_
  refine rm_calliV (As := [.ref (ad 0 2 2), .ref (ad 0 4 d)]) (rest := [.long r_127]) hc dX8_mixedDoor_169 (c_X8_mostUnheard hI y_125 (j := 2) (d := d) (by omega) (by omega) mm (by omega) ((hE_125.at (by omega)).trans hw) (hE_125.flg (by omega) hF)) mv_X8_187 dm_9 rfl rfl (hn := rfl) (hst := rfl) (hw := Nat.le_of_ble_eq_true rfl) (hR := ⟨⟨rfl, rfl⟩, Nat.le_of_ble_eq_true rfl, Nat.le_of_ble_eq_true rfl⟩) (hnc := ⟨Nat.zero_le _, Nat.zero_le _⟩) (fun r_128 y_128 h_128 => ?_)
  obtain ⟨e_128, ey_128⟩ := h_128
  replace e_128 : r_128 = munX x 2 d mm := e_128.trans hE_125.mun
  have hE_128 : E7 x y_128 := hE_125.tr ey_128
  refine rm_i2l hc dX8_mixedDoor_172 (fun v_129 e_129 => ?_)
  refine rm_calllS (As := [.long r_127, .long v_129]) (rest := []) hc dX8_mixedDoor_173 (c_X8_mixed hI y_128 r_127 v_129) ms_X8_202 (hn := rfl) (hst := rfl) (hw := Nat.le_of_ble_eq_true rfl) (hR := ⟨⟨rfl, rfl⟩, Nat.le_of_ble_eq_true rfl, Nat.le_of_ble_eq_true rfl⟩) (hnc := ⟨Nat.zero_le _, Nat.zero_le _⟩) (fun r_130 y_130 h_130 => ?_)
  obtain ⟨e_130, ey_130⟩ := h_130
  obtain rfl := ey_130.symm
  refine rm_lstore (ls' := [(0, .ref (ad 8 9 0)), (1, .long a), (3, .ref (ad 0 4 d)), (4, .long r_130), (6, .ref (ad 0 1 0)), (7, .int 4), (8, .int 2), (9, .ref (ad 0 2 2)), (10, .int 4)]) hc dX8_mixedDoor_176 (by decide) rfl ?_
  refine rm_iinc (v := 3) (ls' := [(0, .ref (ad 8 9 0)), (1, .long a), (3, .ref (ad 0 4 d)), (4, .long r_130), (6, .ref (ad 0 1 0)), (7, .int 4), (8, .int 3), (9, .ref (ad 0 2 2)), (10, .int 4)]) hc dX8_mixedDoor_178 rfl (by decide) (by decide) rfl ?_
  refine rm_goto (tgt := 134) hc dX8_mixedDoor_181 (by decide) ?_
  refine rm_iload hc dX8_mixedDoor_134 rfl ?_
  refine rm_iload hc dX8_mixedDoor_136 rfl ?_
  refine rm_icmp_ge (tgt := 184) hc dX8_mixedDoor_138 (by decide) (fun h => absurd h (by decide)) (fun _ => ?_)
  refine rm_aload hc dX8_mixedDoor_141 rfl ?_
  refine rm_iload hc dX8_mixedDoor_143 rfl ?_
  refine rm_aald (t0 := 1) (i := 3) (v := .ref (ad 0 2 3)) hc dX8_mixedDoor_145 (dm_1 (by omega)) rfl rfl (by omega) (by decide) rfl rfl ?_
  refine rm_astore (ls' := [(0, .ref (ad 8 9 0)), (1, .long a), (3, .ref (ad 0 4 d)), (4, .long r_130), (6, .ref (ad 0 1 0)), (7, .int 4), (8, .int 3), (9, .ref (ad 0 2 3)), (10, .int 4)]) hc dX8_mixedDoor_146 (by decide) rfl ?_
  refine rm_lload hc dX8_mixedDoor_148 rfl ?_
  refine rm_aload_n hc dX8_mixedDoor_150 rfl rfl ?_
  refine rm_aload hc dX8_mixedDoor_151 rfl ?_
  refine rm_aload_n hc dX8_mixedDoor_153 rfl rfl ?_
  refine rm_calliV (As := [.ref (ad 0 2 3), .ref (ad 0 4 d)]) (rest := [.long r_130]) hc dX8_mixedDoor_154 (c_X8_pressesToOpen hI y_128 (j := 3) (d := d) (nb := nb 3) (by omega) (by omega) mm (by omega) ((hE_128.at (by omega)).trans hw) (hE_128.flg (by omega) hF) ((hE_128.at (by omega)).trans (hnb 3 (by omega))) (hb9 3 (by omega))) mv_X8_183 dm_9 rfl rfl (hn := rfl) (hst := rfl) (hw := Nat.le_of_ble_eq_true rfl) (hR := ⟨⟨rfl, rfl⟩, Nat.le_of_ble_eq_true rfl, Nat.le_of_ble_eq_true rfl⟩) (hnc := ⟨Nat.zero_le _, Nat.zero_le _⟩) (fun r_132 y_132 h_132 => ?_)
  obtain ⟨e_132, ey_132⟩ := h_132
  replace e_132 : r_132 = ptoX x 3 d mm (nb 3) := e_132.trans hE_128.pto
  have hE_132 : E7 x y_132 := hE_128.tr ey_132
  refine rm_i2l hc dX8_mixedDoor_157 (fun v_133 e_133 => ?_)
  refine rm_calllS (As := [.long r_130, .long v_133]) (rest := []) hc dX8_mixedDoor_158 (c_X8_mixed hI y_132 r_130 v_133) ms_X8_202 (hn := rfl) (hst := rfl) (hw := Nat.le_of_ble_eq_true rfl) (hR := ⟨⟨rfl, rfl⟩, Nat.le_of_ble_eq_true rfl, Nat.le_of_ble_eq_true rfl⟩) (hnc := ⟨Nat.zero_le _, Nat.zero_le _⟩) (fun r_134 y_134 h_134 => ?_)
  obtain ⟨e_134, ey_134⟩ := h_134
  obtain rfl := ey_134.symm
  refine rm_lstore (ls' := [(0, .ref (ad 8 9 0)), (1, .long a), (3, .ref (ad 0 4 d)), (4, .long r_134), (6, .ref (ad 0 1 0)), (7, .int 4), (8, .int 3), (9, .ref (ad 0 2 3)), (10, .int 4)]) hc dX8_mixedDoor_161 (by decide) rfl ?_
  refine rm_lload hc dX8_mixedDoor_163 rfl ?_
  refine rm_aload_n hc dX8_mixedDoor_165 rfl rfl ?_
  refine rm_aload hc dX8_mixedDoor_166 rfl ?_
  refine rm_aload_n hc dX8_mixedDoor_168 rfl rfl ?_
  refine rm_calliV (As := [.ref (ad 0 2 3), .ref (ad 0 4 d)]) (rest := [.long r_134]) hc dX8_mixedDoor_169 (c_X8_mostUnheard hI y_132 (j := 3) (d := d) (by omega) (by omega) mm (by omega) ((hE_132.at (by omega)).trans hw) (hE_132.flg (by omega) hF)) mv_X8_187 dm_9 rfl rfl (hn := rfl) (hst := rfl) (hw := Nat.le_of_ble_eq_true rfl) (hR := ⟨⟨rfl, rfl⟩, Nat.le_of_ble_eq_true rfl, Nat.le_of_ble_eq_true rfl⟩) (hnc := ⟨Nat.zero_le _, Nat.zero_le _⟩) (fun r_135 y_135 h_135 => ?_)
  obtain ⟨e_135, ey_135⟩ := h_135
  replace e_135 : r_135 = munX x 3 d mm := e_135.trans hE_132.mun
  have hE_135 : E7 x y_135 := hE_132.tr ey_135
  refine rm_i2l hc dX8_mixedDoor_172 (fun v_136 e_136 => ?_)
  refine rm_calllS (As := [.long r_134, .long v_136]) (rest := []) hc dX8_mixedDoor_173 (c_X8_mixed hI y_135 r_134 v_136) ms_X8_202 (hn := rfl) (hst := rfl) (hw := Nat.le_of_ble_eq_true rfl) (hR := ⟨⟨rfl, rfl⟩, Nat.le_of_ble_eq_true rfl, Nat.le_of_ble_eq_true rfl⟩) (hnc := ⟨Nat.zero_le _, Nat.zero_le _⟩) (fun r_137 y_137 h_137 => ?_)
  obtain ⟨e_137, ey_137⟩ := h_137
  obtain rfl := ey_137.symm
  refine rm_lstore (ls' := [(0, .ref (ad 8 9 0)), (1, .long a), (3, .ref (ad 0 4 d)), (4, .long r_137), (6, .ref (ad 0 1 0)), (7, .int 4), (8, .int 3), (9, .ref (ad 0 2 3)), (10, .int 4)]) hc dX8_mixedDoor_176 (by decide) rfl ?_
  refine rm_iinc (v := 4) (ls' := [(0, .ref (ad 8 9 0)), (1, .long a), (3, .ref (ad 0 4 d)), (4, .long r_137), (6, .ref (ad 0 1 0)), (7, .int 4), (8, .int 4), (9, .ref (ad 0 2 3)), (10, .int 4)]) hc dX8_mixedDoor_178 rfl (by decide) (by decide) rfl ?_
  refine rm_goto (tgt := 134) hc dX8_mixedDoor_181 (by decide) ?_
  refine rm_iload hc dX8_mixedDoor_134 rfl ?_
  refine rm_iload hc dX8_mixedDoor_136 rfl ?_
  refine rm_icmp_ge (tgt := 184) hc dX8_mixedDoor_138 (by decide) (fun _ => ?_) (fun h => absurd (by decide) h)
  refine rm_lload hc dX8_mixedDoor_184 rfl ?_
  exact rm_lret hc dX8_mixedDoor_186 ⟨by subst_vars; rfl, hE_135⟩
