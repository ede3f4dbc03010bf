theorem sv0' {x : Mem} {kq : Nat} : svM (up x 15 2 0) kq 10 = x 10 := sv0
abbrev rm_X9_make : Room := { frames := 2, cells := 0, slots := 0, locals := 45 }

abbrev rm_X9_battery : Room := { frames := 2, cells := 0, slots := 0, locals := 45 }

abbrev rm_X9_press : Room := { frames := 6, cells := 0, slots := 0, locals := 150 }

abbrev rm_X9_again : Room := { frames := 6, cells := 0, slots := 0, locals := 147 }

abbrev rm_X9_learn : Room := { frames := 3, cells := 0, slots := 0, locals := 63 }

abbrev rm_X9_forget : Room := { frames := 3, cells := 0, slots := 0, locals := 63 }

abbrev rm_X9_shut : Room := { frames := 2, cells := 0, slots := 0, locals := 45 }

abbrev rm_X9_unlock : Room := { frames := 2, cells := 0, slots := 0, locals := 45 }

abbrev rm_X9_set : Room := { frames := 2, cells := 0, slots := 0, locals := 45 }

abbrev rm_X9_append : Room := { frames := 1, cells := 0, slots := 0, locals := 22 }

abbrev rm_X9_clearBuffer : Room := { frames := 0, cells := 0, slots := 0, locals := 0 }

abbrev rm_X9_fob : Room := { frames := 3, cells := 0, slots := 0, locals := 64 }

abbrev rm_X9_slot : Room := { frames := 3, cells := 0, slots := 0, locals := 63 }

abbrev rm_X9_door : Room := { frames := 3, cells := 0, slots := 0, locals := 66 }

abbrev rm_X9_air : Room := { frames := 1, cells := 0, slots := 0, locals := 21 }

abbrev rm_X9_count : Room := { frames := 5, cells := 0, slots := 0, locals := 110 }

abbrev rm_X9_setting : Room := { frames := 1, cells := 0, slots := 0, locals := 22 }

abbrev rm_X9_ifHeard : Room := { frames := 3, cells := 0, slots := 0, locals := 72 }

abbrev rm_X9_opens : Room := { frames := 6, cells := 0, slots := 0, locals := 150 }

abbrev rm_X9_opensIn : Room := { frames := 7, cells := 0, slots := 0, locals := 173 }

abbrev rm_X9_misses : Room := { frames := 3, cells := 0, slots := 0, locals := 72 }

abbrev rm_X9_unheard : Room := { frames := 4, cells := 0, slots := 0, locals := 96 }

abbrev rm_X9_first : Room := { frames := 3, cells := 0, slots := 0, locals := 72 }

abbrev rm_X9_useful : Room := { frames := 4, cells := 0, slots := 0, locals := 94 }

abbrev rm_X9_undo : Room := { frames := 1, cells := 0, slots := 0, locals := 24 }

set_option maxHeartbeats 4000000 in
set_option maxRecDepth 100000 in
theorem c_X9_make_1 {l : Launch} {D : va_G} {cy : Nat → ClassId} {ad : Ads} (hI : IJ ad) (x : Mem) (p0 p1 p2 : Int32) (h0 : inM p0 0 3 = 0) : Cti l yX9_make cX9_make 4 (some .int) rm_X9_make D cy ad [.ref (ad 15 14 0), .int p0, .int p1, .int p2] x (fun r y => r = 0 ∧ y = TF x 1) := by
  refine rm_entry (Qc := Qi D cy ad (fun r y => r = 0 ∧ y = TF x 1)) hI (by decide) (Nat.le_of_ble_eq_true rfl) ?_
  intro p e s m args below meth c hc
  show RM _ _ _ _ _ _ _ _ _ _ _ _ _ _ _ _ _ [(0, .ref (ad 15 14 0)), (1, .int p0), (2, .int p1), (3, .int p2)] []
  refine rm_aload_n hc dX9_make_0 rfl rfl ?_
  refine rm_iconst (v := 0) hc dX9_make_1 (by decide) ?_
  refine rm_put hc dX9_make_2 fl_X9_25 dm_14 rfl (Nat.le_of_ble_eq_true rfl) ft_9_6 rfl rfl so_14_6 (rm_nm (fun x_1 ex_1 => ?_))
  refine rm_iload_n hc dX9_make_5 rfl rfl ?_
  refine rm_calliS (As := [.int p0]) (rest := []) hc dX9_make_6 (c_X9_isFob hI x_1 p0) ms_X9_92 (hn := rfl) (hst := rfl) (hw := Nat.le_of_ble_eq_true rfl) (hR := ⟨⟨rfl, rfl⟩, Nat.le_of_ble_eq_true rfl, Nat.le_of_ble_eq_true rfl⟩) (hnc := ⟨Nat.zero_le _, Nat.zero_le _⟩) (fun r_2 y_2 h_2 => ?_)
  obtain ⟨e_2, ey_2⟩ := h_2
  obtain rfl := ey_2.symm
  obtain rfl : r_2 = 0 := e_2.trans h0
  refine rm_if_ne (tgt := 18) hc dX9_make_9 (by decide) (fun h => absurd h (by decide)) (fun _ => ?_)
  refine rm_aload_n hc dX9_make_12 rfl rfl ?_
  refine rm_iconst (v := 1) hc dX9_make_13 (by decide) ?_
  refine rm_calliV (As := [.int 1]) (rest := []) hc dX9_make_14 (c_X9_fails hI x_1 1) mv_X9_44 dm_14 rfl rfl (hn := rfl) (hst := rfl) (hw := Nat.le_of_ble_eq_true rfl) (hR := ⟨⟨rfl, rfl⟩, Nat.le_of_ble_eq_true rfl, Nat.le_of_ble_eq_true rfl⟩) (hnc := ⟨Nat.zero_le _, Nat.zero_le _⟩) (fun r_4 y_4 h_4 => ?_)
  obtain ⟨e_4, ey_4⟩ := h_4
  exact rm_iret hc dX9_make_17 ⟨e_4, by subst_vars; rfl⟩

set_option maxHeartbeats 4000000 in
set_option maxRecDepth 100000 in
theorem c_X9_make_2 {l : Launch} {D : va_G} {cy : Nat → ClassId} {ad : Ads} (hI : IJ ad) (x : Mem) {j : Nat} (hj : j < 4) (p1 p2 : Int32) (h0 : inM p1 0 9999 = 0) : Cti l yX9_make cX9_make 4 (some .int) rm_X9_make D cy ad [.ref (ad 15 14 0), .int (nI (j)), .int p1, .int p2] x (fun r y => r = 0 ∧ y = TF x 2) := by
  refine rm_entry (Qc := Qi D cy ad (fun r y => r = 0 ∧ y = TF x 2)) hI (by decide) (Nat.le_of_ble_eq_true rfl) ?_
  intro p e s m args below meth c hc
  show RM _ _ _ _ _ _ _ _ _ _ _ _ _ _ _ _ _ [(0, .ref (ad 15 14 0)), (1, .int (nI (j))), (2, .int p1), (3, .int p2)] []
  refine rm_aload_n hc dX9_make_0 rfl rfl ?_
  refine rm_iconst (v := 0) hc dX9_make_1 (by decide) ?_
  refine rm_put hc dX9_make_2 fl_X9_25 dm_14 rfl (Nat.le_of_ble_eq_true rfl) ft_9_6 rfl rfl so_14_6 (rm_nm (fun x_1 ex_1 => ?_))
  refine rm_iload_n hc dX9_make_5 rfl rfl ?_
  refine rm_calliS (As := [.int (nI (j))]) (rest := []) hc dX9_make_6 (c_X9_isFob hI x_1 (nI (j))) ms_X9_92 (hn := rfl) (hst := rfl) (hw := Nat.le_of_ble_eq_true rfl) (hR := ⟨⟨rfl, rfl⟩, Nat.le_of_ble_eq_true rfl, Nat.le_of_ble_eq_true rfl⟩) (hnc := ⟨Nat.zero_le _, Nat.zero_le _⟩) (fun r_2 y_2 h_2 => ?_)
  obtain ⟨e_2, ey_2⟩ := h_2
  obtain rfl := ey_2.symm
  obtain rfl : r_2 = 1 := e_2.trans (inN (n := 3) rfl (by omega) (by omega))
  refine rm_if_ne (tgt := 18) hc dX9_make_9 (by decide) (fun _ => ?_) (fun h => absurd h (by decide))
  refine rm_iload_n hc dX9_make_18 rfl rfl ?_
  refine rm_iconst (v := 0) hc dX9_make_19 (by decide) ?_
  refine rm_sipush (v := 9999) hc dX9_make_20 (by decide) ?_
  refine rm_calliS (As := [.int p1, .int 0, .int 9999]) (rest := []) hc dX9_make_23 (c_X9_in hI x_1 p1 0 9999) ms_X9_29 (hn := rfl) (hst := rfl) (hw := Nat.le_of_ble_eq_true rfl) (hR := ⟨⟨rfl, rfl⟩, Nat.le_of_ble_eq_true rfl, Nat.le_of_ble_eq_true rfl⟩) (hnc := ⟨Nat.zero_le _, Nat.zero_le _⟩) (fun r_4 y_4 h_4 => ?_)
  obtain ⟨e_4, ey_4⟩ := h_4
  obtain rfl := ey_4.symm
  obtain rfl : r_4 = 0 := e_4.trans h0
  refine rm_if_eq (tgt := 40) hc dX9_make_26 (by decide) (fun _ => ?_) (fun h => absurd (by decide) h)
  refine rm_aload_n hc dX9_make_40 rfl rfl ?_
  refine rm_iconst (v := 2) hc dX9_make_41 (by decide) ?_
  refine rm_calliV (As := [.int 2]) (rest := []) hc dX9_make_42 (c_X9_fails hI x_1 2) mv_X9_44 dm_14 rfl rfl (hn := rfl) (hst := rfl) (hw := Nat.le_of_ble_eq_true rfl) (hR := ⟨⟨rfl, rfl⟩, Nat.le_of_ble_eq_true rfl, Nat.le_of_ble_eq_true rfl⟩) (hnc := ⟨Nat.zero_le _, Nat.zero_le _⟩) (fun r_6 y_6 h_6 => ?_)
  obtain ⟨e_6, ey_6⟩ := h_6
  exact rm_iret hc dX9_make_45 ⟨e_6, by subst_vars; rfl⟩

set_option maxHeartbeats 4000000 in
set_option maxRecDepth 100000 in
theorem c_X9_make_3 {l : Launch} {D : va_G} {cy : Nat → ClassId} {ad : Ads} (hI : IJ ad) (x : Mem) {j : Nat} (hj : j < 4) (p1 p2 : Int32) (hs1 : ¬ p1 < 0) (hs2 : ¬ 9999 < p1) (h0 : inM p2 0 9999 = 0) : Cti l yX9_make cX9_make 4 (some .int) rm_X9_make D cy ad [.ref (ad 15 14 0), .int (nI (j)), .int p1, .int p2] x (fun r y => r = 0 ∧ y = TF x 2) := by
  refine rm_entry (Qc := Qi D cy ad (fun r y => r = 0 ∧ y = TF x 2)) hI (by decide) (Nat.le_of_ble_eq_true rfl) ?_
  intro p e s m args below meth c hc
  show RM _ _ _ _ _ _ _ _ _ _ _ _ _ _ _ _ _ [(0, .ref (ad 15 14 0)), (1, .int (nI (j))), (2, .int p1), (3, .int p2)] []
  refine rm_aload_n hc dX9_make_0 rfl rfl ?_
  refine rm_iconst (v := 0) hc dX9_make_1 (by decide) ?_
  refine rm_put hc dX9_make_2 fl_X9_25 dm_14 rfl (Nat.le_of_ble_eq_true rfl) ft_9_6 rfl rfl so_14_6 (rm_nm (fun x_1 ex_1 => ?_))
  refine rm_iload_n hc dX9_make_5 rfl rfl ?_
  refine rm_calliS (As := [.int (nI (j))]) (rest := []) hc dX9_make_6 (c_X9_isFob hI x_1 (nI (j))) ms_X9_92 (hn := rfl) (hst := rfl) (hw := Nat.le_of_ble_eq_true rfl) (hR := ⟨⟨rfl, rfl⟩, Nat.le_of_ble_eq_true rfl, Nat.le_of_ble_eq_true rfl⟩) (hnc := ⟨Nat.zero_le _, Nat.zero_le _⟩) (fun r_2 y_2 h_2 => ?_)
  obtain ⟨e_2, ey_2⟩ := h_2
  obtain rfl := ey_2.symm
  obtain rfl : r_2 = 1 := e_2.trans (inN (n := 3) rfl (by omega) (by omega))
  refine rm_if_ne (tgt := 18) hc dX9_make_9 (by decide) (fun _ => ?_) (fun h => absurd h (by decide))
  refine rm_iload_n hc dX9_make_18 rfl rfl ?_
  refine rm_iconst (v := 0) hc dX9_make_19 (by decide) ?_
  refine rm_sipush (v := 9999) hc dX9_make_20 (by decide) ?_
  refine rm_calliS (As := [.int p1, .int 0, .int 9999]) (rest := []) hc dX9_make_23 (c_X9_in hI x_1 p1 0 9999) ms_X9_29 (hn := rfl) (hst := rfl) (hw := Nat.le_of_ble_eq_true rfl) (hR := ⟨⟨rfl, rfl⟩, Nat.le_of_ble_eq_true rfl, Nat.le_of_ble_eq_true rfl⟩) (hnc := ⟨Nat.zero_le _, Nat.zero_le _⟩) (fun r_4 y_4 h_4 => ?_)
  obtain ⟨e_4, ey_4⟩ := h_4
  obtain rfl := ey_4.symm
  obtain rfl : r_4 = 1 := e_4.trans (inM_1 hs1 hs2)
  refine rm_if_eq (tgt := 40) hc dX9_make_26 (by decide) (fun h => absurd h (by decide)) (fun _ => ?_)
  refine rm_iload_n hc dX9_make_29 rfl rfl ?_
  refine rm_iconst (v := 0) hc dX9_make_30 (by decide) ?_
  refine rm_sipush (v := 9999) hc dX9_make_31 (by decide) ?_
  refine rm_calliS (As := [.int p2, .int 0, .int 9999]) (rest := []) hc dX9_make_34 (c_X9_in hI x_1 p2 0 9999) ms_X9_29 (hn := rfl) (hst := rfl) (hw := Nat.le_of_ble_eq_true rfl) (hR := ⟨⟨rfl, rfl⟩, Nat.le_of_ble_eq_true rfl, Nat.le_of_ble_eq_true rfl⟩) (hnc := ⟨Nat.zero_le _, Nat.zero_le _⟩) (fun r_6 y_6 h_6 => ?_)
  obtain ⟨e_6, ey_6⟩ := h_6
  obtain rfl := ey_6.symm
  obtain rfl : r_6 = 0 := e_6.trans h0
  refine rm_if_ne (tgt := 46) hc dX9_make_37 (by decide) (fun h => absurd h (by decide)) (fun _ => ?_)
  refine rm_aload_n hc dX9_make_40 rfl rfl ?_
  refine rm_iconst (v := 2) hc dX9_make_41 (by decide) ?_
  refine rm_calliV (As := [.int 2]) (rest := []) hc dX9_make_42 (c_X9_fails hI x_1 2) mv_X9_44 dm_14 rfl rfl (hn := rfl) (hst := rfl) (hw := Nat.le_of_ble_eq_true rfl) (hR := ⟨⟨rfl, rfl⟩, Nat.le_of_ble_eq_true rfl, Nat.le_of_ble_eq_true rfl⟩) (hnc := ⟨Nat.zero_le _, Nat.zero_le _⟩) (fun r_8 y_8 h_8 => ?_)
  obtain ⟨e_8, ey_8⟩ := h_8
  exact rm_iret hc dX9_make_45 ⟨e_8, by subst_vars; rfl⟩

set_option maxHeartbeats 4000000 in
set_option maxRecDepth 100000 in
theorem c_X9_make {l : Launch} {D : va_G} {cy : Nat → ClassId} {ad : Ads} (hI : IJ ad) (x : Mem) {j : Nat} (hj : j < 4) (p1 p2 : Int32) (hs1 : ¬ p1 < 0) (hs2 : ¬ 9999 < p1) (hc1 : ¬ p2 < 0) (hc2 : ¬ 9999 < p2) {kq : Nat} (hk6 : kq ≤ 6) (hkq : x 15 0 = nI kq) : Cti l yX9_make cX9_make 4 (some .int) rm_X9_make D cy ad [.ref (ad 15 14 0), .int (nI (j)), .int p1, .int p2] x (fun r y => r = x 10 (15 + 4 * j) ∧ y = up (up (svM (T0 x) kq) 10 (14 + 4 * j) p1) 10 (15 + 4 * j) p2) := by
  refine rm_entry (Qc := Qi D cy ad (fun r y => r = x 10 (15 + 4 * j) ∧ y = up (up (svM (T0 x) kq) 10 (14 + 4 * j) p1) 10 (15 + 4 * j) p2)) hI (by decide) (Nat.le_of_ble_eq_true rfl) ?_
  intro p e s m args below meth c hc
  show RM _ _ _ _ _ _ _ _ _ _ _ _ _ _ _ _ _ [(0, .ref (ad 15 14 0)), (1, .int (nI (j))), (2, .int p1), (3, .int p2)] []
  refine rm_aload_n hc dX9_make_0 rfl rfl ?_
  refine rm_iconst (v := 0) hc dX9_make_1 (by decide) ?_
  refine rm_put hc dX9_make_2 fl_X9_25 dm_14 rfl (Nat.le_of_ble_eq_true rfl) ft_9_6 rfl rfl so_14_6 (rm_nm (fun x_1 ex_1 => ?_))
  refine rm_iload_n hc dX9_make_5 rfl rfl ?_
  refine rm_calliS (As := [.int (nI (j))]) (rest := []) hc dX9_make_6 (c_X9_isFob hI x_1 (nI (j))) ms_X9_92 (hn := rfl) (hst := rfl) (hw := Nat.le_of_ble_eq_true rfl) (hR := ⟨⟨rfl, rfl⟩, Nat.le_of_ble_eq_true rfl, Nat.le_of_ble_eq_true rfl⟩) (hnc := ⟨Nat.zero_le _, Nat.zero_le _⟩) (fun r_2 y_2 h_2 => ?_)
  obtain ⟨e_2, ey_2⟩ := h_2
  obtain rfl := ey_2.symm
  obtain rfl : r_2 = 1 := e_2.trans (inN (n := 3) rfl (by omega) (by omega))
  refine rm_if_ne (tgt := 18) hc dX9_make_9 (by decide) (fun _ => ?_) (fun h => absurd h (by decide))
  refine rm_iload_n hc dX9_make_18 rfl rfl ?_
  refine rm_iconst (v := 0) hc dX9_make_19 (by decide) ?_
  refine rm_sipush (v := 9999) hc dX9_make_20 (by decide) ?_
  refine rm_calliS (As := [.int p1, .int 0, .int 9999]) (rest := []) hc dX9_make_23 (c_X9_in hI x_1 p1 0 9999) ms_X9_29 (hn := rfl) (hst := rfl) (hw := Nat.le_of_ble_eq_true rfl) (hR := ⟨⟨rfl, rfl⟩, Nat.le_of_ble_eq_true rfl, Nat.le_of_ble_eq_true rfl⟩) (hnc := ⟨Nat.zero_le _, Nat.zero_le _⟩) (fun r_4 y_4 h_4 => ?_)
  obtain ⟨e_4, ey_4⟩ := h_4
  obtain rfl := ey_4.symm
  obtain rfl : r_4 = 1 := e_4.trans (inM_1 hs1 hs2)
  refine rm_if_eq (tgt := 40) hc dX9_make_26 (by decide) (fun h => absurd h (by decide)) (fun _ => ?_)
  refine rm_iload_n hc dX9_make_29 rfl rfl ?_
  refine rm_iconst (v := 0) hc dX9_make_30 (by decide) ?_
  refine rm_sipush (v := 9999) hc dX9_make_31 (by decide) ?_
  refine rm_calliS (As := [.int p2, .int 0, .int 9999]) (rest := []) hc dX9_make_34 (c_X9_in hI x_1 p2 0 9999) ms_X9_29 (hn := rfl) (hst := rfl) (hw := Nat.le_of_ble_eq_true rfl) (hR := ⟨⟨rfl, rfl⟩, Nat.le_of_ble_eq_true rfl, Nat.le_of_ble_eq_true rfl⟩) (hnc := ⟨Nat.zero_le _, Nat.zero_le _⟩) (fun r_6 y_6 h_6 => ?_)
  obtain ⟨e_6, ey_6⟩ := h_6
  obtain rfl := ey_6.symm
  obtain rfl : r_6 = 1 := e_6.trans (inM_1 hc1 hc2)
  refine rm_if_ne (tgt := 46) hc dX9_make_37 (by decide) (fun _ => ?_) (fun h => absurd h (by decide))
  refine rm_aload_n hc dX9_make_46 rfl rfl ?_
  refine rm_callvV (As := []) (rest := []) hc dX9_make_47 (c_X9_saves hI x_1 (kq := kq) (by omega) (by subst_vars; exact T0_0.trans hkq)) mv_X9_95 dm_14 rfl rfl (hn := rfl) (hst := rfl) (hw := Nat.le_of_ble_eq_true rfl) (hR := ⟨⟨rfl, rfl⟩, Nat.le_of_ble_eq_true rfl, Nat.le_of_ble_eq_true rfl⟩) (hnc := ⟨Nat.zero_le _, Nat.zero_le _⟩) (fun y_8 h_8 => ?_)
  refine rm_aload_n hc dX9_make_50 rfl rfl ?_
  refine rm_get hc dX9_make_51 fl_X9_7 dm_14 rfl rfl ?_
  refine rm_bipush (v := 14) hc dX9_make_54 (by decide) ?_
  refine rm_iconst (v := 4) hc dX9_make_56 (by decide) ?_
  refine rm_iload_n hc dX9_make_57 rfl rfl ?_
  refine rm_imul hc dX9_make_58 (fun v_9 e_9 => ?_)
  obtain rfl : v_9 = (nI (4 * j)) := e_9.trans (nmul (m := 4) (n := j) (by omega))
  clear e_9
  refine rm_iadd hc dX9_make_59 (fun v_10 e_10 => ?_)
  obtain rfl : v_10 = (nI (14 + 4 * j)) := e_10.trans (nadd (m := 14) (n := 4 * j) (by omega))
  clear e_10
  refine rm_iload_n hc dX9_make_60 rfl rfl ?_
  refine rm_iast (i := 14 + 4 * j) hc dX9_make_61 (dm_15 (by omega)) rfl (by omega) (by decide) rfl (so_15 (by omega)) (rm_nm (fun x_11 ex_11 => ?_))
  refine rm_aload_n hc dX9_make_62 rfl rfl ?_
  refine rm_bipush (v := 14) hc dX9_make_63 (by decide) ?_
  refine rm_iconst (v := 4) hc dX9_make_65 (by decide) ?_
  refine rm_iload_n hc dX9_make_66 rfl rfl ?_
  refine rm_imul hc dX9_make_67 (fun v_12 e_12 => ?_)
  obtain rfl : v_12 = (nI (4 * j)) := e_12.trans (nmul (m := 4) (n := j) (by omega))
  clear e_12
  refine rm_iadd hc dX9_make_68 (fun v_13 e_13 => ?_)
  obtain rfl : v_13 = (nI (14 + 4 * j)) := e_13.trans (nadd (m := 14) (n := 4 * j) (by omega))
  clear e_13
  refine rm_iconst (v := 1) hc dX9_make_69 (by decide) ?_
  refine rm_iadd hc dX9_make_70 (fun v_14 e_14 => ?_)
  obtain rfl : v_14 = (nI (15 + 4 * j)) := e_14.trans (nadd (m := 14 + 4 * j) (n := 1) (by omega))
  clear e_14
  refine rm_iload_n hc dX9_make_71 rfl rfl ?_
  refine rm_calliV (As := [.int (nI (15 + 4 * j)), .int p2]) (rest := []) hc dX9_make_72 (c_X9_changes hI x_11 (n := 15 + 4 * j) (by omega) p2) mv_X9_98 dm_14 rfl rfl (hn := rfl) (hst := rfl) (hw := Nat.le_of_ble_eq_true rfl) (hR := ⟨⟨rfl, rfl⟩, Nat.le_of_ble_eq_true rfl, Nat.le_of_ble_eq_true rfl⟩) (hnc := ⟨Nat.zero_le _, Nat.zero_le _⟩) (fun r_15 y_15 h_15 => ?_)
  obtain ⟨e_15, ey_15⟩ := h_15
  exact rm_iret hc dX9_make_75 ⟨by rw [e_15]; subst_vars; first | exact congrFun sv0 _ | (rw [up_n _ _ (by omega)]; exact congrFun sv0 _), by subst_vars; rfl⟩

set_option maxHeartbeats 4000000 in
set_option maxRecDepth 100000 in
theorem c_X9_battery_1 {l : Launch} {D : va_G} {cy : Nat → ClassId} {ad : Ads} (hI : IJ ad) (x : Mem) (p0 p1 : Int32) (h0 : inM p0 0 3 = 0) : Cti l yX9_battery cX9_battery 3 (some .int) rm_X9_battery D cy ad [.ref (ad 15 14 0), .int p0, .int p1] x (fun r y => r = 0 ∧ y = TF x 1) := by
  refine rm_entry (Qc := Qi D cy ad (fun r y => r = 0 ∧ y = TF x 1)) hI (by decide) (Nat.le_of_ble_eq_true rfl) ?_
  intro p e s m args below meth c hc
  show RM _ _ _ _ _ _ _ _ _ _ _ _ _ _ _ _ _ [(0, .ref (ad 15 14 0)), (1, .int p0), (2, .int p1)] []
  refine rm_aload_n hc dX9_battery_0 rfl rfl ?_
  refine rm_iconst (v := 0) hc dX9_battery_1 (by decide) ?_
  refine rm_put hc dX9_battery_2 fl_X9_25 dm_14 rfl (Nat.le_of_ble_eq_true rfl) ft_9_6 rfl rfl so_14_6 (rm_nm (fun x_1 ex_1 => ?_))
  refine rm_iload_n hc dX9_battery_5 rfl rfl ?_
  refine rm_calliS (As := [.int p0]) (rest := []) hc dX9_battery_6 (c_X9_isFob hI x_1 p0) ms_X9_92 (hn := rfl) (hst := rfl) (hw := Nat.le_of_ble_eq_true rfl) (hR := ⟨⟨rfl, rfl⟩, Nat.le_of_ble_eq_true rfl, Nat.le_of_ble_eq_true rfl⟩) (hnc := ⟨Nat.zero_le _, Nat.zero_le _⟩) (fun r_2 y_2 h_2 => ?_)
  obtain ⟨e_2, ey_2⟩ := h_2
  obtain rfl := ey_2.symm
  obtain rfl : r_2 = 0 := e_2.trans h0
  refine rm_if_ne (tgt := 18) hc dX9_battery_9 (by decide) (fun h => absurd h (by decide)) (fun _ => ?_)
  refine rm_aload_n hc dX9_battery_12 rfl rfl ?_
  refine rm_iconst (v := 1) hc dX9_battery_13 (by decide) ?_
  refine rm_calliV (As := [.int 1]) (rest := []) hc dX9_battery_14 (c_X9_fails hI x_1 1) mv_X9_44 dm_14 rfl rfl (hn := rfl) (hst := rfl) (hw := Nat.le_of_ble_eq_true rfl) (hR := ⟨⟨rfl, rfl⟩, Nat.le_of_ble_eq_true rfl, Nat.le_of_ble_eq_true rfl⟩) (hnc := ⟨Nat.zero_le _, Nat.zero_le _⟩) (fun r_4 y_4 h_4 => ?_)
  obtain ⟨e_4, ey_4⟩ := h_4
  exact rm_iret hc dX9_battery_17 ⟨e_4, by subst_vars; rfl⟩

set_option maxHeartbeats 4000000 in
set_option maxRecDepth 100000 in
theorem c_X9_battery_2 {l : Launch} {D : va_G} {cy : Nat → ClassId} {ad : Ads} (hI : IJ ad) (x : Mem) {j : Nat} (hj : j < 4) (p1 : Int32) (h0 : inM p1 0 999 = 0) : Cti l yX9_battery cX9_battery 3 (some .int) rm_X9_battery D cy ad [.ref (ad 15 14 0), .int (nI (j)), .int p1] x (fun r y => r = 0 ∧ y = TF x 2) := by
  refine rm_entry (Qc := Qi D cy ad (fun r y => r = 0 ∧ y = TF x 2)) hI (by decide) (Nat.le_of_ble_eq_true rfl) ?_
  intro p e s m args below meth c hc
  show RM _ _ _ _ _ _ _ _ _ _ _ _ _ _ _ _ _ [(0, .ref (ad 15 14 0)), (1, .int (nI (j))), (2, .int p1)] []
  refine rm_aload_n hc dX9_battery_0 rfl rfl ?_
  refine rm_iconst (v := 0) hc dX9_battery_1 (by decide) ?_
  refine rm_put hc dX9_battery_2 fl_X9_25 dm_14 rfl (Nat.le_of_ble_eq_true rfl) ft_9_6 rfl rfl so_14_6 (rm_nm (fun x_1 ex_1 => ?_))
  refine rm_iload_n hc dX9_battery_5 rfl rfl ?_
  refine rm_calliS (As := [.int (nI (j))]) (rest := []) hc dX9_battery_6 (c_X9_isFob hI x_1 (nI (j))) ms_X9_92 (hn := rfl) (hst := rfl) (hw := Nat.le_of_ble_eq_true rfl) (hR := ⟨⟨rfl, rfl⟩, Nat.le_of_ble_eq_true rfl, Nat.le_of_ble_eq_true rfl⟩) (hnc := ⟨Nat.zero_le _, Nat.zero_le _⟩) (fun r_2 y_2 h_2 => ?_)
  obtain ⟨e_2, ey_2⟩ := h_2
  obtain rfl := ey_2.symm
  obtain rfl : r_2 = 1 := e_2.trans (inN (n := 3) rfl (by omega) (by omega))
  refine rm_if_ne (tgt := 18) hc dX9_battery_9 (by decide) (fun _ => ?_) (fun h => absurd h (by decide))
  refine rm_iload_n hc dX9_battery_18 rfl rfl ?_
  refine rm_iconst (v := 0) hc dX9_battery_19 (by decide) ?_
  refine rm_sipush (v := 999) hc dX9_battery_20 (by decide) ?_
  refine rm_calliS (As := [.int p1, .int 0, .int 999]) (rest := []) hc dX9_battery_23 (c_X9_in hI x_1 p1 0 999) ms_X9_29 (hn := rfl) (hst := rfl) (hw := Nat.le_of_ble_eq_true rfl) (hR := ⟨⟨rfl, rfl⟩, Nat.le_of_ble_eq_true rfl, Nat.le_of_ble_eq_true rfl⟩) (hnc := ⟨Nat.zero_le _, Nat.zero_le _⟩) (fun r_4 y_4 h_4 => ?_)
  obtain ⟨e_4, ey_4⟩ := h_4
  obtain rfl := ey_4.symm
  obtain rfl : r_4 = 0 := e_4.trans h0
  refine rm_if_ne (tgt := 35) hc dX9_battery_26 (by decide) (fun h => absurd h (by decide)) (fun _ => ?_)
  refine rm_aload_n hc dX9_battery_29 rfl rfl ?_
  refine rm_iconst (v := 2) hc dX9_battery_30 (by decide) ?_
  refine rm_calliV (As := [.int 2]) (rest := []) hc dX9_battery_31 (c_X9_fails hI x_1 2) mv_X9_44 dm_14 rfl rfl (hn := rfl) (hst := rfl) (hw := Nat.le_of_ble_eq_true rfl) (hR := ⟨⟨rfl, rfl⟩, Nat.le_of_ble_eq_true rfl, Nat.le_of_ble_eq_true rfl⟩) (hnc := ⟨Nat.zero_le _, Nat.zero_le _⟩) (fun r_6 y_6 h_6 => ?_)
  obtain ⟨e_6, ey_6⟩ := h_6
  exact rm_iret hc dX9_battery_34 ⟨e_6, by subst_vars; rfl⟩

set_option maxHeartbeats 4000000 in
set_option maxRecDepth 100000 in
theorem c_X9_battery {l : Launch} {D : va_G} {cy : Nat → ClassId} {ad : Ads} (hI : IJ ad) (x : Mem) {j : Nat} (hj : j < 4) (p1 : Int32) (hs1 : ¬ p1 < 0) (hs2 : ¬ 999 < p1) {kq : Nat} (hk6 : kq ≤ 6) (hkq : x 15 0 = nI kq) : Cti l yX9_battery cX9_battery 3 (some .int) rm_X9_battery D cy ad [.ref (ad 15 14 0), .int (nI (j)), .int p1] x (fun r y => r = x 10 (16 + 4 * j) ∧ y = up (svM (T0 x) kq) 10 (16 + 4 * j) p1) := by
  refine rm_entry (Qc := Qi D cy ad (fun r y => r = x 10 (16 + 4 * j) ∧ y = up (svM (T0 x) kq) 10 (16 + 4 * j) p1)) hI (by decide) (Nat.le_of_ble_eq_true rfl) ?_
  intro p e s m args below meth c hc
  show RM _ _ _ _ _ _ _ _ _ _ _ _ _ _ _ _ _ [(0, .ref (ad 15 14 0)), (1, .int (nI (j))), (2, .int p1)] []
  refine rm_aload_n hc dX9_battery_0 rfl rfl ?_
  refine rm_iconst (v := 0) hc dX9_battery_1 (by decide) ?_
  refine rm_put hc dX9_battery_2 fl_X9_25 dm_14 rfl (Nat.le_of_ble_eq_true rfl) ft_9_6 rfl rfl so_14_6 (rm_nm (fun x_1 ex_1 => ?_))
  refine rm_iload_n hc dX9_battery_5 rfl rfl ?_
  refine rm_calliS (As := [.int (nI (j))]) (rest := []) hc dX9_battery_6 (c_X9_isFob hI x_1 (nI (j))) ms_X9_92 (hn := rfl) (hst := rfl) (hw := Nat.le_of_ble_eq_true rfl) (hR := ⟨⟨rfl, rfl⟩, Nat.le_of_ble_eq_true rfl, Nat.le_of_ble_eq_true rfl⟩) (hnc := ⟨Nat.zero_le _, Nat.zero_le _⟩) (fun r_2 y_2 h_2 => ?_)
  obtain ⟨e_2, ey_2⟩ := h_2
  obtain rfl := ey_2.symm
  obtain rfl : r_2 = 1 := e_2.trans (inN (n := 3) rfl (by omega) (by omega))
  refine rm_if_ne (tgt := 18) hc dX9_battery_9 (by decide) (fun _ => ?_) (fun h => absurd h (by decide))
  refine rm_iload_n hc dX9_battery_18 rfl rfl ?_
  refine rm_iconst (v := 0) hc dX9_battery_19 (by decide) ?_
  refine rm_sipush (v := 999) hc dX9_battery_20 (by decide) ?_
  refine rm_calliS (As := [.int p1, .int 0, .int 999]) (rest := []) hc dX9_battery_23 (c_X9_in hI x_1 p1 0 999) ms_X9_29 (hn := rfl) (hst := rfl) (hw := Nat.le_of_ble_eq_true rfl) (hR := ⟨⟨rfl, rfl⟩, Nat.le_of_ble_eq_true rfl, Nat.le_of_ble_eq_true rfl⟩) (hnc := ⟨Nat.zero_le _, Nat.zero_le _⟩) (fun r_4 y_4 h_4 => ?_)
  obtain ⟨e_4, ey_4⟩ := h_4
  obtain rfl := ey_4.symm
  obtain rfl : r_4 = 1 := e_4.trans (inM_1 hs1 hs2)
  refine rm_if_ne (tgt := 35) hc dX9_battery_26 (by decide) (fun _ => ?_) (fun h => absurd h (by decide))
  refine rm_aload_n hc dX9_battery_35 rfl rfl ?_
  refine rm_callvV (As := []) (rest := []) hc dX9_battery_36 (c_X9_saves hI x_1 (kq := kq) (by omega) (by subst_vars; exact T0_0.trans hkq)) mv_X9_95 dm_14 rfl rfl (hn := rfl) (hst := rfl) (hw := Nat.le_of_ble_eq_true rfl) (hR := ⟨⟨rfl, rfl⟩, Nat.le_of_ble_eq_true rfl, Nat.le_of_ble_eq_true rfl⟩) (hnc := ⟨Nat.zero_le _, Nat.zero_le _⟩) (fun y_6 h_6 => ?_)
  refine rm_aload_n hc dX9_battery_39 rfl rfl ?_
  refine rm_bipush (v := 14) hc dX9_battery_40 (by decide) ?_
  refine rm_iconst (v := 4) hc dX9_battery_42 (by decide) ?_
  refine rm_iload_n hc dX9_battery_43 rfl rfl ?_
  refine rm_imul hc dX9_battery_44 (fun v_7 e_7 => ?_)
  obtain rfl : v_7 = (nI (4 * j)) := e_7.trans (nmul (m := 4) (n := j) (by omega))
  clear e_7
  refine rm_iadd hc dX9_battery_45 (fun v_8 e_8 => ?_)
  obtain rfl : v_8 = (nI (14 + 4 * j)) := e_8.trans (nadd (m := 14) (n := 4 * j) (by omega))
  clear e_8
  refine rm_iconst (v := 2) hc dX9_battery_46 (by decide) ?_
  refine rm_iadd hc dX9_battery_47 (fun v_9 e_9 => ?_)
  obtain rfl : v_9 = (nI (16 + 4 * j)) := e_9.trans (nadd (m := 14 + 4 * j) (n := 2) (by omega))
  clear e_9
  refine rm_iload_n hc dX9_battery_48 rfl rfl ?_
  refine rm_calliV (As := [.int (nI (16 + 4 * j)), .int p1]) (rest := []) hc dX9_battery_49 (c_X9_changes hI y_6 (n := 16 + 4 * j) (by omega) p1) mv_X9_98 dm_14 rfl rfl (hn := rfl) (hst := rfl) (hw := Nat.le_of_ble_eq_true rfl) (hR := ⟨⟨rfl, rfl⟩, Nat.le_of_ble_eq_true rfl, Nat.le_of_ble_eq_true rfl⟩) (hnc := ⟨Nat.zero_le _, Nat.zero_le _⟩) (fun r_10 y_10 h_10 => ?_)
  obtain ⟨e_10, ey_10⟩ := h_10
  exact rm_iret hc dX9_battery_52 ⟨by rw [e_10]; subst_vars; first | exact congrFun sv0 _ | (rw [up_n _ _ (by omega)]; exact congrFun sv0 _), by subst_vars; rfl⟩

set_option maxHeartbeats 4000000 in
set_option maxRecDepth 100000 in
theorem c_X9_press_1 {l : Launch} {D : va_G} {cy : Nat → ClassId} {ad : Ads} (hI : IJ ad) (x : Mem) (p0 p1 : Int32) (h0 : inM p0 0 3 = 0) : Cti l yX9_press cX9_press 3 (some .int) rm_X9_press D cy ad [.ref (ad 15 14 0), .int p0, .int p1] x (fun r y => r = 0 ∧ y = TF x 1) := by
  refine rm_entry (Qc := Qi D cy ad (fun r y => r = 0 ∧ y = TF x 1)) hI (by decide) (Nat.le_of_ble_eq_true rfl) ?_
  intro p e s m args below meth c hc
  show RM _ _ _ _ _ _ _ _ _ _ _ _ _ _ _ _ _ [(0, .ref (ad 15 14 0)), (1, .int p0), (2, .int p1)] []
  refine rm_aload_n hc dX9_press_0 rfl rfl ?_
  refine rm_iconst (v := 0) hc dX9_press_1 (by decide) ?_
  refine rm_put hc dX9_press_2 fl_X9_25 dm_14 rfl (Nat.le_of_ble_eq_true rfl) ft_9_6 rfl rfl so_14_6 (rm_nm (fun x_1 ex_1 => ?_))
  refine rm_iload_n hc dX9_press_5 rfl rfl ?_
  refine rm_calliS (As := [.int p0]) (rest := []) hc dX9_press_6 (c_X9_isFob hI x_1 p0) ms_X9_92 (hn := rfl) (hst := rfl) (hw := Nat.le_of_ble_eq_true rfl) (hR := ⟨⟨rfl, rfl⟩, Nat.le_of_ble_eq_true rfl, Nat.le_of_ble_eq_true rfl⟩) (hnc := ⟨Nat.zero_le _, Nat.zero_le _⟩) (fun r_2 y_2 h_2 => ?_)
  obtain ⟨e_2, ey_2⟩ := h_2
  obtain rfl := ey_2.symm
  obtain rfl : r_2 = 0 := e_2.trans h0
  refine rm_if_ne (tgt := 18) hc dX9_press_9 (by decide) (fun h => absurd h (by decide)) (fun _ => ?_)
  refine rm_aload_n hc dX9_press_12 rfl rfl ?_
  refine rm_iconst (v := 1) hc dX9_press_13 (by decide) ?_
  refine rm_calliV (As := [.int 1]) (rest := []) hc dX9_press_14 (c_X9_fails hI x_1 1) mv_X9_44 dm_14 rfl rfl (hn := rfl) (hst := rfl) (hw := Nat.le_of_ble_eq_true rfl) (hR := ⟨⟨rfl, rfl⟩, Nat.le_of_ble_eq_true rfl, Nat.le_of_ble_eq_true rfl⟩) (hnc := ⟨Nat.zero_le _, Nat.zero_le _⟩) (fun r_4 y_4 h_4 => ?_)
  obtain ⟨e_4, ey_4⟩ := h_4
  exact rm_iret hc dX9_press_17 ⟨e_4, by subst_vars; rfl⟩

set_option maxHeartbeats 4000000 in
set_option maxRecDepth 100000 in
theorem c_X9_press_2 {l : Launch} {D : va_G} {cy : Nat → ClassId} {ad : Ads} (hI : IJ ad) (x : Mem) {j : Nat} (hj : j < 4) (p1 : Int32) (h0 : inM p1 0 7 = 0) : Cti l yX9_press cX9_press 3 (some .int) rm_X9_press D cy ad [.ref (ad 15 14 0), .int (nI (j)), .int p1] x (fun r y => r = 0 ∧ y = TF x 2) := by
  refine rm_entry (Qc := Qi D cy ad (fun r y => r = 0 ∧ y = TF x 2)) hI (by decide) (Nat.le_of_ble_eq_true rfl) ?_
  intro p e s m args below meth c hc
  show RM _ _ _ _ _ _ _ _ _ _ _ _ _ _ _ _ _ [(0, .ref (ad 15 14 0)), (1, .int (nI (j))), (2, .int p1)] []
  refine rm_aload_n hc dX9_press_0 rfl rfl ?_
  refine rm_iconst (v := 0) hc dX9_press_1 (by decide) ?_
  refine rm_put hc dX9_press_2 fl_X9_25 dm_14 rfl (Nat.le_of_ble_eq_true rfl) ft_9_6 rfl rfl so_14_6 (rm_nm (fun x_1 ex_1 => ?_))
  refine rm_iload_n hc dX9_press_5 rfl rfl ?_
  refine rm_calliS (As := [.int (nI (j))]) (rest := []) hc dX9_press_6 (c_X9_isFob hI x_1 (nI (j))) ms_X9_92 (hn := rfl) (hst := rfl) (hw := Nat.le_of_ble_eq_true rfl) (hR := ⟨⟨rfl, rfl⟩, Nat.le_of_ble_eq_true rfl, Nat.le_of_ble_eq_true rfl⟩) (hnc := ⟨Nat.zero_le _, Nat.zero_le _⟩) (fun r_2 y_2 h_2 => ?_)
  obtain ⟨e_2, ey_2⟩ := h_2
  obtain rfl := ey_2.symm
  obtain rfl : r_2 = 1 := e_2.trans (inN (n := 3) rfl (by omega) (by omega))
  refine rm_if_ne (tgt := 18) hc dX9_press_9 (by decide) (fun _ => ?_) (fun h => absurd h (by decide))
  refine rm_iload_n hc dX9_press_18 rfl rfl ?_
  refine rm_iconst (v := 0) hc dX9_press_19 (by decide) ?_
  refine rm_bipush (v := 7) hc dX9_press_20 (by decide) ?_
  refine rm_calliS (As := [.int p1, .int 0, .int 7]) (rest := []) hc dX9_press_22 (c_X9_in hI x_1 p1 0 7) ms_X9_29 (hn := rfl) (hst := rfl) (hw := Nat.le_of_ble_eq_true rfl) (hR := ⟨⟨rfl, rfl⟩, Nat.le_of_ble_eq_true rfl, Nat.le_of_ble_eq_true rfl⟩) (hnc := ⟨Nat.zero_le _, Nat.zero_le _⟩) (fun r_4 y_4 h_4 => ?_)
  obtain ⟨e_4, ey_4⟩ := h_4
  obtain rfl := ey_4.symm
  obtain rfl : r_4 = 0 := e_4.trans h0
  refine rm_if_ne (tgt := 34) hc dX9_press_25 (by decide) (fun h => absurd h (by decide)) (fun _ => ?_)
  refine rm_aload_n hc dX9_press_28 rfl rfl ?_
  refine rm_iconst (v := 2) hc dX9_press_29 (by decide) ?_
  refine rm_calliV (As := [.int 2]) (rest := []) hc dX9_press_30 (c_X9_fails hI x_1 2) mv_X9_44 dm_14 rfl rfl (hn := rfl) (hst := rfl) (hw := Nat.le_of_ble_eq_true rfl) (hR := ⟨⟨rfl, rfl⟩, Nat.le_of_ble_eq_true rfl, Nat.le_of_ble_eq_true rfl⟩) (hnc := ⟨Nat.zero_le _, Nat.zero_le _⟩) (fun r_6 y_6 h_6 => ?_)
  obtain ⟨e_6, ey_6⟩ := h_6
  exact rm_iret hc dX9_press_33 ⟨e_6, by subst_vars; rfl⟩

set_option maxHeartbeats 4000000 in
set_option maxRecDepth 100000 in
theorem c_X9_press_3 {l : Launch} {D : va_G} {cy : Nat → ClassId} {ad : Ads} (hI : IJ ad) (x : Mem) {j : Nat} (hj : j < 4) (p1 : Int32) (hs1 : ¬ p1 < 0) (hs2 : ¬ 7 < p1) (hb : x 10 (16 + 4 * j) = 0) : Cti l yX9_press cX9_press 3 (some .int) rm_X9_press D cy ad [.ref (ad 15 14 0), .int (nI (j)), .int p1] x (fun r y => r = 0 ∧ y = TF x 3) := by
  refine rm_entry (Qc := Qi D cy ad (fun r y => r = 0 ∧ y = TF x 3)) hI (by decide) (Nat.le_of_ble_eq_true rfl) ?_
  intro p e s m args below meth c hc
  show RM _ _ _ _ _ _ _ _ _ _ _ _ _ _ _ _ _ [(0, .ref (ad 15 14 0)), (1, .int (nI (j))), (2, .int p1)] []
  refine rm_aload_n hc dX9_press_0 rfl rfl ?_
  refine rm_iconst (v := 0) hc dX9_press_1 (by decide) ?_
  refine rm_put hc dX9_press_2 fl_X9_25 dm_14 rfl (Nat.le_of_ble_eq_true rfl) ft_9_6 rfl rfl so_14_6 (rm_nm (fun x_1 ex_1 => ?_))
  refine rm_iload_n hc dX9_press_5 rfl rfl ?_
  refine rm_calliS (As := [.int (nI (j))]) (rest := []) hc dX9_press_6 (c_X9_isFob hI x_1 (nI (j))) ms_X9_92 (hn := rfl) (hst := rfl) (hw := Nat.le_of_ble_eq_true rfl) (hR := ⟨⟨rfl, rfl⟩, Nat.le_of_ble_eq_true rfl, Nat.le_of_ble_eq_true rfl⟩) (hnc := ⟨Nat.zero_le _, Nat.zero_le _⟩) (fun r_2 y_2 h_2 => ?_)
  obtain ⟨e_2, ey_2⟩ := h_2
  obtain rfl := ey_2.symm
  obtain rfl : r_2 = 1 := e_2.trans (inN (n := 3) rfl (by omega) (by omega))
  refine rm_if_ne (tgt := 18) hc dX9_press_9 (by decide) (fun _ => ?_) (fun h => absurd h (by decide))
  refine rm_iload_n hc dX9_press_18 rfl rfl ?_
  refine rm_iconst (v := 0) hc dX9_press_19 (by decide) ?_
  refine rm_bipush (v := 7) hc dX9_press_20 (by decide) ?_
  refine rm_calliS (As := [.int p1, .int 0, .int 7]) (rest := []) hc dX9_press_22 (c_X9_in hI x_1 p1 0 7) ms_X9_29 (hn := rfl) (hst := rfl) (hw := Nat.le_of_ble_eq_true rfl) (hR := ⟨⟨rfl, rfl⟩, Nat.le_of_ble_eq_true rfl, Nat.le_of_ble_eq_true rfl⟩) (hnc := ⟨Nat.zero_le _, Nat.zero_le _⟩) (fun r_4 y_4 h_4 => ?_)
  obtain ⟨e_4, ey_4⟩ := h_4
  obtain rfl := ey_4.symm
  obtain rfl : r_4 = 1 := e_4.trans (inM_1 hs1 hs2)
  refine rm_if_ne (tgt := 34) hc dX9_press_25 (by decide) (fun _ => ?_) (fun h => absurd h (by decide))
  refine rm_aload_n hc dX9_press_34 rfl rfl ?_
  refine rm_get hc dX9_press_35 fl_X9_7 dm_14 rfl rfl ?_
  refine rm_bipush (v := 14) hc dX9_press_38 (by decide) ?_
  refine rm_iconst (v := 4) hc dX9_press_40 (by decide) ?_
  refine rm_iload_n hc dX9_press_41 rfl rfl ?_
  refine rm_imul hc dX9_press_42 (fun v_6 e_6 => ?_)
  obtain rfl : v_6 = (nI (4 * j)) := e_6.trans (nmul (m := 4) (n := j) (by omega))
  clear e_6
  refine rm_iadd hc dX9_press_43 (fun v_7 e_7 => ?_)
  obtain rfl : v_7 = (nI (14 + 4 * j)) := e_7.trans (nadd (m := 14) (n := 4 * j) (by omega))
  clear e_7
  refine rm_iconst (v := 2) hc dX9_press_44 (by decide) ?_
  refine rm_iadd hc dX9_press_45 (fun v_8 e_8 => ?_)
  obtain rfl : v_8 = (nI (16 + 4 * j)) := e_8.trans (nadd (m := 14 + 4 * j) (n := 2) (by omega))
  clear e_8
  refine rm_iald (i := 16 + 4 * j) hc dX9_press_46 (dm_15 (by omega)) rfl (by omega) (by decide) rfl (fun v_9 e_9 => ?_)
  have hv_9 : v_9 = x 10 (16 + 4 * j) := e_9.trans (by subst_vars; exact congrFun T0_10 _)
  refine rm_if_ne (tgt := 56) hc dX9_press_47 (by decide) (fun h => absurd (hv_9.trans hb) h) (fun _ => ?_)
  refine rm_aload_n hc dX9_press_50 rfl rfl ?_
  refine rm_iconst (v := 3) hc dX9_press_51 (by decide) ?_
  refine rm_calliV (As := [.int 3]) (rest := []) hc dX9_press_52 (c_X9_fails hI x_1 3) mv_X9_44 dm_14 rfl rfl (hn := rfl) (hst := rfl) (hw := Nat.le_of_ble_eq_true rfl) (hR := ⟨⟨rfl, rfl⟩, Nat.le_of_ble_eq_true rfl, Nat.le_of_ble_eq_true rfl⟩) (hnc := ⟨Nat.zero_le _, Nat.zero_le _⟩) (fun r_11 y_11 h_11 => ?_)
  obtain ⟨e_11, ey_11⟩ := h_11
  exact rm_iret hc dX9_press_55 ⟨e_11, by subst_vars; rfl⟩

set_option maxHeartbeats 4000000 in
set_option maxRecDepth 100000 in
theorem c_X9_press {l : Launch} {D : va_G} {cy : Nat → ClassId} {ad : Ads} (hI : IJ ad) (x : Mem) {j : Nat} (hj : j < 4) (p1 : Int32) (hs1 : ¬ p1 < 0) (hs2 : ¬ 7 < p1) (hb : ¬ x 10 (16 + 4 * j) = 0) (hRS : RS (x 10)) (mm : Nat) (hmm : mm ≤ 500) (hw : x 10 1 = nI mm) (hRF : RF (x 10)) {nr : Nat} (hnr : x 10 5 = nI nr) (hr8 : nr ≤ 8) {kq : Nat} (hk6 : kq ≤ 6) (hkq : x 15 0 = nI kq) : Cti l yX9_press cX9_press 3 (some .int) rm_X9_press D cy ad [.ref (ad 15 14 0), .int (nI (j)), .int p1] x (fun r y => r = (prsS (svM (T0 x) kq) 10 j p1 mm).1 ∧ M7 (prsS (svM (T0 x) kq) 10 j p1 mm).2 y) := by
  refine rm_entry (Qc := Qi D cy ad (fun r y => r = (prsS (svM (T0 x) kq) 10 j p1 mm).1 ∧ M7 (prsS (svM (T0 x) kq) 10 j p1 mm).2 y)) hI (by decide) (Nat.le_of_ble_eq_true rfl) ?_
  intro p e s m args below meth c hc
  show RM _ _ _ _ _ _ _ _ _ _ _ _ _ _ _ _ _ [(0, .ref (ad 15 14 0)), (1, .int (nI (j))), (2, .int p1)] []
  refine rm_aload_n hc dX9_press_0 rfl rfl ?_
  refine rm_iconst (v := 0) hc dX9_press_1 (by decide) ?_
  refine rm_put hc dX9_press_2 fl_X9_25 dm_14 rfl (Nat.le_of_ble_eq_true rfl) ft_9_6 rfl rfl so_14_6 (rm_nm (fun x_1 ex_1 => ?_))
  refine rm_iload_n hc dX9_press_5 rfl rfl ?_
  refine rm_calliS (As := [.int (nI (j))]) (rest := []) hc dX9_press_6 (c_X9_isFob hI x_1 (nI (j))) ms_X9_92 (hn := rfl) (hst := rfl) (hw := Nat.le_of_ble_eq_true rfl) (hR := ⟨⟨rfl, rfl⟩, Nat.le_of_ble_eq_true rfl, Nat.le_of_ble_eq_true rfl⟩) (hnc := ⟨Nat.zero_le _, Nat.zero_le _⟩) (fun r_2 y_2 h_2 => ?_)
  obtain ⟨e_2, ey_2⟩ := h_2
  obtain rfl := ey_2.symm
  obtain rfl : r_2 = 1 := e_2.trans (inN (n := 3) rfl (by omega) (by omega))
  refine rm_if_ne (tgt := 18) hc dX9_press_9 (by decide) (fun _ => ?_) (fun h => absurd h (by decide))
  refine rm_iload_n hc dX9_press_18 rfl rfl ?_
  refine rm_iconst (v := 0) hc dX9_press_19 (by decide) ?_
  refine rm_bipush (v := 7) hc dX9_press_20 (by decide) ?_
  refine rm_calliS (As := [.int p1, .int 0, .int 7]) (rest := []) hc dX9_press_22 (c_X9_in hI x_1 p1 0 7) ms_X9_29 (hn := rfl) (hst := rfl) (hw := Nat.le_of_ble_eq_true rfl) (hR := ⟨⟨rfl, rfl⟩, Nat.le_of_ble_eq_true rfl, Nat.le_of_ble_eq_true rfl⟩) (hnc := ⟨Nat.zero_le _, Nat.zero_le _⟩) (fun r_4 y_4 h_4 => ?_)
  obtain ⟨e_4, ey_4⟩ := h_4
  obtain rfl := ey_4.symm
  obtain rfl : r_4 = 1 := e_4.trans (inM_1 hs1 hs2)
  refine rm_if_ne (tgt := 34) hc dX9_press_25 (by decide) (fun _ => ?_) (fun h => absurd h (by decide))
  refine rm_aload_n hc dX9_press_34 rfl rfl ?_
  refine rm_get hc dX9_press_35 fl_X9_7 dm_14 rfl rfl ?_
  refine rm_bipush (v := 14) hc dX9_press_38 (by decide) ?_
  refine rm_iconst (v := 4) hc dX9_press_40 (by decide) ?_
  refine rm_iload_n hc dX9_press_41 rfl rfl ?_
  refine rm_imul hc dX9_press_42 (fun v_6 e_6 => ?_)
  obtain rfl : v_6 = (nI (4 * j)) := e_6.trans (nmul (m := 4) (n := j) (by omega))
  clear e_6
  refine rm_iadd hc dX9_press_43 (fun v_7 e_7 => ?_)
  obtain rfl : v_7 = (nI (14 + 4 * j)) := e_7.trans (nadd (m := 14) (n := 4 * j) (by omega))
  clear e_7
  refine rm_iconst (v := 2) hc dX9_press_44 (by decide) ?_
  refine rm_iadd hc dX9_press_45 (fun v_8 e_8 => ?_)
  obtain rfl : v_8 = (nI (16 + 4 * j)) := e_8.trans (nadd (m := 14 + 4 * j) (n := 2) (by omega))
  clear e_8
  refine rm_iald (i := 16 + 4 * j) hc dX9_press_46 (dm_15 (by omega)) rfl (by omega) (by decide) rfl (fun v_9 e_9 => ?_)
  have hv_9 : v_9 = x 10 (16 + 4 * j) := e_9.trans (by subst_vars; exact congrFun T0_10 _)
  refine rm_if_ne (tgt := 56) hc dX9_press_47 (by decide) (fun _ => ?_) (fun h => absurd h (fun h => hb (hv_9.symm.trans h)))
  refine rm_aload_n hc dX9_press_56 rfl rfl ?_
  refine rm_callvV (As := []) (rest := []) hc dX9_press_57 (c_X9_saves hI x_1 (kq := kq) (by omega) (by subst_vars; exact T0_0.trans hkq)) mv_X9_95 dm_14 rfl rfl (hn := rfl) (hst := rfl) (hw := Nat.le_of_ble_eq_true rfl) (hR := ⟨⟨rfl, rfl⟩, Nat.le_of_ble_eq_true rfl, Nat.le_of_ble_eq_true rfl⟩) (hnc := ⟨Nat.zero_le _, Nat.zero_le _⟩) (fun y_11 h_11 => ?_)
  refine rm_aload_n hc dX9_press_60 rfl rfl ?_
  refine rm_aload_n hc dX9_press_61 rfl rfl ?_
  refine rm_get hc dX9_press_62 fl_X9_7 dm_14 rfl rfl ?_
  refine rm_iload_n hc dX9_press_65 rfl rfl ?_
  refine rm_iload_n hc dX9_press_66 rfl rfl ?_
  refine rm_calliV (As := [.ref (ad 10 15 0), .int (nI (j)), .int p1]) (rest := []) hc dX9_press_67 (c_X9_presses hI y_11 (k := 10) (j := j) (nr := nr) (by omega) (by omega) p1 (by rw [h_11]; subst_vars; rw [sv0']; exact hRS) mm (by omega) (by rw [h_11]; subst_vars; rw [sv0']; exact hw) (by rw [h_11]; subst_vars; rw [sv0']; exact hRF) (by rw [h_11]; subst_vars; rw [sv0']; exact hnr) (by omega)) mv_X9_101 dm_14 rfl rfl (hn := rfl) (hst := rfl) (hw := Nat.le_of_ble_eq_true rfl) (hR := ⟨⟨rfl, rfl⟩, Nat.le_of_ble_eq_true rfl, Nat.le_of_ble_eq_true rfl⟩) (hnc := ⟨Nat.zero_le _, Nat.zero_le _⟩) (fun r_12 y_12 h_12 => ?_)
  obtain ⟨e_12, hM_12⟩ := h_12
  exact rm_iret hc dX9_press_70 ⟨by rw [e_12, h_11]; subst_vars; rfl, by rw [h_11] at hM_12; subst_vars; exact hM_12⟩

set_option maxHeartbeats 4000000 in
set_option maxRecDepth 100000 in
theorem c_X9_again_1 {l : Launch} {D : va_G} {cy : Nat → ClassId} {ad : Ads} (hI : IJ ad) (x : Mem) (p0 p1 : Int32) {nr : Nat} (hnr : x 10 5 = nI nr) (h0 : inM p0 0 (nI nr - 1) = 0) : Cti l yX9_again cX9_again 3 (some .int) rm_X9_again D cy ad [.ref (ad 15 14 0), .int p0, .int p1] x (fun r y => r = 0 ∧ y = TF x 1) := by
  refine rm_entry (Qc := Qi D cy ad (fun r y => r = 0 ∧ y = TF x 1)) hI (by decide) (Nat.le_of_ble_eq_true rfl) ?_
  intro p e s m args below meth c hc
  show RM _ _ _ _ _ _ _ _ _ _ _ _ _ _ _ _ _ [(0, .ref (ad 15 14 0)), (1, .int p0), (2, .int p1)] []
  refine rm_aload_n hc dX9_again_0 rfl rfl ?_
  refine rm_iconst (v := 0) hc dX9_again_1 (by decide) ?_
  refine rm_put hc dX9_again_2 fl_X9_25 dm_14 rfl (Nat.le_of_ble_eq_true rfl) ft_9_6 rfl rfl so_14_6 (rm_nm (fun x_1 ex_1 => ?_))
  refine rm_iload_n hc dX9_again_5 rfl rfl ?_
  refine rm_iconst (v := 0) hc dX9_again_6 (by decide) ?_
  refine rm_aload_n hc dX9_again_7 rfl rfl ?_
  refine rm_get hc dX9_again_8 fl_X9_7 dm_14 rfl rfl ?_
  refine rm_iconst (v := 5) hc dX9_again_11 (by decide) ?_
  refine rm_iald (i := 5) hc dX9_again_12 (dm_15 (by omega)) rfl (by omega) (by decide) rfl (fun v_2 e_2 => ?_)
  obtain rfl : v_2 = nI nr := e_2.trans (by subst_vars; exact (congrFun T0_10 _).trans hnr)
  refine rm_iconst (v := 1) hc dX9_again_13 (by decide) ?_
  refine rm_isub hc dX9_again_14 (fun v_3 e_3 => ?_)
  refine rm_calliS (As := [.int p0, .int 0, .int v_3]) (rest := []) hc dX9_again_15 (c_X9_in hI x_1 p0 0 v_3) ms_X9_29 (hn := rfl) (hst := rfl) (hw := Nat.le_of_ble_eq_true rfl) (hR := ⟨⟨rfl, rfl⟩, Nat.le_of_ble_eq_true rfl, Nat.le_of_ble_eq_true rfl⟩) (hnc := ⟨Nat.zero_le _, Nat.zero_le _⟩) (fun r_4 y_4 h_4 => ?_)
  obtain ⟨e_4, ey_4⟩ := h_4
  obtain rfl := ey_4.symm
  obtain rfl : r_4 = 0 := e_4.trans (by subst_vars; exact h0)
  refine rm_if_ne (tgt := 27) hc dX9_again_18 (by decide) (fun h => absurd h (by decide)) (fun _ => ?_)
  refine rm_aload_n hc dX9_again_21 rfl rfl ?_
  refine rm_iconst (v := 1) hc dX9_again_22 (by decide) ?_
  refine rm_calliV (As := [.int 1]) (rest := []) hc dX9_again_23 (c_X9_fails hI x_1 1) mv_X9_44 dm_14 rfl rfl (hn := rfl) (hst := rfl) (hw := Nat.le_of_ble_eq_true rfl) (hR := ⟨⟨rfl, rfl⟩, Nat.le_of_ble_eq_true rfl, Nat.le_of_ble_eq_true rfl⟩) (hnc := ⟨Nat.zero_le _, Nat.zero_le _⟩) (fun r_6 y_6 h_6 => ?_)
  obtain ⟨e_6, ey_6⟩ := h_6
  exact rm_iret hc dX9_again_26 ⟨e_6, by subst_vars; rfl⟩

set_option maxHeartbeats 4000000 in
set_option maxRecDepth 100000 in
theorem c_X9_again_2 {l : Launch} {D : va_G} {cy : Nat → ClassId} {ad : Ads} (hI : IJ ad) (x : Mem) {ii nr : Nat} (hii : ii < nr) (hr8 : nr ≤ 8) (hnr : x 10 5 = nI nr) (p1 : Int32) (h0 : inM p1 0 7 = 0) : Cti l yX9_again cX9_again 3 (some .int) rm_X9_again D cy ad [.ref (ad 15 14 0), .int (nI (ii)), .int p1] x (fun r y => r = 0 ∧ y = TF x 2) := by
  refine rm_entry (Qc := Qi D cy ad (fun r y => r = 0 ∧ y = TF x 2)) hI (by decide) (Nat.le_of_ble_eq_true rfl) ?_
  intro p e s m args below meth c hc
  show RM _ _ _ _ _ _ _ _ _ _ _ _ _ _ _ _ _ [(0, .ref (ad 15 14 0)), (1, .int (nI (ii))), (2, .int p1)] []
  refine rm_aload_n hc dX9_again_0 rfl rfl ?_
  refine rm_iconst (v := 0) hc dX9_again_1 (by decide) ?_
  refine rm_put hc dX9_again_2 fl_X9_25 dm_14 rfl (Nat.le_of_ble_eq_true rfl) ft_9_6 rfl rfl so_14_6 (rm_nm (fun x_1 ex_1 => ?_))
  refine rm_iload_n hc dX9_again_5 rfl rfl ?_
  refine rm_iconst (v := 0) hc dX9_again_6 (by decide) ?_
  refine rm_aload_n hc dX9_again_7 rfl rfl ?_
  refine rm_get hc dX9_again_8 fl_X9_7 dm_14 rfl rfl ?_
  refine rm_iconst (v := 5) hc dX9_again_11 (by decide) ?_
  refine rm_iald (i := 5) hc dX9_again_12 (dm_15 (by omega)) rfl (by omega) (by decide) rfl (fun v_2 e_2 => ?_)
  obtain rfl : v_2 = nI nr := e_2.trans (by subst_vars; exact (congrFun T0_10 _).trans hnr)
  refine rm_iconst (v := 1) hc dX9_again_13 (by decide) ?_
  refine rm_isub hc dX9_again_14 (fun v_3 e_3 => ?_)
  refine rm_calliS (As := [.int (nI (ii)), .int 0, .int v_3]) (rest := []) hc dX9_again_15 (c_X9_in hI x_1 (nI (ii)) 0 v_3) ms_X9_29 (hn := rfl) (hst := rfl) (hw := Nat.le_of_ble_eq_true rfl) (hR := ⟨⟨rfl, rfl⟩, Nat.le_of_ble_eq_true rfl, Nat.le_of_ble_eq_true rfl⟩) (hnc := ⟨Nat.zero_le _, Nat.zero_le _⟩) (fun r_4 y_4 h_4 => ?_)
  obtain ⟨e_4, ey_4⟩ := h_4
  obtain rfl := ey_4.symm
  obtain rfl : r_4 = 1 := e_4.trans (by subst_vars; exact inN (pk_sub (a := nr) (b := 1) (by omega)) (by omega) (by omega))
  refine rm_if_ne (tgt := 27) hc dX9_again_18 (by decide) (fun _ => ?_) (fun h => absurd h (by decide))
  refine rm_iload_n hc dX9_again_27 rfl rfl ?_
  refine rm_iconst (v := 0) hc dX9_again_28 (by decide) ?_
  refine rm_bipush (v := 7) hc dX9_again_29 (by decide) ?_
  refine rm_calliS (As := [.int p1, .int 0, .int 7]) (rest := []) hc dX9_again_31 (c_X9_in hI x_1 p1 0 7) ms_X9_29 (hn := rfl) (hst := rfl) (hw := Nat.le_of_ble_eq_true rfl) (hR := ⟨⟨rfl, rfl⟩, Nat.le_of_ble_eq_true rfl, Nat.le_of_ble_eq_true rfl⟩) (hnc := ⟨Nat.zero_le _, Nat.zero_le _⟩) (fun r_6 y_6 h_6 => ?_)
  obtain ⟨e_6, ey_6⟩ := h_6
  obtain rfl := ey_6.symm
  obtain rfl : r_6 = 0 := e_6.trans h0
  refine rm_if_ne (tgt := 43) hc dX9_again_34 (by decide) (fun h => absurd h (by decide)) (fun _ => ?_)
  refine rm_aload_n hc dX9_again_37 rfl rfl ?_
  refine rm_iconst (v := 2) hc dX9_again_38 (by decide) ?_
  refine rm_calliV (As := [.int 2]) (rest := []) hc dX9_again_39 (c_X9_fails hI x_1 2) mv_X9_44 dm_14 rfl rfl (hn := rfl) (hst := rfl) (hw := Nat.le_of_ble_eq_true rfl) (hR := ⟨⟨rfl, rfl⟩, Nat.le_of_ble_eq_true rfl, Nat.le_of_ble_eq_true rfl⟩) (hnc := ⟨Nat.zero_le _, Nat.zero_le _⟩) (fun r_8 y_8 h_8 => ?_)
  obtain ⟨e_8, ey_8⟩ := h_8
  exact rm_iret hc dX9_again_42 ⟨e_8, by subst_vars; rfl⟩

set_option maxHeartbeats 4000000 in
set_option maxRecDepth 100000 in
theorem c_X9_again {l : Launch} {D : va_G} {cy : Nat → ClassId} {ad : Ads} (hI : IJ ad) (x : Mem) {ii nr : Nat} (hii : ii < nr) (hr8 : nr ≤ 8) (hnr : x 10 5 = nI nr) (p1 : Int32) (hs1 : ¬ p1 < 0) (hs2 : ¬ 7 < p1) (hRS : RS (x 10)) (mm : Nat) (hmm : mm ≤ 500) (hw : x 10 1 = nI mm) {kq : Nat} (hk6 : kq ≤ 6) (hkq : x 15 0 = nI kq) : Cti l yX9_again cX9_again 3 (some .int) rm_X9_again D cy ad [.ref (ad 15 14 0), .int (nI (ii)), .int p1] x (fun r y => r = (agM (svM (T0 x) kq) ii p1 mm).1 ∧ M7 (agM (svM (T0 x) kq) ii p1 mm).2 y) := by
  refine rm_entry (Qc := Qi D cy ad (fun r y => r = (agM (svM (T0 x) kq) ii p1 mm).1 ∧ M7 (agM (svM (T0 x) kq) ii p1 mm).2 y)) hI (by decide) (Nat.le_of_ble_eq_true rfl) ?_
  intro p e s m args below meth c hc
  show RM _ _ _ _ _ _ _ _ _ _ _ _ _ _ _ _ _ [(0, .ref (ad 15 14 0)), (1, .int (nI (ii))), (2, .int p1)] []
  refine rm_aload_n hc dX9_again_0 rfl rfl ?_
  refine rm_iconst (v := 0) hc dX9_again_1 (by decide) ?_
  refine rm_put hc dX9_again_2 fl_X9_25 dm_14 rfl (Nat.le_of_ble_eq_true rfl) ft_9_6 rfl rfl so_14_6 (rm_nm (fun x_1 ex_1 => ?_))
  refine rm_iload_n hc dX9_again_5 rfl rfl ?_
  refine rm_iconst (v := 0) hc dX9_again_6 (by decide) ?_
  refine rm_aload_n hc dX9_again_7 rfl rfl ?_
  refine rm_get hc dX9_again_8 fl_X9_7 dm_14 rfl rfl ?_
  refine rm_iconst (v := 5) hc dX9_again_11 (by decide) ?_
  refine rm_iald (i := 5) hc dX9_again_12 (dm_15 (by omega)) rfl (by omega) (by decide) rfl (fun v_2 e_2 => ?_)
  obtain rfl : v_2 = nI nr := e_2.trans (by subst_vars; exact (congrFun T0_10 _).trans hnr)
  refine rm_iconst (v := 1) hc dX9_again_13 (by decide) ?_
  refine rm_isub hc dX9_again_14 (fun v_3 e_3 => ?_)
  refine rm_calliS (As := [.int (nI (ii)), .int 0, .int v_3]) (rest := []) hc dX9_again_15 (c_X9_in hI x_1 (nI (ii)) 0 v_3) ms_X9_29 (hn := rfl) (hst := rfl) (hw := Nat.le_of_ble_eq_true rfl) (hR := ⟨⟨rfl, rfl⟩, Nat.le_of_ble_eq_true rfl, Nat.le_of_ble_eq_true rfl⟩) (hnc := ⟨Nat.zero_le _, Nat.zero_le _⟩) (fun r_4 y_4 h_4 => ?_)
  obtain ⟨e_4, ey_4⟩ := h_4
  obtain rfl := ey_4.symm
  obtain rfl : r_4 = 1 := e_4.trans (by subst_vars; exact inN (pk_sub (a := nr) (b := 1) (by omega)) (by omega) (by omega))
  refine rm_if_ne (tgt := 27) hc dX9_again_18 (by decide) (fun _ => ?_) (fun h => absurd h (by decide))
  refine rm_iload_n hc dX9_again_27 rfl rfl ?_
  refine rm_iconst (v := 0) hc dX9_again_28 (by decide) ?_
  refine rm_bipush (v := 7) hc dX9_again_29 (by decide) ?_
  refine rm_calliS (As := [.int p1, .int 0, .int 7]) (rest := []) hc dX9_again_31 (c_X9_in hI x_1 p1 0 7) ms_X9_29 (hn := rfl) (hst := rfl) (hw := Nat.le_of_ble_eq_true rfl) (hR := ⟨⟨rfl, rfl⟩, Nat.le_of_ble_eq_true rfl, Nat.le_of_ble_eq_true rfl⟩) (hnc := ⟨Nat.zero_le _, Nat.zero_le _⟩) (fun r_6 y_6 h_6 => ?_)
  obtain ⟨e_6, ey_6⟩ := h_6
  obtain rfl := ey_6.symm
  obtain rfl : r_6 = 1 := e_6.trans (inM_1 hs1 hs2)
  refine rm_if_ne (tgt := 43) hc dX9_again_34 (by decide) (fun _ => ?_) (fun h => absurd h (by decide))
  refine rm_aload_n hc dX9_again_43 rfl rfl ?_
  refine rm_callvV (As := []) (rest := []) hc dX9_again_44 (c_X9_saves hI x_1 (kq := kq) (by omega) (by subst_vars; exact T0_0.trans hkq)) mv_X9_95 dm_14 rfl rfl (hn := rfl) (hst := rfl) (hw := Nat.le_of_ble_eq_true rfl) (hR := ⟨⟨rfl, rfl⟩, Nat.le_of_ble_eq_true rfl, Nat.le_of_ble_eq_true rfl⟩) (hnc := ⟨Nat.zero_le _, Nat.zero_le _⟩) (fun y_8 h_8 => ?_)
  refine rm_aload_n hc dX9_again_47 rfl rfl ?_
  refine rm_iload_n hc dX9_again_48 rfl rfl ?_
  refine rm_iload_n hc dX9_again_49 rfl rfl ?_
  refine rm_calliV (As := [.int (nI (ii)), .int p1]) (rest := []) hc dX9_again_50 (c_X9_sends hI y_8 (ii := ii) (by omega) p1 (by rw [h_8]; subst_vars; rw [sv0']; exact hRS) mm (by omega) (by rw [h_8]; subst_vars; rw [sv0']; exact hw)) mv_X9_104 dm_14 rfl rfl (hn := rfl) (hst := rfl) (hw := Nat.le_of_ble_eq_true rfl) (hR := ⟨⟨rfl, rfl⟩, Nat.le_of_ble_eq_true rfl, Nat.le_of_ble_eq_true rfl⟩) (hnc := ⟨Nat.zero_le _, Nat.zero_le _⟩) (fun r_9 y_9 h_9 => ?_)
  obtain ⟨e_9, hM_9⟩ := h_9
  exact rm_iret hc dX9_again_53 ⟨by rw [e_9, h_8]; subst_vars; rfl, by rw [h_8] at hM_9; subst_vars; exact hM_9⟩

set_option maxHeartbeats 4000000 in
set_option maxRecDepth 100000 in
theorem c_X9_learn_1 {l : Launch} {D : va_G} {cy : Nat → ClassId} {ad : Ads} (hI : IJ ad) (x : Mem) (p0 p1 p2 : Int32) (h0 : isSl p0 p1 = 0) : Cti l yX9_learn cX9_learn 5 (some .int) rm_X9_learn D cy ad [.ref (ad 15 14 0), .int p0, .int p1, .int p2] x (fun r y => r = 0 ∧ y = TF x 1) := by
  refine rm_entry (Qc := Qi D cy ad (fun r y => r = 0 ∧ y = TF x 1)) hI (by decide) (Nat.le_of_ble_eq_true rfl) ?_
  intro p e s m args below meth c hc
  show RM _ _ _ _ _ _ _ _ _ _ _ _ _ _ _ _ _ [(0, .ref (ad 15 14 0)), (1, .int p0), (2, .int p1), (3, .int p2)] []
  refine rm_aload_n hc dX9_learn_0 rfl rfl ?_
  refine rm_iconst (v := 0) hc dX9_learn_1 (by decide) ?_
  refine rm_put hc dX9_learn_2 fl_X9_25 dm_14 rfl (Nat.le_of_ble_eq_true rfl) ft_9_6 rfl rfl so_14_6 (rm_nm (fun x_1 ex_1 => ?_))
  refine rm_iload_n hc dX9_learn_5 rfl rfl ?_
  refine rm_iload_n hc dX9_learn_6 rfl rfl ?_
  refine rm_calliS (As := [.int p0, .int p1]) (rest := []) hc dX9_learn_7 (c_X9_isSlot hI x_1 p0 p1) ms_X9_107 (hn := rfl) (hst := rfl) (hw := Nat.le_of_ble_eq_true rfl) (hR := ⟨⟨rfl, rfl⟩, Nat.le_of_ble_eq_true rfl, Nat.le_of_ble_eq_true rfl⟩) (hnc := ⟨Nat.zero_le _, Nat.zero_le _⟩) (fun r_2 y_2 h_2 => ?_)
  obtain ⟨e_2, ey_2⟩ := h_2
  obtain rfl := ey_2.symm
  obtain rfl : r_2 = 0 := e_2.trans h0
  refine rm_if_eq (tgt := 20) hc dX9_learn_10 (by decide) (fun _ => ?_) (fun h => absurd (by decide) h)
  refine rm_aload_n hc dX9_learn_20 rfl rfl ?_
  refine rm_iconst (v := 1) hc dX9_learn_21 (by decide) ?_
  refine rm_calliV (As := [.int 1]) (rest := []) hc dX9_learn_22 (c_X9_fails hI x_1 1) mv_X9_44 dm_14 rfl rfl (hn := rfl) (hst := rfl) (hw := Nat.le_of_ble_eq_true rfl) (hR := ⟨⟨rfl, rfl⟩, Nat.le_of_ble_eq_true rfl, Nat.le_of_ble_eq_true rfl⟩) (hnc := ⟨Nat.zero_le _, Nat.zero_le _⟩) (fun r_4 y_4 h_4 => ?_)
  obtain ⟨e_4, ey_4⟩ := h_4
  exact rm_iret hc dX9_learn_25 ⟨e_4, by subst_vars; rfl⟩

set_option maxHeartbeats 4000000 in
set_option maxRecDepth 100000 in
theorem c_X9_learn_2 {l : Launch} {D : va_G} {cy : Nat → ClassId} {ad : Ads} (hI : IJ ad) (x : Mem) (p0 p1 p2 : Int32) (h1 : isSl p0 p1 = 1) (h0 : inM p2 0 3 = 0) : Cti l yX9_learn cX9_learn 5 (some .int) rm_X9_learn D cy ad [.ref (ad 15 14 0), .int p0, .int p1, .int p2] x (fun r y => r = 0 ∧ y = TF x 1) := by
  refine rm_entry (Qc := Qi D cy ad (fun r y => r = 0 ∧ y = TF x 1)) hI (by decide) (Nat.le_of_ble_eq_true rfl) ?_
  intro p e s m args below meth c hc
  show RM _ _ _ _ _ _ _ _ _ _ _ _ _ _ _ _ _ [(0, .ref (ad 15 14 0)), (1, .int p0), (2, .int p1), (3, .int p2)] []
  refine rm_aload_n hc dX9_learn_0 rfl rfl ?_
  refine rm_iconst (v := 0) hc dX9_learn_1 (by decide) ?_
  refine rm_put hc dX9_learn_2 fl_X9_25 dm_14 rfl (Nat.le_of_ble_eq_true rfl) ft_9_6 rfl rfl so_14_6 (rm_nm (fun x_1 ex_1 => ?_))
  refine rm_iload_n hc dX9_learn_5 rfl rfl ?_
  refine rm_iload_n hc dX9_learn_6 rfl rfl ?_
  refine rm_calliS (As := [.int p0, .int p1]) (rest := []) hc dX9_learn_7 (c_X9_isSlot hI x_1 p0 p1) ms_X9_107 (hn := rfl) (hst := rfl) (hw := Nat.le_of_ble_eq_true rfl) (hR := ⟨⟨rfl, rfl⟩, Nat.le_of_ble_eq_true rfl, Nat.le_of_ble_eq_true rfl⟩) (hnc := ⟨Nat.zero_le _, Nat.zero_le _⟩) (fun r_2 y_2 h_2 => ?_)
  obtain ⟨e_2, ey_2⟩ := h_2
  obtain rfl := ey_2.symm
  obtain rfl : r_2 = 1 := e_2.trans h1
  refine rm_if_eq (tgt := 20) hc dX9_learn_10 (by decide) (fun h => absurd h (by decide)) (fun _ => ?_)
  refine rm_iload_n hc dX9_learn_13 rfl rfl ?_
  refine rm_calliS (As := [.int p2]) (rest := []) hc dX9_learn_14 (c_X9_isFob hI x_1 p2) ms_X9_92 (hn := rfl) (hst := rfl) (hw := Nat.le_of_ble_eq_true rfl) (hR := ⟨⟨rfl, rfl⟩, Nat.le_of_ble_eq_true rfl, Nat.le_of_ble_eq_true rfl⟩) (hnc := ⟨Nat.zero_le _, Nat.zero_le _⟩) (fun r_4 y_4 h_4 => ?_)
  obtain ⟨e_4, ey_4⟩ := h_4
  obtain rfl := ey_4.symm
  obtain rfl : r_4 = 0 := e_4.trans h0
  refine rm_if_ne (tgt := 26) hc dX9_learn_17 (by decide) (fun h => absurd h (by decide)) (fun _ => ?_)
  refine rm_aload_n hc dX9_learn_20 rfl rfl ?_
  refine rm_iconst (v := 1) hc dX9_learn_21 (by decide) ?_
  refine rm_calliV (As := [.int 1]) (rest := []) hc dX9_learn_22 (c_X9_fails hI x_1 1) mv_X9_44 dm_14 rfl rfl (hn := rfl) (hst := rfl) (hw := Nat.le_of_ble_eq_true rfl) (hR := ⟨⟨rfl, rfl⟩, Nat.le_of_ble_eq_true rfl, Nat.le_of_ble_eq_true rfl⟩) (hnc := ⟨Nat.zero_le _, Nat.zero_le _⟩) (fun r_6 y_6 h_6 => ?_)
  obtain ⟨e_6, ey_6⟩ := h_6
  exact rm_iret hc dX9_learn_25 ⟨e_6, by subst_vars; rfl⟩

set_option maxHeartbeats 4000000 in
set_option maxRecDepth 100000 in
theorem c_X9_learn {l : Launch} {D : va_G} {cy : Nat → ClassId} {ad : Ads} (hI : IJ ad) (x : Mem) {d s0 j : Nat} (hd3 : d < 3) (hs : s0 < 4) (hj : j < 4) {kq : Nat} (hk6 : kq ≤ 6) (hkq : x 15 0 = nI kq) : Cti l yX9_learn cX9_learn 5 (some .int) rm_X9_learn D cy ad [.ref (ad 15 14 0), .int (nI (d)), .int (nI (s0)), .int (nI (j))] x (fun r y => r = lrM (lnM (svM (T0 x) kq) d s0 j) d ∧ y = lnM (svM (T0 x) kq) d s0 j) := by
  refine rm_entry (Qc := Qi D cy ad (fun r y => r = lrM (lnM (svM (T0 x) kq) d s0 j) d ∧ y = lnM (svM (T0 x) kq) d s0 j)) hI (by decide) (Nat.le_of_ble_eq_true rfl) ?_
  intro p e s m args below meth c hc
  show RM _ _ _ _ _ _ _ _ _ _ _ _ _ _ _ _ _ [(0, .ref (ad 15 14 0)), (1, .int (nI (d))), (2, .int (nI (s0))), (3, .int (nI (j)))] []
  refine rm_aload_n hc dX9_learn_0 rfl rfl ?_
  refine rm_iconst (v := 0) hc dX9_learn_1 (by decide) ?_
  refine rm_put hc dX9_learn_2 fl_X9_25 dm_14 rfl (Nat.le_of_ble_eq_true rfl) ft_9_6 rfl rfl so_14_6 (rm_nm (fun x_1 ex_1 => ?_))
  refine rm_iload_n hc dX9_learn_5 rfl rfl ?_
  refine rm_iload_n hc dX9_learn_6 rfl rfl ?_
  refine rm_calliS (As := [.int (nI (d)), .int (nI (s0))]) (rest := []) hc dX9_learn_7 (c_X9_isSlot hI x_1 (nI (d)) (nI (s0))) ms_X9_107 (hn := rfl) (hst := rfl) (hw := Nat.le_of_ble_eq_true rfl) (hR := ⟨⟨rfl, rfl⟩, Nat.le_of_ble_eq_true rfl, Nat.le_of_ble_eq_true rfl⟩) (hnc := ⟨Nat.zero_le _, Nat.zero_le _⟩) (fun r_2 y_2 h_2 => ?_)
  obtain ⟨e_2, ey_2⟩ := h_2
  obtain rfl := ey_2.symm
  obtain rfl : r_2 = 1 := e_2.trans (isSlN (by omega) (by omega))
  refine rm_if_eq (tgt := 20) hc dX9_learn_10 (by decide) (fun h => absurd h (by decide)) (fun _ => ?_)
  refine rm_iload_n hc dX9_learn_13 rfl rfl ?_
  refine rm_calliS (As := [.int (nI (j))]) (rest := []) hc dX9_learn_14 (c_X9_isFob hI x_1 (nI (j))) ms_X9_92 (hn := rfl) (hst := rfl) (hw := Nat.le_of_ble_eq_true rfl) (hR := ⟨⟨rfl, rfl⟩, Nat.le_of_ble_eq_true rfl, Nat.le_of_ble_eq_true rfl⟩) (hnc := ⟨Nat.zero_le _, Nat.zero_le _⟩) (fun r_4 y_4 h_4 => ?_)
  obtain ⟨e_4, ey_4⟩ := h_4
  obtain rfl := ey_4.symm
  obtain rfl : r_4 = 1 := e_4.trans (inN (n := 3) rfl (by omega) (by omega))
  refine rm_if_ne (tgt := 26) hc dX9_learn_17 (by decide) (fun _ => ?_) (fun h => absurd h (by decide))
  refine rm_aload_n hc dX9_learn_26 rfl rfl ?_
  refine rm_callvV (As := []) (rest := []) hc dX9_learn_27 (c_X9_saves hI x_1 (kq := kq) (by omega) (by subst_vars; exact T0_0.trans hkq)) mv_X9_95 dm_14 rfl rfl (hn := rfl) (hst := rfl) (hw := Nat.le_of_ble_eq_true rfl) (hR := ⟨⟨rfl, rfl⟩, Nat.le_of_ble_eq_true rfl, Nat.le_of_ble_eq_true rfl⟩) (hnc := ⟨Nat.zero_le _, Nat.zero_le _⟩) (fun y_6 h_6 => ?_)
  refine rm_iload_n hc dX9_learn_30 rfl rfl ?_
  refine rm_iload_n hc dX9_learn_31 rfl rfl ?_
  refine rm_calliS (As := [.int (nI (d)), .int (nI (s0))]) (rest := []) hc dX9_learn_32 (c_X9_slotAt hI y_6 (d := d) (s0 := s0) (by omega) (by omega)) ms_X9_56 (hn := rfl) (hst := rfl) (hw := Nat.le_of_ble_eq_true rfl) (hR := ⟨⟨rfl, rfl⟩, Nat.le_of_ble_eq_true rfl, Nat.le_of_ble_eq_true rfl⟩) (hnc := ⟨Nat.zero_le _, Nat.zero_le _⟩) (fun r_7 y_7 h_7 => ?_)
  obtain ⟨e_7, ey_7⟩ := h_7
  obtain rfl := ey_7.symm
  obtain rfl : r_7 = (nI (36 + 22 * d + 4 * s0)) := e_7
  refine rm_istore (ls' := [(0, .ref (ad 15 14 0)), (1, .int (nI (d))), (2, .int (nI (s0))), (3, .int (nI (j))), (4, .int (nI (36 + 22 * d + 4 * s0)))]) hc dX9_learn_35 (by decide) rfl ?_
  refine rm_aload_n hc dX9_learn_37 rfl rfl ?_
  refine rm_get hc dX9_learn_38 fl_X9_7 dm_14 rfl rfl ?_
  refine rm_iload hc dX9_learn_41 rfl ?_
  refine rm_iconst (v := 1) hc dX9_learn_43 (by decide) ?_
  refine rm_iast (i := 36 + 22 * d + 4 * s0) hc dX9_learn_44 (dm_15 (by omega)) rfl (by omega) (by decide) rfl (so_15 (by omega)) (rm_nm (fun x_8 ex_8 => ?_))
  refine rm_aload_n hc dX9_learn_45 rfl rfl ?_
  refine rm_get hc dX9_learn_46 fl_X9_7 dm_14 rfl rfl ?_
  refine rm_iload hc dX9_learn_49 rfl ?_
  refine rm_iconst (v := 1) hc dX9_learn_51 (by decide) ?_
  refine rm_iadd hc dX9_learn_52 (fun v_9 e_9 => ?_)
  obtain rfl : v_9 = (nI (37 + 22 * d + 4 * s0)) := e_9.trans (nadd (m := 36 + 22 * d + 4 * s0) (n := 1) (by omega))
  clear e_9
  refine rm_aload_n hc dX9_learn_53 rfl rfl ?_
  refine rm_get hc dX9_learn_54 fl_X9_7 dm_14 rfl rfl ?_
  refine rm_bipush (v := 14) hc dX9_learn_57 (by decide) ?_
  refine rm_iconst (v := 4) hc dX9_learn_59 (by decide) ?_
  refine rm_iload_n hc dX9_learn_60 rfl rfl ?_
  refine rm_imul hc dX9_learn_61 (fun v_10 e_10 => ?_)
  obtain rfl : v_10 = (nI (4 * j)) := e_10.trans (nmul (m := 4) (n := j) (by omega))
  clear e_10
  refine rm_iadd hc dX9_learn_62 (fun v_11 e_11 => ?_)
  obtain rfl : v_11 = (nI (14 + 4 * j)) := e_11.trans (nadd (m := 14) (n := 4 * j) (by omega))
  clear e_11
  refine rm_iald (i := 14 + 4 * j) hc dX9_learn_63 (dm_15 (by omega)) rfl (by omega) (by decide) rfl (fun v_12 e_12 => ?_)
  refine rm_iast (i := 37 + 22 * d + 4 * s0) hc dX9_learn_64 (dm_15 (by omega)) rfl (by omega) (by decide) rfl (so_15 (by omega)) (rm_nm (fun x_13 ex_13 => ?_))
  refine rm_aload_n hc dX9_learn_65 rfl rfl ?_
  refine rm_get hc dX9_learn_66 fl_X9_7 dm_14 rfl rfl ?_
  refine rm_iload hc dX9_learn_69 rfl ?_
  refine rm_iconst (v := 2) hc dX9_learn_71 (by decide) ?_
  refine rm_iadd hc dX9_learn_72 (fun v_14 e_14 => ?_)
  obtain rfl : v_14 = (nI (38 + 22 * d + 4 * s0)) := e_14.trans (nadd (m := 36 + 22 * d + 4 * s0) (n := 2) (by omega))
  clear e_14
  refine rm_aload_n hc dX9_learn_73 rfl rfl ?_
  refine rm_get hc dX9_learn_74 fl_X9_7 dm_14 rfl rfl ?_
  refine rm_bipush (v := 14) hc dX9_learn_77 (by decide) ?_
  refine rm_iconst (v := 4) hc dX9_learn_79 (by decide) ?_
  refine rm_iload_n hc dX9_learn_80 rfl rfl ?_
  refine rm_imul hc dX9_learn_81 (fun v_15 e_15 => ?_)
  obtain rfl : v_15 = (nI (4 * j)) := e_15.trans (nmul (m := 4) (n := j) (by omega))
  clear e_15
  refine rm_iadd hc dX9_learn_82 (fun v_16 e_16 => ?_)
  obtain rfl : v_16 = (nI (14 + 4 * j)) := e_16.trans (nadd (m := 14) (n := 4 * j) (by omega))
  clear e_16
  refine rm_iconst (v := 1) hc dX9_learn_83 (by decide) ?_
  refine rm_iadd hc dX9_learn_84 (fun v_17 e_17 => ?_)
  obtain rfl : v_17 = (nI (15 + 4 * j)) := e_17.trans (nadd (m := 14 + 4 * j) (n := 1) (by omega))
  clear e_17
  refine rm_iald (i := 15 + 4 * j) hc dX9_learn_85 (dm_15 (by omega)) rfl (by omega) (by decide) rfl (fun v_18 e_18 => ?_)
  refine rm_iast (i := 38 + 22 * d + 4 * s0) hc dX9_learn_86 (dm_15 (by omega)) rfl (by omega) (by decide) rfl (so_15 (by omega)) (rm_nm (fun x_19 ex_19 => ?_))
  refine rm_aload_n hc dX9_learn_87 rfl rfl ?_
  refine rm_get hc dX9_learn_88 fl_X9_7 dm_14 rfl rfl ?_
  refine rm_iload hc dX9_learn_91 rfl ?_
  refine rm_iconst (v := 3) hc dX9_learn_93 (by decide) ?_
  refine rm_iadd hc dX9_learn_94 (fun v_20 e_20 => ?_)
  obtain rfl : v_20 = (nI (39 + 22 * d + 4 * s0)) := e_20.trans (nadd (m := 36 + 22 * d + 4 * s0) (n := 3) (by omega))
  clear e_20
  refine rm_iconst (v := -1) hc dX9_learn_95 (by decide) ?_
  refine rm_iast (i := 39 + 22 * d + 4 * s0) hc dX9_learn_96 (dm_15 (by omega)) rfl (by omega) (by decide) rfl (so_15 (by omega)) (rm_nm (fun x_21 ex_21 => ?_))
  refine rm_aload_n hc dX9_learn_97 rfl rfl ?_
  refine rm_iload_n hc dX9_learn_98 rfl rfl ?_
  refine rm_calliV (As := [.int (nI (d))]) (rest := []) hc dX9_learn_99 (c_X9_learnt hI x_21 (d := d) (by omega)) mv_X9_111 dm_14 rfl rfl (hn := rfl) (hst := rfl) (hw := Nat.le_of_ble_eq_true rfl) (hR := ⟨⟨rfl, rfl⟩, Nat.le_of_ble_eq_true rfl, Nat.le_of_ble_eq_true rfl⟩) (hnc := ⟨Nat.zero_le _, Nat.zero_le _⟩) (fun r_22 y_22 h_22 => ?_)
  obtain ⟨e_22, ey_22⟩ := h_22
  obtain rfl := ey_22.symm
  exact rm_iret hc dX9_learn_102 ⟨by rw [e_22, (show x_21 = lnM (svM (T0 x) kq) d s0 j by subst_vars; unfold lnM; rw [up_n _ _ (by omega), up_n _ _ (by omega), up_n _ _ (by omega)]; rfl)], (show x_21 = lnM (svM (T0 x) kq) d s0 j by subst_vars; unfold lnM; rw [up_n _ _ (by omega), up_n _ _ (by omega), up_n _ _ (by omega)]; rfl)⟩

set_option maxHeartbeats 4000000 in
set_option maxRecDepth 100000 in
theorem c_X9_forget_1 {l : Launch} {D : va_G} {cy : Nat → ClassId} {ad : Ads} (hI : IJ ad) (x : Mem) (p0 p1 : Int32) (h0 : isSl p0 p1 = 0) : Cti l yX9_forget cX9_forget 3 (some .int) rm_X9_forget D cy ad [.ref (ad 15 14 0), .int p0, .int p1] x (fun r y => r = 0 ∧ y = TF x 1) := by
  refine rm_entry (Qc := Qi D cy ad (fun r y => r = 0 ∧ y = TF x 1)) hI (by decide) (Nat.le_of_ble_eq_true rfl) ?_
  intro p e s m args below meth c hc
  show RM _ _ _ _ _ _ _ _ _ _ _ _ _ _ _ _ _ [(0, .ref (ad 15 14 0)), (1, .int p0), (2, .int p1)] []
  refine rm_aload_n hc dX9_forget_0 rfl rfl ?_
  refine rm_iconst (v := 0) hc dX9_forget_1 (by decide) ?_
  refine rm_put hc dX9_forget_2 fl_X9_25 dm_14 rfl (Nat.le_of_ble_eq_true rfl) ft_9_6 rfl rfl so_14_6 (rm_nm (fun x_1 ex_1 => ?_))
  refine rm_iload_n hc dX9_forget_5 rfl rfl ?_
  refine rm_iload_n hc dX9_forget_6 rfl rfl ?_
  refine rm_calliS (As := [.int p0, .int p1]) (rest := []) hc dX9_forget_7 (c_X9_isSlot hI x_1 p0 p1) ms_X9_107 (hn := rfl) (hst := rfl) (hw := Nat.le_of_ble_eq_true rfl) (hR := ⟨⟨rfl, rfl⟩, Nat.le_of_ble_eq_true rfl, Nat.le_of_ble_eq_true rfl⟩) (hnc := ⟨Nat.zero_le _, Nat.zero_le _⟩) (fun r_2 y_2 h_2 => ?_)
  obtain ⟨e_2, ey_2⟩ := h_2
  obtain rfl := ey_2.symm
  obtain rfl : r_2 = 0 := e_2.trans h0
  refine rm_if_ne (tgt := 19) hc dX9_forget_10 (by decide) (fun h => absurd h (by decide)) (fun _ => ?_)
  refine rm_aload_n hc dX9_forget_13 rfl rfl ?_
  refine rm_iconst (v := 1) hc dX9_forget_14 (by decide) ?_
  refine rm_calliV (As := [.int 1]) (rest := []) hc dX9_forget_15 (c_X9_fails hI x_1 1) mv_X9_44 dm_14 rfl rfl (hn := rfl) (hst := rfl) (hw := Nat.le_of_ble_eq_true rfl) (hR := ⟨⟨rfl, rfl⟩, Nat.le_of_ble_eq_true rfl, Nat.le_of_ble_eq_true rfl⟩) (hnc := ⟨Nat.zero_le _, Nat.zero_le _⟩) (fun r_4 y_4 h_4 => ?_)
  obtain ⟨e_4, ey_4⟩ := h_4
  exact rm_iret hc dX9_forget_18 ⟨e_4, by subst_vars; rfl⟩

set_option maxHeartbeats 4000000 in
set_option maxRecDepth 100000 in
theorem c_X9_forget {l : Launch} {D : va_G} {cy : Nat → ClassId} {ad : Ads} (hI : IJ ad) (x : Mem) {d s0 : Nat} (hd3 : d < 3) (hs : s0 < 4) {kq : Nat} (hk6 : kq ≤ 6) (hkq : x 15 0 = nI kq) : Cti l yX9_forget cX9_forget 3 (some .int) rm_X9_forget D cy ad [.ref (ad 15 14 0), .int (nI (d)), .int (nI (s0))] x (fun r y => r = x 10 (36 + 22 * d + 4 * s0) ∧ y = up (svM (T0 x) kq) 10 (36 + 22 * d + 4 * s0) 0) := by
  refine rm_entry (Qc := Qi D cy ad (fun r y => r = x 10 (36 + 22 * d + 4 * s0) ∧ y = up (svM (T0 x) kq) 10 (36 + 22 * d + 4 * s0) 0)) hI (by decide) (Nat.le_of_ble_eq_true rfl) ?_
  intro p e s m args below meth c hc
  show RM _ _ _ _ _ _ _ _ _ _ _ _ _ _ _ _ _ [(0, .ref (ad 15 14 0)), (1, .int (nI (d))), (2, .int (nI (s0)))] []
  refine rm_aload_n hc dX9_forget_0 rfl rfl ?_
  refine rm_iconst (v := 0) hc dX9_forget_1 (by decide) ?_
  refine rm_put hc dX9_forget_2 fl_X9_25 dm_14 rfl (Nat.le_of_ble_eq_true rfl) ft_9_6 rfl rfl so_14_6 (rm_nm (fun x_1 ex_1 => ?_))
  refine rm_iload_n hc dX9_forget_5 rfl rfl ?_
  refine rm_iload_n hc dX9_forget_6 rfl rfl ?_
  refine rm_calliS (As := [.int (nI (d)), .int (nI (s0))]) (rest := []) hc dX9_forget_7 (c_X9_isSlot hI x_1 (nI (d)) (nI (s0))) ms_X9_107 (hn := rfl) (hst := rfl) (hw := Nat.le_of_ble_eq_true rfl) (hR := ⟨⟨rfl, rfl⟩, Nat.le_of_ble_eq_true rfl, Nat.le_of_ble_eq_true rfl⟩) (hnc := ⟨Nat.zero_le _, Nat.zero_le _⟩) (fun r_2 y_2 h_2 => ?_)
  obtain ⟨e_2, ey_2⟩ := h_2
  obtain rfl := ey_2.symm
  obtain rfl : r_2 = 1 := e_2.trans (isSlN (by omega) (by omega))
  refine rm_if_ne (tgt := 19) hc dX9_forget_10 (by decide) (fun _ => ?_) (fun h => absurd h (by decide))
  refine rm_aload_n hc dX9_forget_19 rfl rfl ?_
  refine rm_callvV (As := []) (rest := []) hc dX9_forget_20 (c_X9_saves hI x_1 (kq := kq) (by omega) (by subst_vars; exact T0_0.trans hkq)) mv_X9_95 dm_14 rfl rfl (hn := rfl) (hst := rfl) (hw := Nat.le_of_ble_eq_true rfl) (hR := ⟨⟨rfl, rfl⟩, Nat.le_of_ble_eq_true rfl, Nat.le_of_ble_eq_true rfl⟩) (hnc := ⟨Nat.zero_le _, Nat.zero_le _⟩) (fun y_4 h_4 => ?_)
  refine rm_aload_n hc dX9_forget_23 rfl rfl ?_
  refine rm_iload_n hc dX9_forget_24 rfl rfl ?_
  refine rm_iload_n hc dX9_forget_25 rfl rfl ?_
  refine rm_calliS (As := [.int (nI (d)), .int (nI (s0))]) (rest := [.ref (ad 15 14 0)]) hc dX9_forget_26 (c_X9_slotAt hI y_4 (d := d) (s0 := s0) (by omega) (by omega)) ms_X9_56 (hn := rfl) (hst := rfl) (hw := Nat.le_of_ble_eq_true rfl) (hR := ⟨⟨rfl, rfl⟩, Nat.le_of_ble_eq_true rfl, Nat.le_of_ble_eq_true rfl⟩) (hnc := ⟨Nat.zero_le _, Nat.zero_le _⟩) (fun r_5 y_5 h_5 => ?_)
  obtain ⟨e_5, ey_5⟩ := h_5
  obtain rfl := ey_5.symm
  obtain rfl : r_5 = (nI (36 + 22 * d + 4 * s0)) := e_5
  refine rm_iconst (v := 0) hc dX9_forget_29 (by decide) ?_
  refine rm_calliV (As := [.int (nI (36 + 22 * d + 4 * s0)), .int 0]) (rest := []) hc dX9_forget_30 (c_X9_changes hI y_4 (n := 36 + 22 * d + 4 * s0) (by omega) 0) mv_X9_98 dm_14 rfl rfl (hn := rfl) (hst := rfl) (hw := Nat.le_of_ble_eq_true rfl) (hR := ⟨⟨rfl, rfl⟩, Nat.le_of_ble_eq_true rfl, Nat.le_of_ble_eq_true rfl⟩) (hnc := ⟨Nat.zero_le _, Nat.zero_le _⟩) (fun r_6 y_6 h_6 => ?_)
  obtain ⟨e_6, ey_6⟩ := h_6
  exact rm_iret hc dX9_forget_33 ⟨by rw [e_6]; subst_vars; first | exact congrFun sv0 _ | (rw [up_n _ _ (by omega)]; exact congrFun sv0 _), by subst_vars; rfl⟩

set_option maxHeartbeats 4000000 in
set_option maxRecDepth 100000 in
theorem c_X9_shut_1 {l : Launch} {D : va_G} {cy : Nat → ClassId} {ad : Ads} (hI : IJ ad) (x : Mem) (p0 : Int32) (h0 : inM p0 0 2 = 0) : Cti l yX9_shut cX9_shut 2 (some .int) rm_X9_shut D cy ad [.ref (ad 15 14 0), .int p0] x (fun r y => r = 0 ∧ y = TF x 1) := by
  refine rm_entry (Qc := Qi D cy ad (fun r y => r = 0 ∧ y = TF x 1)) hI (by decide) (Nat.le_of_ble_eq_true rfl) ?_
  intro p e s m args below meth c hc
  show RM _ _ _ _ _ _ _ _ _ _ _ _ _ _ _ _ _ [(0, .ref (ad 15 14 0)), (1, .int p0)] []
  refine rm_aload_n hc dX9_shut_0 rfl rfl ?_
  refine rm_iconst (v := 0) hc dX9_shut_1 (by decide) ?_
  refine rm_put hc dX9_shut_2 fl_X9_25 dm_14 rfl (Nat.le_of_ble_eq_true rfl) ft_9_6 rfl rfl so_14_6 (rm_nm (fun x_1 ex_1 => ?_))
  refine rm_iload_n hc dX9_shut_5 rfl rfl ?_
  refine rm_calliS (As := [.int p0]) (rest := []) hc dX9_shut_6 (c_X9_isDoor hI x_1 p0) ms_X9_33 (hn := rfl) (hst := rfl) (hw := Nat.le_of_ble_eq_true rfl) (hR := ⟨⟨rfl, rfl⟩, Nat.le_of_ble_eq_true rfl, Nat.le_of_ble_eq_true rfl⟩) (hnc := ⟨Nat.zero_le _, Nat.zero_le _⟩) (fun r_2 y_2 h_2 => ?_)
  obtain ⟨e_2, ey_2⟩ := h_2
  obtain rfl := ey_2.symm
  obtain rfl : r_2 = 0 := e_2.trans h0
  refine rm_if_ne (tgt := 18) hc dX9_shut_9 (by decide) (fun h => absurd h (by decide)) (fun _ => ?_)
  refine rm_aload_n hc dX9_shut_12 rfl rfl ?_
  refine rm_iconst (v := 1) hc dX9_shut_13 (by decide) ?_
  refine rm_calliV (As := [.int 1]) (rest := []) hc dX9_shut_14 (c_X9_fails hI x_1 1) mv_X9_44 dm_14 rfl rfl (hn := rfl) (hst := rfl) (hw := Nat.le_of_ble_eq_true rfl) (hR := ⟨⟨rfl, rfl⟩, Nat.le_of_ble_eq_true rfl, Nat.le_of_ble_eq_true rfl⟩) (hnc := ⟨Nat.zero_le _, Nat.zero_le _⟩) (fun r_4 y_4 h_4 => ?_)
  obtain ⟨e_4, ey_4⟩ := h_4
  exact rm_iret hc dX9_shut_17 ⟨e_4, by subst_vars; rfl⟩

set_option maxHeartbeats 4000000 in
set_option maxRecDepth 100000 in
theorem c_X9_shut {l : Launch} {D : va_G} {cy : Nat → ClassId} {ad : Ads} (hI : IJ ad) (x : Mem) {d : Nat} (hd3 : d < 3) {kq : Nat} (hk6 : kq ≤ 6) (hkq : x 15 0 = nI kq) : Cti l yX9_shut cX9_shut 2 (some .int) rm_X9_shut D cy ad [.ref (ad 15 14 0), .int (nI (d))] x (fun r y => r = x 10 (30 + 22 * d) ∧ y = up (svM (T0 x) kq) 10 (30 + 22 * d) 0) := by
  refine rm_entry (Qc := Qi D cy ad (fun r y => r = x 10 (30 + 22 * d) ∧ y = up (svM (T0 x) kq) 10 (30 + 22 * d) 0)) hI (by decide) (Nat.le_of_ble_eq_true rfl) ?_
  intro p e s m args below meth c hc
  show RM _ _ _ _ _ _ _ _ _ _ _ _ _ _ _ _ _ [(0, .ref (ad 15 14 0)), (1, .int (nI (d)))] []
  refine rm_aload_n hc dX9_shut_0 rfl rfl ?_
  refine rm_iconst (v := 0) hc dX9_shut_1 (by decide) ?_
  refine rm_put hc dX9_shut_2 fl_X9_25 dm_14 rfl (Nat.le_of_ble_eq_true rfl) ft_9_6 rfl rfl so_14_6 (rm_nm (fun x_1 ex_1 => ?_))
  refine rm_iload_n hc dX9_shut_5 rfl rfl ?_
  refine rm_calliS (As := [.int (nI (d))]) (rest := []) hc dX9_shut_6 (c_X9_isDoor hI x_1 (nI (d))) ms_X9_33 (hn := rfl) (hst := rfl) (hw := Nat.le_of_ble_eq_true rfl) (hR := ⟨⟨rfl, rfl⟩, Nat.le_of_ble_eq_true rfl, Nat.le_of_ble_eq_true rfl⟩) (hnc := ⟨Nat.zero_le _, Nat.zero_le _⟩) (fun r_2 y_2 h_2 => ?_)
  obtain ⟨e_2, ey_2⟩ := h_2
  obtain rfl := ey_2.symm
  obtain rfl : r_2 = 1 := e_2.trans (inN (n := 2) rfl (by omega) (by omega))
  refine rm_if_ne (tgt := 18) hc dX9_shut_9 (by decide) (fun _ => ?_) (fun h => absurd h (by decide))
  refine rm_aload_n hc dX9_shut_18 rfl rfl ?_
  refine rm_callvV (As := []) (rest := []) hc dX9_shut_19 (c_X9_saves hI x_1 (kq := kq) (by omega) (by subst_vars; exact T0_0.trans hkq)) mv_X9_95 dm_14 rfl rfl (hn := rfl) (hst := rfl) (hw := Nat.le_of_ble_eq_true rfl) (hR := ⟨⟨rfl, rfl⟩, Nat.le_of_ble_eq_true rfl, Nat.le_of_ble_eq_true rfl⟩) (hnc := ⟨Nat.zero_le _, Nat.zero_le _⟩) (fun y_4 h_4 => ?_)
  refine rm_aload_n hc dX9_shut_22 rfl rfl ?_
  refine rm_bipush (v := 30) hc dX9_shut_23 (by decide) ?_
  refine rm_bipush (v := 22) hc dX9_shut_25 (by decide) ?_
  refine rm_iload_n hc dX9_shut_27 rfl rfl ?_
  refine rm_imul hc dX9_shut_28 (fun v_5 e_5 => ?_)
  obtain rfl : v_5 = (nI (22 * d)) := e_5.trans (nmul (m := 22) (n := d) (by omega))
  clear e_5
  refine rm_iadd hc dX9_shut_29 (fun v_6 e_6 => ?_)
  obtain rfl : v_6 = (nI (30 + 22 * d)) := e_6.trans (nadd (m := 30) (n := 22 * d) (by omega))
  clear e_6
  refine rm_iconst (v := 0) hc dX9_shut_30 (by decide) ?_
  refine rm_calliV (As := [.int (nI (30 + 22 * d)), .int 0]) (rest := []) hc dX9_shut_31 (c_X9_changes hI y_4 (n := 30 + 22 * d) (by omega) 0) mv_X9_98 dm_14 rfl rfl (hn := rfl) (hst := rfl) (hw := Nat.le_of_ble_eq_true rfl) (hR := ⟨⟨rfl, rfl⟩, Nat.le_of_ble_eq_true rfl, Nat.le_of_ble_eq_true rfl⟩) (hnc := ⟨Nat.zero_le _, Nat.zero_le _⟩) (fun r_7 y_7 h_7 => ?_)
  obtain ⟨e_7, ey_7⟩ := h_7
  exact rm_iret hc dX9_shut_34 ⟨by rw [e_7]; subst_vars; first | exact congrFun sv0 _ | (rw [up_n _ _ (by omega)]; exact congrFun sv0 _), by subst_vars; rfl⟩

set_option maxHeartbeats 4000000 in
set_option maxRecDepth 100000 in
theorem c_X9_unlock_1 {l : Launch} {D : va_G} {cy : Nat → ClassId} {ad : Ads} (hI : IJ ad) (x : Mem) (p0 : Int32) (h0 : inM p0 0 2 = 0) : Cti l yX9_unlock cX9_unlock 2 (some .int) rm_X9_unlock D cy ad [.ref (ad 15 14 0), .int p0] x (fun r y => r = 0 ∧ y = TF x 1) := by
  refine rm_entry (Qc := Qi D cy ad (fun r y => r = 0 ∧ y = TF x 1)) hI (by decide) (Nat.le_of_ble_eq_true rfl) ?_
  intro p e s m args below meth c hc
  show RM _ _ _ _ _ _ _ _ _ _ _ _ _ _ _ _ _ [(0, .ref (ad 15 14 0)), (1, .int p0)] []
  refine rm_aload_n hc dX9_unlock_0 rfl rfl ?_
  refine rm_iconst (v := 0) hc dX9_unlock_1 (by decide) ?_
  refine rm_put hc dX9_unlock_2 fl_X9_25 dm_14 rfl (Nat.le_of_ble_eq_true rfl) ft_9_6 rfl rfl so_14_6 (rm_nm (fun x_1 ex_1 => ?_))
  refine rm_iload_n hc dX9_unlock_5 rfl rfl ?_
  refine rm_calliS (As := [.int p0]) (rest := []) hc dX9_unlock_6 (c_X9_isDoor hI x_1 p0) ms_X9_33 (hn := rfl) (hst := rfl) (hw := Nat.le_of_ble_eq_true rfl) (hR := ⟨⟨rfl, rfl⟩, Nat.le_of_ble_eq_true rfl, Nat.le_of_ble_eq_true rfl⟩) (hnc := ⟨Nat.zero_le _, Nat.zero_le _⟩) (fun r_2 y_2 h_2 => ?_)
  obtain ⟨e_2, ey_2⟩ := h_2
  obtain rfl := ey_2.symm
  obtain rfl : r_2 = 0 := e_2.trans h0
  refine rm_if_ne (tgt := 18) hc dX9_unlock_9 (by decide) (fun h => absurd h (by decide)) (fun _ => ?_)
  refine rm_aload_n hc dX9_unlock_12 rfl rfl ?_
  refine rm_iconst (v := 1) hc dX9_unlock_13 (by decide) ?_
  refine rm_calliV (As := [.int 1]) (rest := []) hc dX9_unlock_14 (c_X9_fails hI x_1 1) mv_X9_44 dm_14 rfl rfl (hn := rfl) (hst := rfl) (hw := Nat.le_of_ble_eq_true rfl) (hR := ⟨⟨rfl, rfl⟩, Nat.le_of_ble_eq_true rfl, Nat.le_of_ble_eq_true rfl⟩) (hnc := ⟨Nat.zero_le _, Nat.zero_le _⟩) (fun r_4 y_4 h_4 => ?_)
  obtain ⟨e_4, ey_4⟩ := h_4
  exact rm_iret hc dX9_unlock_17 ⟨e_4, by subst_vars; rfl⟩

set_option maxHeartbeats 4000000 in
set_option maxRecDepth 100000 in
theorem c_X9_unlock {l : Launch} {D : va_G} {cy : Nat → ClassId} {ad : Ads} (hI : IJ ad) (x : Mem) {d : Nat} (hd3 : d < 3) {kq : Nat} (hk6 : kq ≤ 6) (hkq : x 15 0 = nI kq) : Cti l yX9_unlock cX9_unlock 2 (some .int) rm_X9_unlock D cy ad [.ref (ad 15 14 0), .int (nI (d))] x (fun r y => r = x 10 (31 + 22 * d) ∧ y = up (svM (T0 x) kq) 10 (31 + 22 * d) 0) := by
  refine rm_entry (Qc := Qi D cy ad (fun r y => r = x 10 (31 + 22 * d) ∧ y = up (svM (T0 x) kq) 10 (31 + 22 * d) 0)) hI (by decide) (Nat.le_of_ble_eq_true rfl) ?_
  intro p e s m args below meth c hc
  show RM _ _ _ _ _ _ _ _ _ _ _ _ _ _ _ _ _ [(0, .ref (ad 15 14 0)), (1, .int (nI (d)))] []
  refine rm_aload_n hc dX9_unlock_0 rfl rfl ?_
  refine rm_iconst (v := 0) hc dX9_unlock_1 (by decide) ?_
  refine rm_put hc dX9_unlock_2 fl_X9_25 dm_14 rfl (Nat.le_of_ble_eq_true rfl) ft_9_6 rfl rfl so_14_6 (rm_nm (fun x_1 ex_1 => ?_))
  refine rm_iload_n hc dX9_unlock_5 rfl rfl ?_
  refine rm_calliS (As := [.int (nI (d))]) (rest := []) hc dX9_unlock_6 (c_X9_isDoor hI x_1 (nI (d))) ms_X9_33 (hn := rfl) (hst := rfl) (hw := Nat.le_of_ble_eq_true rfl) (hR := ⟨⟨rfl, rfl⟩, Nat.le_of_ble_eq_true rfl, Nat.le_of_ble_eq_true rfl⟩) (hnc := ⟨Nat.zero_le _, Nat.zero_le _⟩) (fun r_2 y_2 h_2 => ?_)
  obtain ⟨e_2, ey_2⟩ := h_2
  obtain rfl := ey_2.symm
  obtain rfl : r_2 = 1 := e_2.trans (inN (n := 2) rfl (by omega) (by omega))
  refine rm_if_ne (tgt := 18) hc dX9_unlock_9 (by decide) (fun _ => ?_) (fun h => absurd h (by decide))
  refine rm_aload_n hc dX9_unlock_18 rfl rfl ?_
  refine rm_callvV (As := []) (rest := []) hc dX9_unlock_19 (c_X9_saves hI x_1 (kq := kq) (by omega) (by subst_vars; exact T0_0.trans hkq)) mv_X9_95 dm_14 rfl rfl (hn := rfl) (hst := rfl) (hw := Nat.le_of_ble_eq_true rfl) (hR := ⟨⟨rfl, rfl⟩, Nat.le_of_ble_eq_true rfl, Nat.le_of_ble_eq_true rfl⟩) (hnc := ⟨Nat.zero_le _, Nat.zero_le _⟩) (fun y_4 h_4 => ?_)
  refine rm_aload_n hc dX9_unlock_22 rfl rfl ?_
  refine rm_bipush (v := 30) hc dX9_unlock_23 (by decide) ?_
  refine rm_bipush (v := 22) hc dX9_unlock_25 (by decide) ?_
  refine rm_iload_n hc dX9_unlock_27 rfl rfl ?_
  refine rm_imul hc dX9_unlock_28 (fun v_5 e_5 => ?_)
  obtain rfl : v_5 = (nI (22 * d)) := e_5.trans (nmul (m := 22) (n := d) (by omega))
  clear e_5
  refine rm_iadd hc dX9_unlock_29 (fun v_6 e_6 => ?_)
  obtain rfl : v_6 = (nI (30 + 22 * d)) := e_6.trans (nadd (m := 30) (n := 22 * d) (by omega))
  clear e_6
  refine rm_iconst (v := 1) hc dX9_unlock_30 (by decide) ?_
  refine rm_iadd hc dX9_unlock_31 (fun v_7 e_7 => ?_)
  obtain rfl : v_7 = (nI (31 + 22 * d)) := e_7.trans (nadd (m := 30 + 22 * d) (n := 1) (by omega))
  clear e_7
  refine rm_iconst (v := 0) hc dX9_unlock_32 (by decide) ?_
  refine rm_calliV (As := [.int (nI (31 + 22 * d)), .int 0]) (rest := []) hc dX9_unlock_33 (c_X9_changes hI y_4 (n := 31 + 22 * d) (by omega) 0) mv_X9_98 dm_14 rfl rfl (hn := rfl) (hst := rfl) (hw := Nat.le_of_ble_eq_true rfl) (hR := ⟨⟨rfl, rfl⟩, Nat.le_of_ble_eq_true rfl, Nat.le_of_ble_eq_true rfl⟩) (hnc := ⟨Nat.zero_le _, Nat.zero_le _⟩) (fun r_8 y_8 h_8 => ?_)
  obtain ⟨e_8, ey_8⟩ := h_8
  exact rm_iret hc dX9_unlock_36 ⟨by rw [e_8]; subst_vars; first | exact congrFun sv0 _ | (rw [up_n _ _ (by omega)]; exact congrFun sv0 _), by subst_vars; rfl⟩

set_option maxHeartbeats 4000000 in
set_option maxRecDepth 100000 in
theorem c_X9_set_1 {l : Launch} {D : va_G} {cy : Nat → ClassId} {ad : Ads} (hI : IJ ad) (x : Mem) (p0 p1 : Int32) (h0 : inM p0 0 2 = 0) : Cti l yX9_set cX9_set 3 (some .int) rm_X9_set D cy ad [.ref (ad 15 14 0), .int p0, .int p1] x (fun r y => r = 0 ∧ y = TF x 1) := by
  refine rm_entry (Qc := Qi D cy ad (fun r y => r = 0 ∧ y = TF x 1)) hI (by decide) (Nat.le_of_ble_eq_true rfl) ?_
  intro p e s m args below meth c hc
  show RM _ _ _ _ _ _ _ _ _ _ _ _ _ _ _ _ _ [(0, .ref (ad 15 14 0)), (1, .int p0), (2, .int p1)] []
  refine rm_aload_n hc dX9_set_0 rfl rfl ?_
  refine rm_iconst (v := 0) hc dX9_set_1 (by decide) ?_
  refine rm_put hc dX9_set_2 fl_X9_25 dm_14 rfl (Nat.le_of_ble_eq_true rfl) ft_9_6 rfl rfl so_14_6 (rm_nm (fun x_1 ex_1 => ?_))
  refine rm_iload_n hc dX9_set_5 rfl rfl ?_
  refine rm_iconst (v := 0) hc dX9_set_6 (by decide) ?_
  refine rm_iconst (v := 2) hc dX9_set_7 (by decide) ?_
  refine rm_calliS (As := [.int p0, .int 0, .int 2]) (rest := []) hc dX9_set_8 (c_X9_in hI x_1 p0 0 2) ms_X9_29 (hn := rfl) (hst := rfl) (hw := Nat.le_of_ble_eq_true rfl) (hR := ⟨⟨rfl, rfl⟩, Nat.le_of_ble_eq_true rfl, Nat.le_of_ble_eq_true rfl⟩) (hnc := ⟨Nat.zero_le _, Nat.zero_le _⟩) (fun r_2 y_2 h_2 => ?_)
  obtain ⟨e_2, ey_2⟩ := h_2
  obtain rfl := ey_2.symm
  obtain rfl : r_2 = 0 := e_2.trans h0
  refine rm_if_ne (tgt := 20) hc dX9_set_11 (by decide) (fun h => absurd h (by decide)) (fun _ => ?_)
  refine rm_aload_n hc dX9_set_14 rfl rfl ?_
  refine rm_iconst (v := 1) hc dX9_set_15 (by decide) ?_
  refine rm_calliV (As := [.int 1]) (rest := []) hc dX9_set_16 (c_X9_fails hI x_1 1) mv_X9_44 dm_14 rfl rfl (hn := rfl) (hst := rfl) (hw := Nat.le_of_ble_eq_true rfl) (hR := ⟨⟨rfl, rfl⟩, Nat.le_of_ble_eq_true rfl, Nat.le_of_ble_eq_true rfl⟩) (hnc := ⟨Nat.zero_le _, Nat.zero_le _⟩) (fun r_4 y_4 h_4 => ?_)
  obtain ⟨e_4, ey_4⟩ := h_4
  exact rm_iret hc dX9_set_19 ⟨e_4, by subst_vars; rfl⟩

set_option maxHeartbeats 4000000 in
set_option maxRecDepth 100000 in
theorem c_X9_set_2_0 {l : Launch} {D : va_G} {cy : Nat → ClassId} {ad : Ads} (hI : IJ ad) (x : Mem) (p1 : Int32) (h0 : inM p1 1 64 = 0) : Cti l yX9_set cX9_set 3 (some .int) rm_X9_set D cy ad [.ref (ad 15 14 0), .int 0, .int p1] x (fun r y => r = 0 ∧ y = TF x 2) := by
  refine rm_entry (Qc := Qi D cy ad (fun r y => r = 0 ∧ y = TF x 2)) hI (by decide) (Nat.le_of_ble_eq_true rfl) ?_
  intro p e s m args below meth c hc
  show RM _ _ _ _ _ _ _ _ _ _ _ _ _ _ _ _ _ [(0, .ref (ad 15 14 0)), (1, .int 0), (2, .int p1)] []
  refine rm_aload_n hc dX9_set_0 rfl rfl ?_
  refine rm_iconst (v := 0) hc dX9_set_1 (by decide) ?_
  refine rm_put hc dX9_set_2 fl_X9_25 dm_14 rfl (Nat.le_of_ble_eq_true rfl) ft_9_6 rfl rfl so_14_6 (rm_nm (fun x_1 ex_1 => ?_))
  refine rm_iload_n hc dX9_set_5 rfl rfl ?_
  refine rm_iconst (v := 0) hc dX9_set_6 (by decide) ?_
  refine rm_iconst (v := 2) hc dX9_set_7 (by decide) ?_
  refine rm_calliS (As := [.int 0, .int 0, .int 2]) (rest := []) hc dX9_set_8 (c_X9_in hI x_1 0 0 2) ms_X9_29 (hn := rfl) (hst := rfl) (hw := Nat.le_of_ble_eq_true rfl) (hR := ⟨⟨rfl, rfl⟩, Nat.le_of_ble_eq_true rfl, Nat.le_of_ble_eq_true rfl⟩) (hnc := ⟨Nat.zero_le _, Nat.zero_le _⟩) (fun r_2 y_2 h_2 => ?_)
  obtain ⟨e_2, ey_2⟩ := h_2
  obtain rfl := ey_2.symm
  obtain rfl : r_2 = 1 := e_2.trans (by decide)
  refine rm_if_ne (tgt := 20) hc dX9_set_11 (by decide) (fun _ => ?_) (fun h => absurd h (by decide))
  refine rm_iload_n hc dX9_set_20 rfl rfl ?_
  refine rm_iload_n hc dX9_set_21 rfl rfl ?_
  refine rm_iconst (v := 2) hc dX9_set_22 (by decide) ?_
  refine rm_icmp_ne (tgt := 30) hc dX9_set_23 (by decide) (fun _ => ?_) (fun h => absurd h (by decide))
  refine rm_iconst (v := 1) hc dX9_set_30 (by decide) ?_
  refine rm_iload_n hc dX9_set_31 rfl rfl ?_
  refine rm_if_ne (tgt := 40) hc dX9_set_32 (by decide) (fun h => absurd h (by decide)) (fun _ => ?_)
  refine rm_bipush (v := 64) hc dX9_set_35 (by decide) ?_
  refine rm_goto (tgt := 53) hc dX9_set_37 (by decide) ?_
  refine rm_calliS (As := [.int p1, .int 1, .int 64]) (rest := []) hc dX9_set_53 (c_X9_in hI x_1 p1 1 64) ms_X9_29 (hn := rfl) (hst := rfl) (hw := Nat.le_of_ble_eq_true rfl) (hR := ⟨⟨rfl, rfl⟩, Nat.le_of_ble_eq_true rfl, Nat.le_of_ble_eq_true rfl⟩) (hnc := ⟨Nat.zero_le _, Nat.zero_le _⟩) (fun r_6 y_6 h_6 => ?_)
  obtain ⟨e_6, ey_6⟩ := h_6
  obtain rfl := ey_6.symm
  obtain rfl : r_6 = 0 := e_6.trans h0
  refine rm_if_ne (tgt := 65) hc dX9_set_56 (by decide) (fun h => absurd h (by decide)) (fun _ => ?_)
  refine rm_aload_n hc dX9_set_59 rfl rfl ?_
  refine rm_iconst (v := 2) hc dX9_set_60 (by decide) ?_
  refine rm_calliV (As := [.int 2]) (rest := []) hc dX9_set_61 (c_X9_fails hI x_1 2) mv_X9_44 dm_14 rfl rfl (hn := rfl) (hst := rfl) (hw := Nat.le_of_ble_eq_true rfl) (hR := ⟨⟨rfl, rfl⟩, Nat.le_of_ble_eq_true rfl, Nat.le_of_ble_eq_true rfl⟩) (hnc := ⟨Nat.zero_le _, Nat.zero_le _⟩) (fun r_8 y_8 h_8 => ?_)
  obtain ⟨e_8, ey_8⟩ := h_8
  exact rm_iret hc dX9_set_64 ⟨e_8, by subst_vars; rfl⟩

set_option maxHeartbeats 4000000 in
set_option maxRecDepth 100000 in
theorem c_X9_set_o0 {l : Launch} {D : va_G} {cy : Nat → ClassId} {ad : Ads} (hI : IJ ad) (x : Mem) (p1 : Int32) (hs1 : ¬ p1 < 1) (hs2 : ¬ 64 < p1) {kq : Nat} (hk6 : kq ≤ 6) (hkq : x 15 0 = nI kq) : Cti l yX9_set cX9_set 3 (some .int) rm_X9_set D cy ad [.ref (ad 15 14 0), .int 0, .int p1] x (fun r y => r = x 10 0 ∧ y = up (svM (T0 x) kq) 10 0 p1) := by
  refine rm_entry (Qc := Qi D cy ad (fun r y => r = x 10 0 ∧ y = up (svM (T0 x) kq) 10 0 p1)) hI (by decide) (Nat.le_of_ble_eq_true rfl) ?_
  intro p e s m args below meth c hc
  show RM _ _ _ _ _ _ _ _ _ _ _ _ _ _ _ _ _ [(0, .ref (ad 15 14 0)), (1, .int 0), (2, .int p1)] []
  refine rm_aload_n hc dX9_set_0 rfl rfl ?_
  refine rm_iconst (v := 0) hc dX9_set_1 (by decide) ?_
  refine rm_put hc dX9_set_2 fl_X9_25 dm_14 rfl (Nat.le_of_ble_eq_true rfl) ft_9_6 rfl rfl so_14_6 (rm_nm (fun x_1 ex_1 => ?_))
  refine rm_iload_n hc dX9_set_5 rfl rfl ?_
  refine rm_iconst (v := 0) hc dX9_set_6 (by decide) ?_
  refine rm_iconst (v := 2) hc dX9_set_7 (by decide) ?_
  refine rm_calliS (As := [.int 0, .int 0, .int 2]) (rest := []) hc dX9_set_8 (c_X9_in hI x_1 0 0 2) ms_X9_29 (hn := rfl) (hst := rfl) (hw := Nat.le_of_ble_eq_true rfl) (hR := ⟨⟨rfl, rfl⟩, Nat.le_of_ble_eq_true rfl, Nat.le_of_ble_eq_true rfl⟩) (hnc := ⟨Nat.zero_le _, Nat.zero_le _⟩) (fun r_2 y_2 h_2 => ?_)
  obtain ⟨e_2, ey_2⟩ := h_2
  obtain rfl := ey_2.symm
  obtain rfl : r_2 = 1 := e_2.trans (by decide)
  refine rm_if_ne (tgt := 20) hc dX9_set_11 (by decide) (fun _ => ?_) (fun h => absurd h (by decide))
  refine rm_iload_n hc dX9_set_20 rfl rfl ?_
  refine rm_iload_n hc dX9_set_21 rfl rfl ?_
  refine rm_iconst (v := 2) hc dX9_set_22 (by decide) ?_
  refine rm_icmp_ne (tgt := 30) hc dX9_set_23 (by decide) (fun _ => ?_) (fun h => absurd h (by decide))
  refine rm_iconst (v := 1) hc dX9_set_30 (by decide) ?_
  refine rm_iload_n hc dX9_set_31 rfl rfl ?_
  refine rm_if_ne (tgt := 40) hc dX9_set_32 (by decide) (fun h => absurd h (by decide)) (fun _ => ?_)
  refine rm_bipush (v := 64) hc dX9_set_35 (by decide) ?_
  refine rm_goto (tgt := 53) hc dX9_set_37 (by decide) ?_
  refine rm_calliS (As := [.int p1, .int 1, .int 64]) (rest := []) hc dX9_set_53 (c_X9_in hI x_1 p1 1 64) ms_X9_29 (hn := rfl) (hst := rfl) (hw := Nat.le_of_ble_eq_true rfl) (hR := ⟨⟨rfl, rfl⟩, Nat.le_of_ble_eq_true rfl, Nat.le_of_ble_eq_true rfl⟩) (hnc := ⟨Nat.zero_le _, Nat.zero_le _⟩) (fun r_6 y_6 h_6 => ?_)
  obtain ⟨e_6, ey_6⟩ := h_6
  obtain rfl := ey_6.symm
  obtain rfl : r_6 = 1 := e_6.trans (inM_1 hs1 hs2)
  refine rm_if_ne (tgt := 65) hc dX9_set_56 (by decide) (fun _ => ?_) (fun h => absurd h (by decide))
  refine rm_aload_n hc dX9_set_65 rfl rfl ?_
  refine rm_callvV (As := []) (rest := []) hc dX9_set_66 (c_X9_saves hI x_1 (kq := kq) (by omega) (by subst_vars; exact T0_0.trans hkq)) mv_X9_95 dm_14 rfl rfl (hn := rfl) (hst := rfl) (hw := Nat.le_of_ble_eq_true rfl) (hR := ⟨⟨rfl, rfl⟩, Nat.le_of_ble_eq_true rfl, Nat.le_of_ble_eq_true rfl⟩) (hnc := ⟨Nat.zero_le _, Nat.zero_le _⟩) (fun y_8 h_8 => ?_)
  refine rm_aload_n hc dX9_set_69 rfl rfl ?_
  refine rm_iload_n hc dX9_set_70 rfl rfl ?_
  refine rm_iload_n hc dX9_set_71 rfl rfl ?_
  refine rm_calliV (As := [.int 0, .int p1]) (rest := []) hc dX9_set_72 (c_X9_changes hI y_8 (n := 0) (by omega) p1) mv_X9_98 dm_14 rfl rfl (hn := rfl) (hst := rfl) (hw := Nat.le_of_ble_eq_true rfl) (hR := ⟨⟨rfl, rfl⟩, Nat.le_of_ble_eq_true rfl, Nat.le_of_ble_eq_true rfl⟩) (hnc := ⟨Nat.zero_le _, Nat.zero_le _⟩) (fun r_9 y_9 h_9 => ?_)
  obtain ⟨e_9, ey_9⟩ := h_9
  exact rm_iret hc dX9_set_75 ⟨by rw [e_9]; subst_vars; first | exact congrFun sv0 _ | (rw [up_n _ _ (by omega)]; exact congrFun sv0 _), by subst_vars; rfl⟩

set_option maxHeartbeats 4000000 in
set_option maxRecDepth 100000 in
theorem c_X9_set_2_1 {l : Launch} {D : va_G} {cy : Nat → ClassId} {ad : Ads} (hI : IJ ad) (x : Mem) (p1 : Int32) (h0 : inM p1 1 500 = 0) : Cti l yX9_set cX9_set 3 (some .int) rm_X9_set D cy ad [.ref (ad 15 14 0), .int 1, .int p1] x (fun r y => r = 0 ∧ y = TF x 2) := by
  refine rm_entry (Qc := Qi D cy ad (fun r y => r = 0 ∧ y = TF x 2)) hI (by decide) (Nat.le_of_ble_eq_true rfl) ?_
  intro p e s m args below meth c hc
  show RM _ _ _ _ _ _ _ _ _ _ _ _ _ _ _ _ _ [(0, .ref (ad 15 14 0)), (1, .int 1), (2, .int p1)] []
  refine rm_aload_n hc dX9_set_0 rfl rfl ?_
  refine rm_iconst (v := 0) hc dX9_set_1 (by decide) ?_
  refine rm_put hc dX9_set_2 fl_X9_25 dm_14 rfl (Nat.le_of_ble_eq_true rfl) ft_9_6 rfl rfl so_14_6 (rm_nm (fun x_1 ex_1 => ?_))
  refine rm_iload_n hc dX9_set_5 rfl rfl ?_
  refine rm_iconst (v := 0) hc dX9_set_6 (by decide) ?_
  refine rm_iconst (v := 2) hc dX9_set_7 (by decide) ?_
  refine rm_calliS (As := [.int 1, .int 0, .int 2]) (rest := []) hc dX9_set_8 (c_X9_in hI x_1 1 0 2) ms_X9_29 (hn := rfl) (hst := rfl) (hw := Nat.le_of_ble_eq_true rfl) (hR := ⟨⟨rfl, rfl⟩, Nat.le_of_ble_eq_true rfl, Nat.le_of_ble_eq_true rfl⟩) (hnc := ⟨Nat.zero_le _, Nat.zero_le _⟩) (fun r_2 y_2 h_2 => ?_)
  obtain ⟨e_2, ey_2⟩ := h_2
  obtain rfl := ey_2.symm
  obtain rfl : r_2 = 1 := e_2.trans (by decide)
  refine rm_if_ne (tgt := 20) hc dX9_set_11 (by decide) (fun _ => ?_) (fun h => absurd h (by decide))
  refine rm_iload_n hc dX9_set_20 rfl rfl ?_
  refine rm_iload_n hc dX9_set_21 rfl rfl ?_
  refine rm_iconst (v := 2) hc dX9_set_22 (by decide) ?_
  refine rm_icmp_ne (tgt := 30) hc dX9_set_23 (by decide) (fun _ => ?_) (fun h => absurd h (by decide))
  refine rm_iconst (v := 1) hc dX9_set_30 (by decide) ?_
  refine rm_iload_n hc dX9_set_31 rfl rfl ?_
  refine rm_if_ne (tgt := 40) hc dX9_set_32 (by decide) (fun _ => ?_) (fun h => absurd h (by decide))
  refine rm_iload_n hc dX9_set_40 rfl rfl ?_
  refine rm_iconst (v := 1) hc dX9_set_41 (by decide) ?_
  refine rm_icmp_ne (tgt := 51) hc dX9_set_42 (by decide) (fun h => absurd h (by decide)) (fun _ => ?_)
  refine rm_sipush (v := 500) hc dX9_set_45 (by decide) ?_
  refine rm_goto (tgt := 53) hc dX9_set_48 (by decide) ?_
  refine rm_calliS (As := [.int p1, .int 1, .int 500]) (rest := []) hc dX9_set_53 (c_X9_in hI x_1 p1 1 500) ms_X9_29 (hn := rfl) (hst := rfl) (hw := Nat.le_of_ble_eq_true rfl) (hR := ⟨⟨rfl, rfl⟩, Nat.le_of_ble_eq_true rfl, Nat.le_of_ble_eq_true rfl⟩) (hnc := ⟨Nat.zero_le _, Nat.zero_le _⟩) (fun r_7 y_7 h_7 => ?_)
  obtain ⟨e_7, ey_7⟩ := h_7
  obtain rfl := ey_7.symm
  obtain rfl : r_7 = 0 := e_7.trans h0
  refine rm_if_ne (tgt := 65) hc dX9_set_56 (by decide) (fun h => absurd h (by decide)) (fun _ => ?_)
  refine rm_aload_n hc dX9_set_59 rfl rfl ?_
  refine rm_iconst (v := 2) hc dX9_set_60 (by decide) ?_
  refine rm_calliV (As := [.int 2]) (rest := []) hc dX9_set_61 (c_X9_fails hI x_1 2) mv_X9_44 dm_14 rfl rfl (hn := rfl) (hst := rfl) (hw := Nat.le_of_ble_eq_true rfl) (hR := ⟨⟨rfl, rfl⟩, Nat.le_of_ble_eq_true rfl, Nat.le_of_ble_eq_true rfl⟩) (hnc := ⟨Nat.zero_le _, Nat.zero_le _⟩) (fun r_9 y_9 h_9 => ?_)
  obtain ⟨e_9, ey_9⟩ := h_9
  exact rm_iret hc dX9_set_64 ⟨e_9, by subst_vars; rfl⟩

set_option maxHeartbeats 4000000 in
set_option maxRecDepth 100000 in
theorem c_X9_set_o1 {l : Launch} {D : va_G} {cy : Nat → ClassId} {ad : Ads} (hI : IJ ad) (x : Mem) (p1 : Int32) (hs1 : ¬ p1 < 1) (hs2 : ¬ 500 < p1) {kq : Nat} (hk6 : kq ≤ 6) (hkq : x 15 0 = nI kq) : Cti l yX9_set cX9_set 3 (some .int) rm_X9_set D cy ad [.ref (ad 15 14 0), .int 1, .int p1] x (fun r y => r = x 10 1 ∧ y = up (svM (T0 x) kq) 10 1 p1) := by
  refine rm_entry (Qc := Qi D cy ad (fun r y => r = x 10 1 ∧ y = up (svM (T0 x) kq) 10 1 p1)) hI (by decide) (Nat.le_of_ble_eq_true rfl) ?_
  intro p e s m args below meth c hc
  show RM _ _ _ _ _ _ _ _ _ _ _ _ _ _ _ _ _ [(0, .ref (ad 15 14 0)), (1, .int 1), (2, .int p1)] []
  refine rm_aload_n hc dX9_set_0 rfl rfl ?_
  refine rm_iconst (v := 0) hc dX9_set_1 (by decide) ?_
  refine rm_put hc dX9_set_2 fl_X9_25 dm_14 rfl (Nat.le_of_ble_eq_true rfl) ft_9_6 rfl rfl so_14_6 (rm_nm (fun x_1 ex_1 => ?_))
  refine rm_iload_n hc dX9_set_5 rfl rfl ?_
  refine rm_iconst (v := 0) hc dX9_set_6 (by decide) ?_
  refine rm_iconst (v := 2) hc dX9_set_7 (by decide) ?_
  refine rm_calliS (As := [.int 1, .int 0, .int 2]) (rest := []) hc dX9_set_8 (c_X9_in hI x_1 1 0 2) ms_X9_29 (hn := rfl) (hst := rfl) (hw := Nat.le_of_ble_eq_true rfl) (hR := ⟨⟨rfl, rfl⟩, Nat.le_of_ble_eq_true rfl, Nat.le_of_ble_eq_true rfl⟩) (hnc := ⟨Nat.zero_le _, Nat.zero_le _⟩) (fun r_2 y_2 h_2 => ?_)
  obtain ⟨e_2, ey_2⟩ := h_2
  obtain rfl := ey_2.symm
  obtain rfl : r_2 = 1 := e_2.trans (by decide)
  refine rm_if_ne (tgt := 20) hc dX9_set_11 (by decide) (fun _ => ?_) (fun h => absurd h (by decide))
  refine rm_iload_n hc dX9_set_20 rfl rfl ?_
  refine rm_iload_n hc dX9_set_21 rfl rfl ?_
  refine rm_iconst (v := 2) hc dX9_set_22 (by decide) ?_
  refine rm_icmp_ne (tgt := 30) hc dX9_set_23 (by decide) (fun _ => ?_) (fun h => absurd h (by decide))
  refine rm_iconst (v := 1) hc dX9_set_30 (by decide) ?_
  refine rm_iload_n hc dX9_set_31 rfl rfl ?_
  refine rm_if_ne (tgt := 40) hc dX9_set_32 (by decide) (fun _ => ?_) (fun h => absurd h (by decide))
  refine rm_iload_n hc dX9_set_40 rfl rfl ?_
  refine rm_iconst (v := 1) hc dX9_set_41 (by decide) ?_
  refine rm_icmp_ne (tgt := 51) hc dX9_set_42 (by decide) (fun h => absurd h (by decide)) (fun _ => ?_)
  refine rm_sipush (v := 500) hc dX9_set_45 (by decide) ?_
  refine rm_goto (tgt := 53) hc dX9_set_48 (by decide) ?_
  refine rm_calliS (As := [.int p1, .int 1, .int 500]) (rest := []) hc dX9_set_53 (c_X9_in hI x_1 p1 1 500) ms_X9_29 (hn := rfl) (hst := rfl) (hw := Nat.le_of_ble_eq_true rfl) (hR := ⟨⟨rfl, rfl⟩, Nat.le_of_ble_eq_true rfl, Nat.le_of_ble_eq_true rfl⟩) (hnc := ⟨Nat.zero_le _, Nat.zero_le _⟩) (fun r_7 y_7 h_7 => ?_)
  obtain ⟨e_7, ey_7⟩ := h_7
  obtain rfl := ey_7.symm
  obtain rfl : r_7 = 1 := e_7.trans (inM_1 hs1 hs2)
  refine rm_if_ne (tgt := 65) hc dX9_set_56 (by decide) (fun _ => ?_) (fun h => absurd h (by decide))
  refine rm_aload_n hc dX9_set_65 rfl rfl ?_
  refine rm_callvV (As := []) (rest := []) hc dX9_set_66 (c_X9_saves hI x_1 (kq := kq) (by omega) (by subst_vars; exact T0_0.trans hkq)) mv_X9_95 dm_14 rfl rfl (hn := rfl) (hst := rfl) (hw := Nat.le_of_ble_eq_true rfl) (hR := ⟨⟨rfl, rfl⟩, Nat.le_of_ble_eq_true rfl, Nat.le_of_ble_eq_true rfl⟩) (hnc := ⟨Nat.zero_le _, Nat.zero_le _⟩) (fun y_9 h_9 => ?_)
  refine rm_aload_n hc dX9_set_69 rfl rfl ?_
  refine rm_iload_n hc dX9_set_70 rfl rfl ?_
  refine rm_iload_n hc dX9_set_71 rfl rfl ?_
  refine rm_calliV (As := [.int 1, .int p1]) (rest := []) hc dX9_set_72 (c_X9_changes hI y_9 (n := 1) (by omega) p1) mv_X9_98 dm_14 rfl rfl (hn := rfl) (hst := rfl) (hw := Nat.le_of_ble_eq_true rfl) (hR := ⟨⟨rfl, rfl⟩, Nat.le_of_ble_eq_true rfl, Nat.le_of_ble_eq_true rfl⟩) (hnc := ⟨Nat.zero_le _, Nat.zero_le _⟩) (fun r_10 y_10 h_10 => ?_)
  obtain ⟨e_10, ey_10⟩ := h_10
  exact rm_iret hc dX9_set_75 ⟨by rw [e_10]; subst_vars; first | exact congrFun sv0 _ | (rw [up_n _ _ (by omega)]; exact congrFun sv0 _), by subst_vars; rfl⟩

set_option maxHeartbeats 4000000 in
set_option maxRecDepth 100000 in
theorem c_X9_set_2_2 {l : Launch} {D : va_G} {cy : Nat → ClassId} {ad : Ads} (hI : IJ ad) (x : Mem) (p1 : Int32) (h0 : inM p1 0 20 = 0) : Cti l yX9_set cX9_set 3 (some .int) rm_X9_set D cy ad [.ref (ad 15 14 0), .int 2, .int p1] x (fun r y => r = 0 ∧ y = TF x 2) := by
  refine rm_entry (Qc := Qi D cy ad (fun r y => r = 0 ∧ y = TF x 2)) hI (by decide) (Nat.le_of_ble_eq_true rfl) ?_
  intro p e s m args below meth c hc
  show RM _ _ _ _ _ _ _ _ _ _ _ _ _ _ _ _ _ [(0, .ref (ad 15 14 0)), (1, .int 2), (2, .int p1)] []
  refine rm_aload_n hc dX9_set_0 rfl rfl ?_
  refine rm_iconst (v := 0) hc dX9_set_1 (by decide) ?_
  refine rm_put hc dX9_set_2 fl_X9_25 dm_14 rfl (Nat.le_of_ble_eq_true rfl) ft_9_6 rfl rfl so_14_6 (rm_nm (fun x_1 ex_1 => ?_))
  refine rm_iload_n hc dX9_set_5 rfl rfl ?_
  refine rm_iconst (v := 0) hc dX9_set_6 (by decide) ?_
  refine rm_iconst (v := 2) hc dX9_set_7 (by decide) ?_
  refine rm_calliS (As := [.int 2, .int 0, .int 2]) (rest := []) hc dX9_set_8 (c_X9_in hI x_1 2 0 2) ms_X9_29 (hn := rfl) (hst := rfl) (hw := Nat.le_of_ble_eq_true rfl) (hR := ⟨⟨rfl, rfl⟩, Nat.le_of_ble_eq_true rfl, Nat.le_of_ble_eq_true rfl⟩) (hnc := ⟨Nat.zero_le _, Nat.zero_le _⟩) (fun r_2 y_2 h_2 => ?_)
  obtain ⟨e_2, ey_2⟩ := h_2
  obtain rfl := ey_2.symm
  obtain rfl : r_2 = 1 := e_2.trans (by decide)
  refine rm_if_ne (tgt := 20) hc dX9_set_11 (by decide) (fun _ => ?_) (fun h => absurd h (by decide))
  refine rm_iload_n hc dX9_set_20 rfl rfl ?_
  refine rm_iload_n hc dX9_set_21 rfl rfl ?_
  refine rm_iconst (v := 2) hc dX9_set_22 (by decide) ?_
  refine rm_icmp_ne (tgt := 30) hc dX9_set_23 (by decide) (fun h => absurd h (by decide)) (fun _ => ?_)
  refine rm_iconst (v := 0) hc dX9_set_26 (by decide) ?_
  refine rm_goto (tgt := 31) hc dX9_set_27 (by decide) ?_
  refine rm_iload_n hc dX9_set_31 rfl rfl ?_
  refine rm_if_ne (tgt := 40) hc dX9_set_32 (by decide) (fun _ => ?_) (fun h => absurd h (by decide))
  refine rm_iload_n hc dX9_set_40 rfl rfl ?_
  refine rm_iconst (v := 1) hc dX9_set_41 (by decide) ?_
  refine rm_icmp_ne (tgt := 51) hc dX9_set_42 (by decide) (fun _ => ?_) (fun h => absurd h (by decide))
  refine rm_bipush (v := 20) hc dX9_set_51 (by decide) ?_
  refine rm_calliS (As := [.int p1, .int 0, .int 20]) (rest := []) hc dX9_set_53 (c_X9_in hI x_1 p1 0 20) ms_X9_29 (hn := rfl) (hst := rfl) (hw := Nat.le_of_ble_eq_true rfl) (hR := ⟨⟨rfl, rfl⟩, Nat.le_of_ble_eq_true rfl, Nat.le_of_ble_eq_true rfl⟩) (hnc := ⟨Nat.zero_le _, Nat.zero_le _⟩) (fun r_7 y_7 h_7 => ?_)
  obtain ⟨e_7, ey_7⟩ := h_7
  obtain rfl := ey_7.symm
  obtain rfl : r_7 = 0 := e_7.trans h0
  refine rm_if_ne (tgt := 65) hc dX9_set_56 (by decide) (fun h => absurd h (by decide)) (fun _ => ?_)
  refine rm_aload_n hc dX9_set_59 rfl rfl ?_
  refine rm_iconst (v := 2) hc dX9_set_60 (by decide) ?_
  refine rm_calliV (As := [.int 2]) (rest := []) hc dX9_set_61 (c_X9_fails hI x_1 2) mv_X9_44 dm_14 rfl rfl (hn := rfl) (hst := rfl) (hw := Nat.le_of_ble_eq_true rfl) (hR := ⟨⟨rfl, rfl⟩, Nat.le_of_ble_eq_true rfl, Nat.le_of_ble_eq_true rfl⟩) (hnc := ⟨Nat.zero_le _, Nat.zero_le _⟩) (fun r_9 y_9 h_9 => ?_)
  obtain ⟨e_9, ey_9⟩ := h_9
  exact rm_iret hc dX9_set_64 ⟨e_9, by subst_vars; rfl⟩

set_option maxHeartbeats 4000000 in
set_option maxRecDepth 100000 in
theorem c_X9_set_o2 {l : Launch} {D : va_G} {cy : Nat → ClassId} {ad : Ads} (hI : IJ ad) (x : Mem) (p1 : Int32) (hs1 : ¬ p1 < 0) (hs2 : ¬ 20 < p1) {kq : Nat} (hk6 : kq ≤ 6) (hkq : x 15 0 = nI kq) : Cti l yX9_set cX9_set 3 (some .int) rm_X9_set D cy ad [.ref (ad 15 14 0), .int 2, .int p1] x (fun r y => r = x 10 2 ∧ y = up (svM (T0 x) kq) 10 2 p1) := by
  refine rm_entry (Qc := Qi D cy ad (fun r y => r = x 10 2 ∧ y = up (svM (T0 x) kq) 10 2 p1)) hI (by decide) (Nat.le_of_ble_eq_true rfl) ?_
  intro p e s m args below meth c hc
  show RM _ _ _ _ _ _ _ _ _ _ _ _ _ _ _ _ _ [(0, .ref (ad 15 14 0)), (1, .int 2), (2, .int p1)] []
  refine rm_aload_n hc dX9_set_0 rfl rfl ?_
  refine rm_iconst (v := 0) hc dX9_set_1 (by decide) ?_
  refine rm_put hc dX9_set_2 fl_X9_25 dm_14 rfl (Nat.le_of_ble_eq_true rfl) ft_9_6 rfl rfl so_14_6 (rm_nm (fun x_1 ex_1 => ?_))
  refine rm_iload_n hc dX9_set_5 rfl rfl ?_
  refine rm_iconst (v := 0) hc dX9_set_6 (by decide) ?_
  refine rm_iconst (v := 2) hc dX9_set_7 (by decide) ?_
  refine rm_calliS (As := [.int 2, .int 0, .int 2]) (rest := []) hc dX9_set_8 (c_X9_in hI x_1 2 0 2) ms_X9_29 (hn := rfl) (hst := rfl) (hw := Nat.le_of_ble_eq_true rfl) (hR := ⟨⟨rfl, rfl⟩, Nat.le_of_ble_eq_true rfl, Nat.le_of_ble_eq_true rfl⟩) (hnc := ⟨Nat.zero_le _, Nat.zero_le _⟩) (fun r_2 y_2 h_2 => ?_)
  obtain ⟨e_2, ey_2⟩ := h_2
  obtain rfl := ey_2.symm
  obtain rfl : r_2 = 1 := e_2.trans (by decide)
  refine rm_if_ne (tgt := 20) hc dX9_set_11 (by decide) (fun _ => ?_) (fun h => absurd h (by decide))
  refine rm_iload_n hc dX9_set_20 rfl rfl ?_
  refine rm_iload_n hc dX9_set_21 rfl rfl ?_
  refine rm_iconst (v := 2) hc dX9_set_22 (by decide) ?_
  refine rm_icmp_ne (tgt := 30) hc dX9_set_23 (by decide) (fun h => absurd h (by decide)) (fun _ => ?_)
  refine rm_iconst (v := 0) hc dX9_set_26 (by decide) ?_
  refine rm_goto (tgt := 31) hc dX9_set_27 (by decide) ?_
  refine rm_iload_n hc dX9_set_31 rfl rfl ?_
  refine rm_if_ne (tgt := 40) hc dX9_set_32 (by decide) (fun _ => ?_) (fun h => absurd h (by decide))
  refine rm_iload_n hc dX9_set_40 rfl rfl ?_
  refine rm_iconst (v := 1) hc dX9_set_41 (by decide) ?_
  refine rm_icmp_ne (tgt := 51) hc dX9_set_42 (by decide) (fun _ => ?_) (fun h => absurd h (by decide))
  refine rm_bipush (v := 20) hc dX9_set_51 (by decide) ?_
  refine rm_calliS (As := [.int p1, .int 0, .int 20]) (rest := []) hc dX9_set_53 (c_X9_in hI x_1 p1 0 20) ms_X9_29 (hn := rfl) (hst := rfl) (hw := Nat.le_of_ble_eq_true rfl) (hR := ⟨⟨rfl, rfl⟩, Nat.le_of_ble_eq_true rfl, Nat.le_of_ble_eq_true rfl⟩) (hnc := ⟨Nat.zero_le _, Nat.zero_le _⟩) (fun r_7 y_7 h_7 => ?_)
  obtain ⟨e_7, ey_7⟩ := h_7
  obtain rfl := ey_7.symm
  obtain rfl : r_7 = 1 := e_7.trans (inM_1 hs1 hs2)
  refine rm_if_ne (tgt := 65) hc dX9_set_56 (by decide) (fun _ => ?_) (fun h => absurd h (by decide))
  refine rm_aload_n hc dX9_set_65 rfl rfl ?_
  refine rm_callvV (As := []) (rest := []) hc dX9_set_66 (c_X9_saves hI x_1 (kq := kq) (by omega) (by subst_vars; exact T0_0.trans hkq)) mv_X9_95 dm_14 rfl rfl (hn := rfl) (hst := rfl) (hw := Nat.le_of_ble_eq_true rfl) (hR := ⟨⟨rfl, rfl⟩, Nat.le_of_ble_eq_true rfl, Nat.le_of_ble_eq_true rfl⟩) (hnc := ⟨Nat.zero_le _, Nat.zero_le _⟩) (fun y_9 h_9 => ?_)
  refine rm_aload_n hc dX9_set_69 rfl rfl ?_
  refine rm_iload_n hc dX9_set_70 rfl rfl ?_
  refine rm_iload_n hc dX9_set_71 rfl rfl ?_
  refine rm_calliV (As := [.int 2, .int p1]) (rest := []) hc dX9_set_72 (c_X9_changes hI y_9 (n := 2) (by omega) p1) mv_X9_98 dm_14 rfl rfl (hn := rfl) (hst := rfl) (hw := Nat.le_of_ble_eq_true rfl) (hR := ⟨⟨rfl, rfl⟩, Nat.le_of_ble_eq_true rfl, Nat.le_of_ble_eq_true rfl⟩) (hnc := ⟨Nat.zero_le _, Nat.zero_le _⟩) (fun r_10 y_10 h_10 => ?_)
  obtain ⟨e_10, ey_10⟩ := h_10
  exact rm_iret hc dX9_set_75 ⟨by rw [e_10]; subst_vars; first | exact congrFun sv0 _ | (rw [up_n _ _ (by omega)]; exact congrFun sv0 _), by subst_vars; rfl⟩

set_option maxHeartbeats 4000000 in
set_option maxRecDepth 100000 in
theorem c_X9_append_1 {l : Launch} {D : va_G} {cy : Nat → ClassId} {ad : Ads} (hI : IJ ad) (x : Mem) (p0 : Int32) (h0 : inM p0 33 126 = 0) : Cti l yX9_append cX9_append 2 (some .int) rm_X9_append D cy ad [.ref (ad 15 14 0), .int p0] x (fun r y => r = 0 ∧ y = TF x 1) := by
  refine rm_entry (Qc := Qi D cy ad (fun r y => r = 0 ∧ y = TF x 1)) hI (by decide) (Nat.le_of_ble_eq_true rfl) ?_
  intro p e s m args below meth c hc
  show RM _ _ _ _ _ _ _ _ _ _ _ _ _ _ _ _ _ [(0, .ref (ad 15 14 0)), (1, .int p0)] []
  refine rm_aload_n hc dX9_append_0 rfl rfl ?_
  refine rm_iconst (v := 0) hc dX9_append_1 (by decide) ?_
  refine rm_put hc dX9_append_2 fl_X9_25 dm_14 rfl (Nat.le_of_ble_eq_true rfl) ft_9_6 rfl rfl so_14_6 (rm_nm (fun x_1 ex_1 => ?_))
  refine rm_iload_n hc dX9_append_5 rfl rfl ?_
  refine rm_bipush (v := 33) hc dX9_append_6 (by decide) ?_
  refine rm_bipush (v := 126) hc dX9_append_8 (by decide) ?_
  refine rm_calliS (As := [.int p0, .int 33, .int 126]) (rest := []) hc dX9_append_10 (c_X9_in hI x_1 p0 33 126) ms_X9_29 (hn := rfl) (hst := rfl) (hw := Nat.le_of_ble_eq_true rfl) (hR := ⟨⟨rfl, rfl⟩, Nat.le_of_ble_eq_true rfl, Nat.le_of_ble_eq_true rfl⟩) (hnc := ⟨Nat.zero_le _, Nat.zero_le _⟩) (fun r_2 y_2 h_2 => ?_)
  obtain ⟨e_2, ey_2⟩ := h_2
  obtain rfl := ey_2.symm
  obtain rfl : r_2 = 0 := e_2.trans h0
  refine rm_if_ne (tgt := 22) hc dX9_append_13 (by decide) (fun h => absurd h (by decide)) (fun _ => ?_)
  refine rm_aload_n hc dX9_append_16 rfl rfl ?_
  refine rm_iconst (v := 1) hc dX9_append_17 (by decide) ?_
  refine rm_calliV (As := [.int 1]) (rest := []) hc dX9_append_18 (c_X9_fails hI x_1 1) mv_X9_44 dm_14 rfl rfl (hn := rfl) (hst := rfl) (hw := Nat.le_of_ble_eq_true rfl) (hR := ⟨⟨rfl, rfl⟩, Nat.le_of_ble_eq_true rfl, Nat.le_of_ble_eq_true rfl⟩) (hnc := ⟨Nat.zero_le _, Nat.zero_le _⟩) (fun r_4 y_4 h_4 => ?_)
  obtain ⟨e_4, ey_4⟩ := h_4
  exact rm_iret hc dX9_append_21 ⟨e_4, by subst_vars; rfl⟩

set_option maxHeartbeats 4000000 in
set_option maxRecDepth 100000 in
theorem c_X9_append_2 {l : Launch} {D : va_G} {cy : Nat → ClassId} {ad : Ads} (hI : IJ ad) (x : Mem) (p0 : Int32) (hs1 : ¬ p0 < 33) (hs2 : ¬ 126 < p0) (htl : x 15 1 = 60) : Cti l yX9_append cX9_append 2 (some .int) rm_X9_append D cy ad [.ref (ad 15 14 0), .int p0] x (fun r y => r = 0 ∧ y = TF x 2) := by
  refine rm_entry (Qc := Qi D cy ad (fun r y => r = 0 ∧ y = TF x 2)) hI (by decide) (Nat.le_of_ble_eq_true rfl) ?_
  intro p e s m args below meth c hc
  show RM _ _ _ _ _ _ _ _ _ _ _ _ _ _ _ _ _ [(0, .ref (ad 15 14 0)), (1, .int p0)] []
  refine rm_aload_n hc dX9_append_0 rfl rfl ?_
  refine rm_iconst (v := 0) hc dX9_append_1 (by decide) ?_
  refine rm_put hc dX9_append_2 fl_X9_25 dm_14 rfl (Nat.le_of_ble_eq_true rfl) ft_9_6 rfl rfl so_14_6 (rm_nm (fun x_1 ex_1 => ?_))
  refine rm_iload_n hc dX9_append_5 rfl rfl ?_
  refine rm_bipush (v := 33) hc dX9_append_6 (by decide) ?_
  refine rm_bipush (v := 126) hc dX9_append_8 (by decide) ?_
  refine rm_calliS (As := [.int p0, .int 33, .int 126]) (rest := []) hc dX9_append_10 (c_X9_in hI x_1 p0 33 126) ms_X9_29 (hn := rfl) (hst := rfl) (hw := Nat.le_of_ble_eq_true rfl) (hR := ⟨⟨rfl, rfl⟩, Nat.le_of_ble_eq_true rfl, Nat.le_of_ble_eq_true rfl⟩) (hnc := ⟨Nat.zero_le _, Nat.zero_le _⟩) (fun r_2 y_2 h_2 => ?_)
  obtain ⟨e_2, ey_2⟩ := h_2
  obtain rfl := ey_2.symm
  obtain rfl : r_2 = 1 := e_2.trans (inM_1 hs1 hs2)
  refine rm_if_ne (tgt := 22) hc dX9_append_13 (by decide) (fun _ => ?_) (fun h => absurd h (by decide))
  refine rm_aload_n hc dX9_append_22 rfl rfl ?_
  refine rm_geti hc dX9_append_23 fl_X9_114 dm_14 rfl rfl (fun v_4 e_4 => ?_)
  obtain rfl : v_4 = 60 := e_4.trans (by subst_vars; exact (up_n _ _ (by omega)).trans htl)
  refine rm_bipush (v := 60) hc dX9_append_26 (by decide) ?_
  refine rm_icmp_ne (tgt := 37) hc dX9_append_28 (by decide) (fun h => absurd h (by decide)) (fun _ => ?_)
  refine rm_aload_n hc dX9_append_31 rfl rfl ?_
  refine rm_iconst (v := 2) hc dX9_append_32 (by decide) ?_
  refine rm_calliV (As := [.int 2]) (rest := []) hc dX9_append_33 (c_X9_fails hI x_1 2) mv_X9_44 dm_14 rfl rfl (hn := rfl) (hst := rfl) (hw := Nat.le_of_ble_eq_true rfl) (hR := ⟨⟨rfl, rfl⟩, Nat.le_of_ble_eq_true rfl, Nat.le_of_ble_eq_true rfl⟩) (hnc := ⟨Nat.zero_le _, Nat.zero_le _⟩) (fun r_6 y_6 h_6 => ?_)
  obtain ⟨e_6, ey_6⟩ := h_6
  exact rm_iret hc dX9_append_36 ⟨e_6, by subst_vars; rfl⟩

set_option maxHeartbeats 4000000 in
set_option maxRecDepth 100000 in
theorem c_X9_append {l : Launch} {D : va_G} {cy : Nat → ClassId} {ad : Ads} (hI : IJ ad) (x : Mem) (p0 : Int32) (hs1 : ¬ p0 < 33) (hs2 : ¬ 126 < p0) {tl : Nat} (htl : x 15 1 = nI tl) (ht6 : tl < 60) : Cti l yX9_append cX9_append 2 (some .int) rm_X9_append D cy ad [.ref (ad 15 14 0), .int p0] x (fun r y => r = nI (tl + 1) ∧ y = up (up (T0 x) 13 tl p0) 15 1 (nI (tl + 1))) := by
  refine rm_entry (Qc := Qi D cy ad (fun r y => r = nI (tl + 1) ∧ y = up (up (T0 x) 13 tl p0) 15 1 (nI (tl + 1)))) hI (by decide) (Nat.le_of_ble_eq_true rfl) ?_
  intro p e s m args below meth c hc
  show RM _ _ _ _ _ _ _ _ _ _ _ _ _ _ _ _ _ [(0, .ref (ad 15 14 0)), (1, .int p0)] []
  refine rm_aload_n hc dX9_append_0 rfl rfl ?_
  refine rm_iconst (v := 0) hc dX9_append_1 (by decide) ?_
  refine rm_put hc dX9_append_2 fl_X9_25 dm_14 rfl (Nat.le_of_ble_eq_true rfl) ft_9_6 rfl rfl so_14_6 (rm_nm (fun x_1 ex_1 => ?_))
  refine rm_iload_n hc dX9_append_5 rfl rfl ?_
  refine rm_bipush (v := 33) hc dX9_append_6 (by decide) ?_
  refine rm_bipush (v := 126) hc dX9_append_8 (by decide) ?_
  refine rm_calliS (As := [.int p0, .int 33, .int 126]) (rest := []) hc dX9_append_10 (c_X9_in hI x_1 p0 33 126) ms_X9_29 (hn := rfl) (hst := rfl) (hw := Nat.le_of_ble_eq_true rfl) (hR := ⟨⟨rfl, rfl⟩, Nat.le_of_ble_eq_true rfl, Nat.le_of_ble_eq_true rfl⟩) (hnc := ⟨Nat.zero_le _, Nat.zero_le _⟩) (fun r_2 y_2 h_2 => ?_)
  obtain ⟨e_2, ey_2⟩ := h_2
  obtain rfl := ey_2.symm
  obtain rfl : r_2 = 1 := e_2.trans (inM_1 hs1 hs2)
  refine rm_if_ne (tgt := 22) hc dX9_append_13 (by decide) (fun _ => ?_) (fun h => absurd h (by decide))
  refine rm_aload_n hc dX9_append_22 rfl rfl ?_
  refine rm_geti hc dX9_append_23 fl_X9_114 dm_14 rfl rfl (fun v_4 e_4 => ?_)
  obtain rfl : v_4 = nI tl := e_4.trans (by subst_vars; first | exact (up_n _ _ (by omega)).trans htl | exact (up_b _ _ _ (by omega)).trans ((up_n _ _ (by omega)).trans htl))
  refine rm_bipush (v := 60) hc dX9_append_26 (by decide) ?_
  refine rm_icmp_ne (tgt := 37) hc dX9_append_28 (by decide) (fun _ => ?_) (fun h => absurd h (fun h2 => absurd ((nI_eq (a := tl) (b := 60) (by omega) (by omega)).mp h2) (by omega)))
  refine rm_aload_n hc dX9_append_37 rfl rfl ?_
  refine rm_get hc dX9_append_38 fl_X9_19 dm_14 rfl rfl ?_
  refine rm_aload_n hc dX9_append_41 rfl rfl ?_
  refine rm_geti hc dX9_append_42 fl_X9_114 dm_14 rfl rfl (fun v_6 e_6 => ?_)
  obtain rfl : v_6 = nI tl := e_6.trans (by subst_vars; first | exact (up_n _ _ (by omega)).trans htl | exact (up_b _ _ _ (by omega)).trans ((up_n _ _ (by omega)).trans htl))
  refine rm_iload_n hc dX9_append_45 rfl rfl ?_
  refine rm_iast (i := tl) hc dX9_append_46 dm_17 rfl (by omega) (by decide) rfl so_17 (rm_nm (fun x_7 ex_7 => ?_))
  refine rm_aload_n hc dX9_append_47 rfl rfl ?_
  refine rm_dup hc dX9_append_48 rfl ?_
  refine rm_geti hc dX9_append_49 fl_X9_114 dm_14 rfl rfl (fun v_8 e_8 => ?_)
  obtain rfl : v_8 = nI tl := e_8.trans (by subst_vars; first | exact (up_n _ _ (by omega)).trans htl | exact (up_b _ _ _ (by omega)).trans ((up_n _ _ (by omega)).trans htl))
  refine rm_iconst (v := 1) hc dX9_append_52 (by decide) ?_
  refine rm_iadd hc dX9_append_53 (fun v_9 e_9 => ?_)
  obtain rfl : v_9 = (nI (tl + 1)) := e_9.trans (nadd (m := tl) (n := 1) (by omega))
  clear e_9
  refine rm_put hc dX9_append_54 fl_X9_114 dm_14 rfl (Nat.le_of_ble_eq_true rfl) ft_9_5 rfl rfl so_14_5 (rm_nm (fun x_10 ex_10 => ?_))
  refine rm_aload_n hc dX9_append_57 rfl rfl ?_
  refine rm_geti hc dX9_append_58 fl_X9_114 dm_14 rfl rfl (fun v_11 e_11 => ?_)
  exact rm_iret hc dX9_append_61 ⟨by rw [e_11]; subst_vars; exact up_s _ _ _ _, by subst_vars; rfl⟩

set_option maxHeartbeats 4000000 in
set_option maxRecDepth 100000 in
theorem c_X9_clearBuffer {l : Launch} {D : va_G} {cy : Nat → ClassId} {ad : Ads} (hI : IJ ad) (x : Mem)  : Cti l yX9_clearBuffer cX9_clearBuffer 2 (some .int) rm_X9_clearBuffer D cy ad [.ref (ad 15 14 0)] x (fun r y => r = x 15 1 ∧ y = up (T0 x) 15 1 0) := by
  refine rm_entry (Qc := Qi D cy ad (fun r y => r = x 15 1 ∧ y = up (T0 x) 15 1 0)) hI (by decide) (Nat.le_of_ble_eq_true rfl) ?_
  intro p e s m args below meth c hc
  show RM _ _ _ _ _ _ _ _ _ _ _ _ _ _ _ _ _ [(0, .ref (ad 15 14 0))] []
  refine rm_aload_n hc dX9_clearBuffer_0 rfl rfl ?_
  refine rm_iconst (v := 0) hc dX9_clearBuffer_1 (by decide) ?_
  refine rm_put hc dX9_clearBuffer_2 fl_X9_25 dm_14 rfl (Nat.le_of_ble_eq_true rfl) ft_9_6 rfl rfl so_14_6 (rm_nm (fun x_1 ex_1 => ?_))
  refine rm_aload_n hc dX9_clearBuffer_5 rfl rfl ?_
  refine rm_geti hc dX9_clearBuffer_6 fl_X9_114 dm_14 rfl rfl (fun v_2 e_2 => ?_)
  refine rm_istore_n (ls' := [(0, .ref (ad 15 14 0)), (1, .int v_2)]) hc dX9_clearBuffer_9 rfl (by decide) rfl ?_
  refine rm_aload_n hc dX9_clearBuffer_10 rfl rfl ?_
  refine rm_iconst (v := 0) hc dX9_clearBuffer_11 (by decide) ?_
  refine rm_put hc dX9_clearBuffer_12 fl_X9_114 dm_14 rfl (Nat.le_of_ble_eq_true rfl) ft_9_5 rfl rfl so_14_5 (rm_nm (fun x_3 ex_3 => ?_))
  refine rm_iload_n hc dX9_clearBuffer_15 rfl rfl ?_
  exact rm_iret hc dX9_clearBuffer_16 ⟨by subst_vars; exact up_n _ _ (by omega), by subst_vars; rfl⟩

set_option maxHeartbeats 4000000 in
set_option maxRecDepth 100000 in
theorem c_X9_undo_1 {l : Launch} {D : va_G} {cy : Nat → ClassId} {ad : Ads} (hI : IJ ad) (x : Mem) (hkq : x 15 0 = 0) : Cti l yX9_undo cX9_undo 1 (some .int) rm_X9_undo D cy ad [.ref (ad 15 14 0)] x (fun r y => r = 0 ∧ y = TF x 1) := by
  refine rm_entry (Qc := Qi D cy ad (fun r y => r = 0 ∧ y = TF x 1)) hI (by decide) (Nat.le_of_ble_eq_true rfl) ?_
  intro p e s m args below meth c hc
  show RM _ _ _ _ _ _ _ _ _ _ _ _ _ _ _ _ _ [(0, .ref (ad 15 14 0))] []
  refine rm_aload_n hc dX9_undo_0 rfl rfl ?_
  refine rm_iconst (v := 0) hc dX9_undo_1 (by decide) ?_
  refine rm_put hc dX9_undo_2 fl_X9_25 dm_14 rfl (Nat.le_of_ble_eq_true rfl) ft_9_6 rfl rfl so_14_6 (rm_nm (fun x_1 ex_1 => ?_))
  refine rm_aload_n hc dX9_undo_5 rfl rfl ?_
  refine rm_geti hc dX9_undo_6 fl_X9_37 dm_14 rfl rfl (fun v_2 e_2 => ?_)
  obtain rfl : v_2 = 0 := e_2.trans (by subst_vars; exact T0_0.trans hkq)
  refine rm_if_ne (tgt := 18) hc dX9_undo_9 (by decide) (fun h => absurd h (by decide)) (fun _ => ?_)
  refine rm_aload_n hc dX9_undo_12 rfl rfl ?_
  refine rm_iconst (v := 1) hc dX9_undo_13 (by decide) ?_
  refine rm_calliV (As := [.int 1]) (rest := []) hc dX9_undo_14 (c_X9_fails hI x_1 1) mv_X9_44 dm_14 rfl rfl (hn := rfl) (hst := rfl) (hw := Nat.le_of_ble_eq_true rfl) (hR := ⟨⟨rfl, rfl⟩, Nat.le_of_ble_eq_true rfl, Nat.le_of_ble_eq_true rfl⟩) (hnc := ⟨Nat.zero_le _, Nat.zero_le _⟩) (fun r_4 y_4 h_4 => ?_)
  obtain ⟨e_4, ey_4⟩ := h_4
  exact rm_iret hc dX9_undo_17 ⟨e_4, by subst_vars; rfl⟩

set_option maxHeartbeats 4000000 in
set_option maxRecDepth 100000 in
theorem c_X9_undo {l : Launch} {D : va_G} {cy : Nat → ClassId} {ad : Ads} (hI : IJ ad) (x : Mem) {kq : Nat} (hk6 : kq < 6) (hkq : x 15 0 = nI (kq + 1)) : Cti l yX9_undo cX9_undo 1 (some .int) rm_X9_undo D cy ad [.ref (ad 15 14 0)] x (fun r y => r = nI kq ∧ y = cpS (up (T0 x) 15 0 (nI kq)) 10 0 12 (96 * kq) 96) := by
  refine rm_entry (Qc := Qi D cy ad (fun r y => r = nI kq ∧ y = cpS (up (T0 x) 15 0 (nI kq)) 10 0 12 (96 * kq) 96)) hI (by decide) (Nat.le_of_ble_eq_true rfl) ?_
  intro p e s m args below meth c hc
  show RM _ _ _ _ _ _ _ _ _ _ _ _ _ _ _ _ _ [(0, .ref (ad 15 14 0))] []
  refine rm_aload_n hc dX9_undo_0 rfl rfl ?_
  refine rm_iconst (v := 0) hc dX9_undo_1 (by decide) ?_
  refine rm_put hc dX9_undo_2 fl_X9_25 dm_14 rfl (Nat.le_of_ble_eq_true rfl) ft_9_6 rfl rfl so_14_6 (rm_nm (fun x_1 ex_1 => ?_))
  refine rm_aload_n hc dX9_undo_5 rfl rfl ?_
  refine rm_geti hc dX9_undo_6 fl_X9_37 dm_14 rfl rfl (fun v_2 e_2 => ?_)
  obtain rfl : v_2 = nI (kq + 1) := e_2.trans (by subst_vars; exact T0_0.trans hkq)
  refine rm_if_ne (tgt := 18) hc dX9_undo_9 (by decide) (fun _ => ?_) (fun h => absurd h (fun h2 => absurd ((nI_eq (a := kq + 1) (b := 0) (by omega) (by omega)).mp h2) (by omega)))
  refine rm_aload_n hc dX9_undo_18 rfl rfl ?_
  refine rm_dup hc dX9_undo_19 rfl ?_
  refine rm_geti hc dX9_undo_20 fl_X9_37 dm_14 rfl rfl (fun v_4 e_4 => ?_)
  obtain rfl : v_4 = nI (kq + 1) := e_4.trans (by subst_vars; exact T0_0.trans hkq)
  refine rm_iconst (v := 1) hc dX9_undo_23 (by decide) ?_
  refine rm_isub hc dX9_undo_24 (fun v_5 e_5 => ?_)
  obtain rfl : v_5 = nI kq := e_5.trans (pk_sub (a := kq + 1) (b := 1) (by omega))
  refine rm_put hc dX9_undo_25 fl_X9_37 dm_14 rfl (Nat.le_of_ble_eq_true rfl) ft_9_3 rfl rfl so_14_3 (rm_nm (fun x_6 ex_6 => ?_))
  refine rm_aload_n hc dX9_undo_28 rfl rfl ?_
  refine rm_get hc dX9_undo_29 fl_X9_16 dm_14 rfl rfl ?_
  refine rm_bipush (v := 96) hc dX9_undo_32 (by decide) ?_
  refine rm_aload_n hc dX9_undo_34 rfl rfl ?_
  refine rm_geti hc dX9_undo_35 fl_X9_37 dm_14 rfl rfl (fun v_7 e_7 => ?_)
  obtain rfl : v_7 = nI kq := by rw [e_7]; subst_vars; first | exact up_s _ _ _ _ | (rw [cpS_b (by omega)]; exact up_s _ _ _ _)
  refine rm_imul hc dX9_undo_38 (fun v_8 e_8 => ?_)
  obtain rfl : v_8 = (nI (96 * kq)) := e_8.trans (nmul (m := 96) (n := kq) (by omega))
  clear e_8
  refine rm_aload_n hc dX9_undo_39 rfl rfl ?_
  refine rm_get hc dX9_undo_40 fl_X9_7 dm_14 rfl rfl ?_
  refine rm_iconst (v := 0) hc dX9_undo_43 (by decide) ?_
  refine rm_callvS (As := [.ref (ad 12 16 0), .int (nI (96 * kq)), .ref (ad 10 15 0), .int 0]) (rest := []) hc dX9_undo_44 (c_X9_copies_u hI x_6 (kq := kq) (by omega)) ms_X9_40 (hn := rfl) (hst := rfl) (hw := Nat.le_of_ble_eq_true rfl) (hR := ⟨⟨rfl, rfl⟩, Nat.le_of_ble_eq_true rfl, Nat.le_of_ble_eq_true rfl⟩) (hnc := ⟨Nat.zero_le _, Nat.zero_le _⟩) (fun y_9 h_9 => ?_)
  refine rm_aload_n hc dX9_undo_47 rfl rfl ?_
  refine rm_geti hc dX9_undo_48 fl_X9_37 dm_14 rfl rfl (fun v_10 e_10 => ?_)
  obtain rfl : v_10 = nI kq := by rw [e_10]; subst_vars; first | exact up_s _ _ _ _ | (rw [cpS_b (by omega)]; exact up_s _ _ _ _)
  exact rm_iret hc dX9_undo_51 ⟨rfl, by subst_vars; rfl⟩
