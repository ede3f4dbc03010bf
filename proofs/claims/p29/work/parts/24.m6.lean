abbrev rm_X8_needIndex : Room := { frames := 6, cells := 0, slots := 0, locals := 90 }
set_option maxHeartbeats 4000000 in
set_option maxRecDepth 100000 in
theorem c_X8_needIndex {l : Launch} {D : va_G} {cy : Nat → ClassId} {ad : Ads} (hI : IJ ad) (x : Mem) (a b : Int32) (h1 : ¬ a < 0) (h2 : a < b) : Ctv l yX8_needIndex cX8_needIndex 2 none rm_X8_needIndex D cy ad [.int a, .int b] x (fun y => y = x) := by
  refine rm_entry (Qc := Qv D cy ad (fun y => y = x)) hI (by decide) (Nat.le_of_ble_eq_true rfl) ?_
  intro p e s m args below meth c hc
  show RM _ _ _ _ _ _ _ _ _ _ _ _ _ _ _ _ _ [(0, .int a), (1, .int b)] []
  refine rm_iload_n hc dX8_needIndex_0 rfl rfl ?_
  refine rm_if_lt (tgt := 9) hc dX8_needIndex_1 (by decide) (fun h => absurd h h1) (fun _ => ?_)
  refine rm_iload_n hc dX8_needIndex_4 rfl rfl ?_
  refine rm_iload_n hc dX8_needIndex_5 rfl rfl ?_
  refine rm_icmp_lt (tgt := 17) hc dX8_needIndex_6 (by decide) (fun _ => ?_) (fun h => absurd h2 h)
  exact rm_vret hc dX8_needIndex_17 rfl

abbrev rm_X8_needArgument : Room := { frames := 6, cells := 0, slots := 0, locals := 90 }
set_option maxHeartbeats 4000000 in
set_option maxRecDepth 100000 in
theorem c_X8_needArgument {l : Launch} {D : va_G} {cy : Nat → ClassId} {ad : Ads} (hI : IJ ad) (x : Mem)  : Ctv l yX8_needArgument cX8_needArgument 1 none rm_X8_needArgument D cy ad [.int 1] x (fun y => y = x) := by
  refine rm_entry (Qc := Qv D cy ad (fun y => y = x)) hI (by decide) (Nat.le_of_ble_eq_true rfl) ?_
  intro p e s m args below meth c hc
  show RM _ _ _ _ _ _ _ _ _ _ _ _ _ _ _ _ _ [(0, .int 1)] []
  refine rm_iload_n hc dX8_needArgument_0 rfl rfl ?_
  refine rm_if_ne (tgt := 12) hc dX8_needArgument_1 (by decide) (fun _ => ?_) (fun h => absurd h (by decide))
  exact rm_vret hc dX8_needArgument_12 rfl

abbrev rm_X8_needState : Room := { frames := 6, cells := 0, slots := 0, locals := 90 }
set_option maxHeartbeats 4000000 in
set_option maxRecDepth 100000 in
theorem c_X8_needState {l : Launch} {D : va_G} {cy : Nat → ClassId} {ad : Ads} (hI : IJ ad) (x : Mem)  : Ctv l yX8_needState cX8_needState 1 none rm_X8_needState D cy ad [.int 1] x (fun y => y = x) := by
  refine rm_entry (Qc := Qv D cy ad (fun y => y = x)) hI (by decide) (Nat.le_of_ble_eq_true rfl) ?_
  intro p e s m args below meth c hc
  show RM _ _ _ _ _ _ _ _ _ _ _ _ _ _ _ _ _ [(0, .int 1)] []
  refine rm_iload_n hc dX8_needState_0 rfl rfl ?_
  refine rm_if_ne (tgt := 12) hc dX8_needState_1 (by decide) (fun _ => ?_) (fun h => absurd h (by decide))
  exact rm_vret hc dX8_needState_12 rfl

abbrev rm_X8_needRange : Room := { frames := 7, cells := 0, slots := 0, locals := 110 }
set_option maxHeartbeats 4000000 in
set_option maxRecDepth 100000 in
theorem c_X8_needRange {l : Launch} {D : va_G} {cy : Nat → ClassId} {ad : Ads} (hI : IJ ad) (x : Mem) (a lo hi2 : Int32) (h1 : ¬ a < lo) (h2 : ¬ hi2 < a) : Ctv l yX8_needRange cX8_needRange 3 none rm_X8_needRange D cy ad [.int a, .int lo, .int hi2] x (fun y => y = x) := by
  refine rm_entry (Qc := Qv D cy ad (fun y => y = x)) hI (by decide) (Nat.le_of_ble_eq_true rfl) ?_
  intro p e s m args below meth c hc
  show RM _ _ _ _ _ _ _ _ _ _ _ _ _ _ _ _ _ [(0, .int a), (1, .int lo), (2, .int hi2)] []
  refine rm_iload_n hc dX8_needRange_0 rfl rfl ?_
  refine rm_iload_n hc dX8_needRange_1 rfl rfl ?_
  refine rm_icmp_lt (tgt := 14) hc dX8_needRange_2 (by decide) (fun h => absurd h h1) (fun _ => ?_)
  refine rm_iload_n hc dX8_needRange_5 rfl rfl ?_
  refine rm_iload_n hc dX8_needRange_6 rfl rfl ?_
  refine rm_icmp_gt (tgt := 14) hc dX8_needRange_7 (by decide) (fun h => absurd h h2) (fun _ => ?_)
  refine rm_iconst (v := 1) hc dX8_needRange_10 (by decide) ?_
  refine rm_goto (tgt := 15) hc dX8_needRange_11 (by decide) ?_
  refine rm_callvS (As := [.int 1]) (rest := []) hc dX8_needRange_15 (c_X8_needArgument hI x) ms_X8_151 (hn := rfl) (hst := rfl) (hw := Nat.le_of_ble_eq_true rfl) (hR := ⟨⟨rfl, rfl⟩, Nat.le_of_ble_eq_true rfl, Nat.le_of_ble_eq_true rfl⟩) (hnc := ⟨Nat.zero_le _, Nat.zero_le _⟩) (fun y_3 h_3 => ?_)
  obtain rfl := h_3.symm
  exact rm_vret hc dX8_needRange_18 rfl

abbrev rm_X8_make : Room := { frames := 8, cells := 0, slots := 0, locals := 132 }
set_option maxHeartbeats 4000000 in
set_option maxRecDepth 100000 in
theorem c_X8_make {l : Launch} {D : va_G} {cy : Nat → ClassId} {ad : Ads} (hI : IJ ad) (x : Mem) {j : Nat} (hj : j < 4) (sc cn : Int32) (hs1 : ¬ sc < 0) (hs2 : ¬ 9999 < sc) (hc1 : ¬ cn < 0) (hc2 : ¬ 9999 < cn) {nq : Nat} (hn6 : nq < 6) (hnq : NXT x nq 0) (hF : FLG x 0) : Cti l yX8_make cX8_make 6 (some .int) rm_X8_make D cy ad [.ref (ad 8 9 0), .int (nI (j)), .int sc, .int cn] x (fun r y => r = x 0 (15 + 4 * j) ∧ y = up (up (kpM x nq) 0 (14 + 4 * j) sc) 0 (15 + 4 * j) cn) := by
  refine rm_entry (Qc := Qi D cy ad (fun r y => r = x 0 (15 + 4 * j) ∧ y = up (up (kpM x nq) 0 (14 + 4 * j) sc) 0 (15 + 4 * j) cn)) hI (by decide) (Nat.le_of_ble_eq_true rfl) ?_
  intro p e s m args below meth c hc
  show RM _ _ _ _ _ _ _ _ _ _ _ _ _ _ _ _ _ [(0, .ref (ad 8 9 0)), (1, .int (nI (j))), (2, .int sc), (3, .int cn)] []
  refine rm_iload_n hc dX8_make_0 rfl rfl ?_
  refine rm_iconst (v := 4) hc dX8_make_1 (by decide) ?_
  refine rm_callvS (As := [.int (nI (j)), .int 4]) (rest := []) hc dX8_make_2 (c_X8_needIndex hI x (nI (j)) 4 (nI_pos (n := j) (by omega)) (nI_lt (a := j) (b := 4) (by omega) (by omega))) ms_X8_37 (hn := rfl) (hst := rfl) (hw := Nat.le_of_ble_eq_true rfl) (hR := ⟨⟨rfl, rfl⟩, Nat.le_of_ble_eq_true rfl, Nat.le_of_ble_eq_true rfl⟩) (hnc := ⟨Nat.zero_le _, Nat.zero_le _⟩) (fun y_1 h_1 => ?_)
  obtain rfl := h_1.symm
  refine rm_iload_n hc dX8_make_5 rfl rfl ?_
  refine rm_iconst (v := 0) hc dX8_make_6 (by decide) ?_
  refine rm_sipush (v := 9999) hc dX8_make_7 (by decide) ?_
  refine rm_callvS (As := [.int sc, .int 0, .int 9999]) (rest := []) hc dX8_make_10 (c_X8_needRange hI x sc 0 9999 hs1 hs2) ms_X8_41 (hn := rfl) (hst := rfl) (hw := Nat.le_of_ble_eq_true rfl) (hR := ⟨⟨rfl, rfl⟩, Nat.le_of_ble_eq_true rfl, Nat.le_of_ble_eq_true rfl⟩) (hnc := ⟨Nat.zero_le _, Nat.zero_le _⟩) (fun y_2 h_2 => ?_)
  obtain rfl := h_2.symm
  refine rm_iload_n hc dX8_make_13 rfl rfl ?_
  refine rm_iconst (v := 0) hc dX8_make_14 (by decide) ?_
  refine rm_sipush (v := 9999) hc dX8_make_15 (by decide) ?_
  refine rm_callvS (As := [.int cn, .int 0, .int 9999]) (rest := []) hc dX8_make_18 (c_X8_needRange hI x cn 0 9999 hc1 hc2) ms_X8_41 (hn := rfl) (hst := rfl) (hw := Nat.le_of_ble_eq_true rfl) (hR := ⟨⟨rfl, rfl⟩, Nat.le_of_ble_eq_true rfl, Nat.le_of_ble_eq_true rfl⟩) (hnc := ⟨Nat.zero_le _, Nat.zero_le _⟩) (fun y_3 h_3 => ?_)
  obtain rfl := h_3.symm
  refine rm_aload_n hc dX8_make_21 rfl rfl ?_
  refine rm_get hc dX8_make_22 fl_X8_19 dm_9 rfl rfl ?_
  refine rm_aload_n hc dX8_make_25 rfl rfl ?_
  refine rm_get hc dX8_make_26 fl_X8_10 dm_9 rfl rfl ?_
  refine rm_callvV (As := [.ref (ad 0 0 0)]) (rest := []) hc dX8_make_29 (c_X3_keep hI x (nq := nq) hn6 hnq hF) mv_X8_45 dm_10 rfl rfl (hn := rfl) (hst := rfl) (hw := Nat.le_of_ble_eq_true rfl) (hR := ⟨⟨rfl, rfl⟩, Nat.le_of_ble_eq_true rfl, Nat.le_of_ble_eq_true rfl⟩) (hnc := ⟨Nat.zero_le _, Nat.zero_le _⟩) (fun y_4 h_4 => ?_)
  refine rm_aload_n hc dX8_make_32 rfl rfl ?_
  refine rm_get hc dX8_make_33 fl_X8_10 dm_9 rfl rfl ?_
  refine rm_get hc dX8_make_36 fl_X8_49 (dm_0 (by omega)) rfl rfl ?_
  refine rm_iload_n hc dX8_make_39 rfl rfl ?_
  refine rm_aald (t0 := 1) (i := j) (v := .ref (ad 0 2 j)) hc dX8_make_40 (dm_1 (by omega)) rfl rfl (by omega) (by decide) rfl rfl ?_
  refine rm_astore (ls' := [(0, .ref (ad 8 9 0)), (1, .int (nI (j))), (2, .int sc), (3, .int cn), (4, .ref (ad 0 2 j))]) hc dX8_make_41 (by decide) rfl ?_
  refine rm_aload hc dX8_make_43 rfl ?_
  refine rm_geti hc dX8_make_45 fl_X8_53 (dm_2 (by omega) (by omega)) rfl rfl (fun v_5 e_5 => ?_)
  refine rm_istore (ls' := [(0, .ref (ad 8 9 0)), (1, .int (nI (j))), (2, .int sc), (3, .int cn), (4, .ref (ad 0 2 j)), (5, .int v_5)]) hc dX8_make_48 (by decide) rfl ?_
  refine rm_aload hc dX8_make_50 rfl ?_
  refine rm_iload_n hc dX8_make_52 rfl rfl ?_
  refine rm_put hc dX8_make_53 fl_X8_59 (dm_2 (by omega) (by omega)) rfl (Nat.le_of_ble_eq_true rfl) ft_2_0 rfl rfl (so_2_0 (by omega) (by omega)) (rm_nm (fun x_6 ex_6 => ?_))
  refine rm_aload hc dX8_make_56 rfl ?_
  refine rm_iload_n hc dX8_make_58 rfl rfl ?_
  refine rm_put hc dX8_make_59 fl_X8_53 (dm_2 (by omega) (by omega)) rfl (Nat.le_of_ble_eq_true rfl) ft_2_1 rfl rfl (so_2_1 (by omega) (by omega)) (rm_nm (fun x_7 ex_7 => ?_))
  refine rm_iload hc dX8_make_62 rfl ?_
  exact rm_iret hc dX8_make_64 ⟨by subst_vars; first | rfl | exact kpM_0, by subst_vars; rfl⟩

abbrev rm_X8_battery : Room := { frames := 8, cells := 0, slots := 0, locals := 132 }
set_option maxHeartbeats 4000000 in
set_option maxRecDepth 100000 in
theorem c_X8_battery {l : Launch} {D : va_G} {cy : Nat → ClassId} {ad : Ads} (hI : IJ ad) (x : Mem) {j : Nat} (hj : j < 4) (bt : Int32) (hb1 : ¬ bt < 0) (hb2 : ¬ 999 < bt) {nq : Nat} (hn6 : nq < 6) (hnq : NXT x nq 0) (hF : FLG x 0) : Cti l yX8_battery cX8_battery 5 (some .int) rm_X8_battery D cy ad [.ref (ad 8 9 0), .int (nI (j)), .int bt] x (fun r y => r = x 0 (16 + 4 * j) ∧ y = up (kpM x nq) 0 (16 + 4 * j) bt) := by
  refine rm_entry (Qc := Qi D cy ad (fun r y => r = x 0 (16 + 4 * j) ∧ y = up (kpM x nq) 0 (16 + 4 * j) bt)) hI (by decide) (Nat.le_of_ble_eq_true rfl) ?_
  intro p e s m args below meth c hc
  show RM _ _ _ _ _ _ _ _ _ _ _ _ _ _ _ _ _ [(0, .ref (ad 8 9 0)), (1, .int (nI (j))), (2, .int bt)] []
  refine rm_iload_n hc dX8_battery_0 rfl rfl ?_
  refine rm_iconst (v := 4) hc dX8_battery_1 (by decide) ?_
  refine rm_callvS (As := [.int (nI (j)), .int 4]) (rest := []) hc dX8_battery_2 (c_X8_needIndex hI x (nI (j)) 4 (nI_pos (n := j) (by omega)) (nI_lt (a := j) (b := 4) (by omega) (by omega))) ms_X8_37 (hn := rfl) (hst := rfl) (hw := Nat.le_of_ble_eq_true rfl) (hR := ⟨⟨rfl, rfl⟩, Nat.le_of_ble_eq_true rfl, Nat.le_of_ble_eq_true rfl⟩) (hnc := ⟨Nat.zero_le _, Nat.zero_le _⟩) (fun y_1 h_1 => ?_)
  obtain rfl := h_1.symm
  refine rm_iload_n hc dX8_battery_5 rfl rfl ?_
  refine rm_iconst (v := 0) hc dX8_battery_6 (by decide) ?_
  refine rm_sipush (v := 999) hc dX8_battery_7 (by decide) ?_
  refine rm_callvS (As := [.int bt, .int 0, .int 999]) (rest := []) hc dX8_battery_10 (c_X8_needRange hI x bt 0 999 hb1 hb2) ms_X8_41 (hn := rfl) (hst := rfl) (hw := Nat.le_of_ble_eq_true rfl) (hR := ⟨⟨rfl, rfl⟩, Nat.le_of_ble_eq_true rfl, Nat.le_of_ble_eq_true rfl⟩) (hnc := ⟨Nat.zero_le _, Nat.zero_le _⟩) (fun y_2 h_2 => ?_)
  obtain rfl := h_2.symm
  refine rm_aload_n hc dX8_battery_13 rfl rfl ?_
  refine rm_get hc dX8_battery_14 fl_X8_19 dm_9 rfl rfl ?_
  refine rm_aload_n hc dX8_battery_17 rfl rfl ?_
  refine rm_get hc dX8_battery_18 fl_X8_10 dm_9 rfl rfl ?_
  refine rm_callvV (As := [.ref (ad 0 0 0)]) (rest := []) hc dX8_battery_21 (c_X3_keep hI x (nq := nq) hn6 hnq hF) mv_X8_45 dm_10 rfl rfl (hn := rfl) (hst := rfl) (hw := Nat.le_of_ble_eq_true rfl) (hR := ⟨⟨rfl, rfl⟩, Nat.le_of_ble_eq_true rfl, Nat.le_of_ble_eq_true rfl⟩) (hnc := ⟨Nat.zero_le _, Nat.zero_le _⟩) (fun y_3 h_3 => ?_)
  refine rm_aload_n hc dX8_battery_24 rfl rfl ?_
  refine rm_get hc dX8_battery_25 fl_X8_10 dm_9 rfl rfl ?_
  refine rm_get hc dX8_battery_28 fl_X8_49 (dm_0 (by omega)) rfl rfl ?_
  refine rm_iload_n hc dX8_battery_31 rfl rfl ?_
  refine rm_aald (t0 := 1) (i := j) (v := .ref (ad 0 2 j)) hc dX8_battery_32 (dm_1 (by omega)) rfl rfl (by omega) (by decide) rfl rfl ?_
  refine rm_astore_n (ls' := [(0, .ref (ad 8 9 0)), (1, .int (nI (j))), (2, .int bt), (3, .ref (ad 0 2 j))]) hc dX8_battery_33 rfl (by decide) rfl ?_
  refine rm_aload_n hc dX8_battery_34 rfl rfl ?_
  refine rm_geti hc dX8_battery_35 fl_X8_62 (dm_2 (by omega) (by omega)) rfl rfl (fun v_4 e_4 => ?_)
  refine rm_istore (ls' := [(0, .ref (ad 8 9 0)), (1, .int (nI (j))), (2, .int bt), (3, .ref (ad 0 2 j)), (4, .int v_4)]) hc dX8_battery_38 (by decide) rfl ?_
  refine rm_aload_n hc dX8_battery_40 rfl rfl ?_
  refine rm_iload_n hc dX8_battery_41 rfl rfl ?_
  refine rm_put hc dX8_battery_42 fl_X8_62 (dm_2 (by omega) (by omega)) rfl (Nat.le_of_ble_eq_true rfl) ft_2_2 rfl rfl (so_2_2 (by omega) (by omega)) (rm_nm (fun x_5 ex_5 => ?_))
  refine rm_iload hc dX8_battery_45 rfl ?_
  exact rm_iret hc dX8_battery_47 ⟨by subst_vars; first | rfl | exact kpM_0, by subst_vars; rfl⟩

abbrev rm_X8_press : Room := { frames := 8, cells := 0, slots := 0, locals := 132 }
set_option maxHeartbeats 4000000 in
set_option maxRecDepth 100000 in
theorem c_X8_press {l : Launch} {D : va_G} {cy : Nat → ClassId} {ad : Ads} (hI : IJ ad) (x : Mem) {j : Nat} (hj : j < 4) (msk : Int32) (hm1 : ¬ msk < 0) (hm2 : ¬ 7 < msk) (mm : Nat) (hmm : mm < 2 ^ 30) (hw : x 0 1 = nI mm) (hbat : ¬ x 0 (16 + 4 * j) ≤ 0) {nq : Nat} (hn6 : nq < 6) (hnq : NXT x nq 0) (hF : FLG x 0) : Cti l yX8_press cX8_press 3 (some .int) rm_X8_press D cy ad [.ref (ad 8 9 0), .int (nI (j)), .int msk] x (fun r y => r = (prsS (kpM x nq) 0 j msk mm).1 ∧ y = (prsS (kpM x nq) 0 j msk mm).2) := by
  refine rm_entry (Qc := Qi D cy ad (fun r y => r = (prsS (kpM x nq) 0 j msk mm).1 ∧ y = (prsS (kpM x nq) 0 j msk mm).2)) hI (by decide) (Nat.le_of_ble_eq_true rfl) ?_
  intro p e s m args below meth c hc
  show RM _ _ _ _ _ _ _ _ _ _ _ _ _ _ _ _ _ [(0, .ref (ad 8 9 0)), (1, .int (nI (j))), (2, .int msk)] []
  refine rm_iload_n hc dX8_press_0 rfl rfl ?_
  refine rm_iconst (v := 4) hc dX8_press_1 (by decide) ?_
  refine rm_callvS (As := [.int (nI (j)), .int 4]) (rest := []) hc dX8_press_2 (c_X8_needIndex hI x (nI (j)) 4 (nI_pos (n := j) (by omega)) (nI_lt (a := j) (b := 4) (by omega) (by omega))) ms_X8_37 (hn := rfl) (hst := rfl) (hw := Nat.le_of_ble_eq_true rfl) (hR := ⟨⟨rfl, rfl⟩, Nat.le_of_ble_eq_true rfl, Nat.le_of_ble_eq_true rfl⟩) (hnc := ⟨Nat.zero_le _, Nat.zero_le _⟩) (fun y_1 h_1 => ?_)
  obtain rfl := h_1.symm
  refine rm_iload_n hc dX8_press_5 rfl rfl ?_
  refine rm_iconst (v := 0) hc dX8_press_6 (by decide) ?_
  refine rm_bipush (v := 7) hc dX8_press_7 (by decide) ?_
  refine rm_callvS (As := [.int msk, .int 0, .int 7]) (rest := []) hc dX8_press_9 (c_X8_needRange hI x msk 0 7 hm1 hm2) ms_X8_41 (hn := rfl) (hst := rfl) (hw := Nat.le_of_ble_eq_true rfl) (hR := ⟨⟨rfl, rfl⟩, Nat.le_of_ble_eq_true rfl, Nat.le_of_ble_eq_true rfl⟩) (hnc := ⟨Nat.zero_le _, Nat.zero_le _⟩) (fun y_2 h_2 => ?_)
  obtain rfl := h_2.symm
  refine rm_aload_n hc dX8_press_12 rfl rfl ?_
  refine rm_get hc dX8_press_13 fl_X8_10 dm_9 rfl rfl ?_
  refine rm_iload_n hc dX8_press_16 rfl rfl ?_
  refine rm_calliV (As := [.int (nI (j))]) (rest := []) hc dX8_press_17 (c_X6_canPress hI x (k := 0) (j := j) (by omega) (by omega)) mv_X8_65 (dm_0 (by omega)) rfl rfl (hn := rfl) (hst := rfl) (hw := Nat.le_of_ble_eq_true rfl) (hR := ⟨⟨rfl, rfl⟩, Nat.le_of_ble_eq_true rfl, Nat.le_of_ble_eq_true rfl⟩) (hnc := ⟨Nat.zero_le _, Nat.zero_le _⟩) (fun r_3 y_3 h_3 => ?_)
  obtain ⟨e_3, ey_3⟩ := h_3
  obtain rfl := ey_3.symm
  obtain rfl : r_3 = 1 := by rw [e_3]; exact if_neg hbat
  refine rm_callvS (As := [.int 1]) (rest := []) hc dX8_press_20 (c_X8_needState hI x) ms_X8_69 (hn := rfl) (hst := rfl) (hw := Nat.le_of_ble_eq_true rfl) (hR := ⟨⟨rfl, rfl⟩, Nat.le_of_ble_eq_true rfl, Nat.le_of_ble_eq_true rfl⟩) (hnc := ⟨Nat.zero_le _, Nat.zero_le _⟩) (fun y_4 h_4 => ?_)
  obtain rfl := h_4.symm
  refine rm_aload_n hc dX8_press_23 rfl rfl ?_
  refine rm_get hc dX8_press_24 fl_X8_19 dm_9 rfl rfl ?_
  refine rm_aload_n hc dX8_press_27 rfl rfl ?_
  refine rm_get hc dX8_press_28 fl_X8_10 dm_9 rfl rfl ?_
  refine rm_callvV (As := [.ref (ad 0 0 0)]) (rest := []) hc dX8_press_31 (c_X3_keep hI x (nq := nq) hn6 hnq hF) mv_X8_45 dm_10 rfl rfl (hn := rfl) (hst := rfl) (hw := Nat.le_of_ble_eq_true rfl) (hR := ⟨⟨rfl, rfl⟩, Nat.le_of_ble_eq_true rfl, Nat.le_of_ble_eq_true rfl⟩) (hnc := ⟨Nat.zero_le _, Nat.zero_le _⟩) (fun y_5 h_5 => ?_)
  refine rm_aload_n hc dX8_press_34 rfl rfl ?_
  refine rm_get hc dX8_press_35 fl_X8_10 dm_9 rfl rfl ?_
  refine rm_iload_n hc dX8_press_38 rfl rfl ?_
  refine rm_iload_n hc dX8_press_39 rfl rfl ?_
  refine rm_calliV (As := [.int (nI (j)), .int msk]) (rest := []) hc dX8_press_40 (c_X6_pressFob hI y_5 (k := 0) (j := j) (by omega) (by omega) msk mm (by omega) (by rw [h_5]; exact kpM_0.trans hw) (by rw [h_5, kpM_0]; exact hbat)) mv_X8_73 (dm_0 (by omega)) rfl rfl (hn := rfl) (hst := rfl) (hw := Nat.le_of_ble_eq_true rfl) (hR := ⟨⟨rfl, rfl⟩, Nat.le_of_ble_eq_true rfl, Nat.le_of_ble_eq_true rfl⟩) (hnc := ⟨Nat.zero_le _, Nat.zero_le _⟩) (fun r_6 y_6 h_6 => ?_)
  obtain ⟨e_6, ey_6⟩ := h_6
  exact rm_iret hc dX8_press_43 ⟨by subst_vars; rfl, by subst_vars; rfl⟩

abbrev rm_X8_again : Room := { frames := 8, cells := 0, slots := 0, locals := 132 }
set_option maxHeartbeats 4000000 in
set_option maxRecDepth 100000 in
theorem c_X8_again {l : Launch} {D : va_G} {cy : Nat → ClassId} {ad : Ads} (hI : IJ ad) (x : Mem) {ii nr : Nat} (hii : ii < nr) (hr8 : nr ≤ 8) (hnr : x 0 5 = nI nr) (msk : Int32) (hm1 : ¬ msk < 0) (hm2 : ¬ 7 < msk) (mm : Nat) (hmm : mm < 2 ^ 30) (hw : x 0 1 = nI mm) {nq : Nat} (hn6 : nq < 6) (hnq : NXT x nq 0) (hF : FLG x 0) : Cti l yX8_again cX8_again 3 (some .int) rm_X8_again D cy ad [.ref (ad 8 9 0), .int (nI (ii)), .int msk] x (fun r y => r = (agnS (kpM x nq) ii msk mm).1 ∧ y = (agnS (kpM x nq) ii msk mm).2) := by
  refine rm_entry (Qc := Qi D cy ad (fun r y => r = (agnS (kpM x nq) ii msk mm).1 ∧ y = (agnS (kpM x nq) ii msk mm).2)) hI (by decide) (Nat.le_of_ble_eq_true rfl) ?_
  intro p e s m args below meth c hc
  show RM _ _ _ _ _ _ _ _ _ _ _ _ _ _ _ _ _ [(0, .ref (ad 8 9 0)), (1, .int (nI (ii))), (2, .int msk)] []
  refine rm_iload_n hc dX8_again_0 rfl rfl ?_
  refine rm_aload_n hc dX8_again_1 rfl rfl ?_
  refine rm_get hc dX8_again_2 fl_X8_10 dm_9 rfl rfl ?_
  refine rm_get hc dX8_again_5 fl_X8_77 (dm_0 (by omega)) rfl rfl ?_
  refine rm_geti hc dX8_again_8 fl_X8_81 (dm_6 (by omega)) rfl rfl (fun v_1 e_1 => ?_)
  obtain rfl : v_1 = nI nr := e_1.trans hnr
  refine rm_callvS (As := [.int (nI (ii)), .int (nI (nr))]) (rest := []) hc dX8_again_11 (c_X8_needIndex hI x (nI (ii)) (nI (nr)) (nI_pos (n := ii) (by omega)) (nI_lt (a := ii) (b := nr) (by omega) (by omega))) ms_X8_37 (hn := rfl) (hst := rfl) (hw := Nat.le_of_ble_eq_true rfl) (hR := ⟨⟨rfl, rfl⟩, Nat.le_of_ble_eq_true rfl, Nat.le_of_ble_eq_true rfl⟩) (hnc := ⟨Nat.zero_le _, Nat.zero_le _⟩) (fun y_2 h_2 => ?_)
  obtain rfl := h_2.symm
  refine rm_iload_n hc dX8_again_14 rfl rfl ?_
  refine rm_iconst (v := 0) hc dX8_again_15 (by decide) ?_
  refine rm_bipush (v := 7) hc dX8_again_16 (by decide) ?_
  refine rm_callvS (As := [.int msk, .int 0, .int 7]) (rest := []) hc dX8_again_18 (c_X8_needRange hI x msk 0 7 hm1 hm2) ms_X8_41 (hn := rfl) (hst := rfl) (hw := Nat.le_of_ble_eq_true rfl) (hR := ⟨⟨rfl, rfl⟩, Nat.le_of_ble_eq_true rfl, Nat.le_of_ble_eq_true rfl⟩) (hnc := ⟨Nat.zero_le _, Nat.zero_le _⟩) (fun y_3 h_3 => ?_)
  obtain rfl := h_3.symm
  refine rm_aload_n hc dX8_again_21 rfl rfl ?_
  refine rm_get hc dX8_again_22 fl_X8_19 dm_9 rfl rfl ?_
  refine rm_aload_n hc dX8_again_25 rfl rfl ?_
  refine rm_get hc dX8_again_26 fl_X8_10 dm_9 rfl rfl ?_
  refine rm_callvV (As := [.ref (ad 0 0 0)]) (rest := []) hc dX8_again_29 (c_X3_keep hI x (nq := nq) hn6 hnq hF) mv_X8_45 dm_10 rfl rfl (hn := rfl) (hst := rfl) (hw := Nat.le_of_ble_eq_true rfl) (hR := ⟨⟨rfl, rfl⟩, Nat.le_of_ble_eq_true rfl, Nat.le_of_ble_eq_true rfl⟩) (hnc := ⟨Nat.zero_le _, Nat.zero_le _⟩) (fun y_4 h_4 => ?_)
  refine rm_aload_n hc dX8_again_32 rfl rfl ?_
  refine rm_get hc dX8_again_33 fl_X8_10 dm_9 rfl rfl ?_
  refine rm_iload_n hc dX8_again_36 rfl rfl ?_
  refine rm_iload_n hc dX8_again_37 rfl rfl ?_
  refine rm_calliV (As := [.int (nI (ii)), .int msk]) (rest := []) hc dX8_again_38 (c_X6_sendAgain hI y_4 (ii := ii) (nr := nr) (by omega) (by omega) (by rw [h_4]; exact kpM_0.trans hnr) msk mm (by omega) (by rw [h_4]; exact kpM_0.trans hw)) mv_X8_86 (dm_0 (by omega)) rfl rfl (hn := rfl) (hst := rfl) (hw := Nat.le_of_ble_eq_true rfl) (hR := ⟨⟨rfl, rfl⟩, Nat.le_of_ble_eq_true rfl, Nat.le_of_ble_eq_true rfl⟩) (hnc := ⟨Nat.zero_le _, Nat.zero_le _⟩) (fun r_5 y_5 h_5 => ?_)
  obtain ⟨e_5, ey_5⟩ := h_5
  exact rm_iret hc dX8_again_41 ⟨by subst_vars; rfl, by subst_vars; rfl⟩

abbrev rm_X8_learn : Room := { frames := 7, cells := 0, slots := 0, locals := 111 }
set_option maxHeartbeats 4000000 in
set_option maxRecDepth 100000 in
theorem c_X8_learn {l : Launch} {D : va_G} {cy : Nat → ClassId} {ad : Ads} (hI : IJ ad) (x : Mem) {d s0 j : Nat} (hd3 : d < 3) (hs : s0 < 4) (hj : j < 4) {nq : Nat} (hn6 : nq < 6) (hnq : NXT x nq 0) (hF : FLG x 0) : Cti l yX8_learn cX8_learn 5 (some .int) rm_X8_learn D cy ad [.ref (ad 8 9 0), .int (nI (d)), .int (nI (s0)), .int (nI (j))] x (fun r y => r = lrnD (lrnS (kpM x nq) 0 d s0 0 j) 0 d ∧ y = lrnS (kpM x nq) 0 d s0 0 j) := by
  refine rm_entry (Qc := Qi D cy ad (fun r y => r = lrnD (lrnS (kpM x nq) 0 d s0 0 j) 0 d ∧ y = lrnS (kpM x nq) 0 d s0 0 j)) hI (by decide) (Nat.le_of_ble_eq_true rfl) ?_
  intro p e s m args below meth c hc
  show RM _ _ _ _ _ _ _ _ _ _ _ _ _ _ _ _ _ [(0, .ref (ad 8 9 0)), (1, .int (nI (d))), (2, .int (nI (s0))), (3, .int (nI (j)))] []
  refine rm_iload_n hc dX8_learn_0 rfl rfl ?_
  refine rm_iconst (v := 3) hc dX8_learn_1 (by decide) ?_
  refine rm_callvS (As := [.int (nI (d)), .int 3]) (rest := []) hc dX8_learn_2 (c_X8_needIndex hI x (nI (d)) 3 (nI_pos (n := d) (by omega)) (nI_lt (a := d) (b := 3) (by omega) (by omega))) ms_X8_37 (hn := rfl) (hst := rfl) (hw := Nat.le_of_ble_eq_true rfl) (hR := ⟨⟨rfl, rfl⟩, Nat.le_of_ble_eq_true rfl, Nat.le_of_ble_eq_true rfl⟩) (hnc := ⟨Nat.zero_le _, Nat.zero_le _⟩) (fun y_1 h_1 => ?_)
  obtain rfl := h_1.symm
  refine rm_iload_n hc dX8_learn_5 rfl rfl ?_
  refine rm_iconst (v := 4) hc dX8_learn_6 (by decide) ?_
  refine rm_callvS (As := [.int (nI (s0)), .int 4]) (rest := []) hc dX8_learn_7 (c_X8_needIndex hI x (nI (s0)) 4 (nI_pos (n := s0) (by omega)) (nI_lt (a := s0) (b := 4) (by omega) (by omega))) ms_X8_37 (hn := rfl) (hst := rfl) (hw := Nat.le_of_ble_eq_true rfl) (hR := ⟨⟨rfl, rfl⟩, Nat.le_of_ble_eq_true rfl, Nat.le_of_ble_eq_true rfl⟩) (hnc := ⟨Nat.zero_le _, Nat.zero_le _⟩) (fun y_2 h_2 => ?_)
  obtain rfl := h_2.symm
  refine rm_iload_n hc dX8_learn_10 rfl rfl ?_
  refine rm_iconst (v := 4) hc dX8_learn_11 (by decide) ?_
  refine rm_callvS (As := [.int (nI (j)), .int 4]) (rest := []) hc dX8_learn_12 (c_X8_needIndex hI x (nI (j)) 4 (nI_pos (n := j) (by omega)) (nI_lt (a := j) (b := 4) (by omega) (by omega))) ms_X8_37 (hn := rfl) (hst := rfl) (hw := Nat.le_of_ble_eq_true rfl) (hR := ⟨⟨rfl, rfl⟩, Nat.le_of_ble_eq_true rfl, Nat.le_of_ble_eq_true rfl⟩) (hnc := ⟨Nat.zero_le _, Nat.zero_le _⟩) (fun y_3 h_3 => ?_)
  obtain rfl := h_3.symm
  refine rm_aload_n hc dX8_learn_15 rfl rfl ?_
  refine rm_get hc dX8_learn_16 fl_X8_19 dm_9 rfl rfl ?_
  refine rm_aload_n hc dX8_learn_19 rfl rfl ?_
  refine rm_get hc dX8_learn_20 fl_X8_10 dm_9 rfl rfl ?_
  refine rm_callvV (As := [.ref (ad 0 0 0)]) (rest := []) hc dX8_learn_23 (c_X3_keep hI x (nq := nq) hn6 hnq hF) mv_X8_45 dm_10 rfl rfl (hn := rfl) (hst := rfl) (hw := Nat.le_of_ble_eq_true rfl) (hR := ⟨⟨rfl, rfl⟩, Nat.le_of_ble_eq_true rfl, Nat.le_of_ble_eq_true rfl⟩) (hnc := ⟨Nat.zero_le _, Nat.zero_le _⟩) (fun y_4 h_4 => ?_)
  refine rm_aload_n hc dX8_learn_26 rfl rfl ?_
  refine rm_get hc dX8_learn_27 fl_X8_10 dm_9 rfl rfl ?_
  refine rm_get hc dX8_learn_30 fl_X8_89 (dm_0 (by omega)) rfl rfl ?_
  refine rm_iload_n hc dX8_learn_33 rfl rfl ?_
  refine rm_aald (t0 := 2) (i := d) (v := .ref (ad 0 4 d)) hc dX8_learn_34 (dm_3 (by omega)) rfl rfl (by omega) (by decide) rfl rfl ?_
  refine rm_astore (ls' := [(0, .ref (ad 8 9 0)), (1, .int (nI (d))), (2, .int (nI (s0))), (3, .int (nI (j))), (4, .ref (ad 0 4 d))]) hc dX8_learn_35 (by decide) rfl ?_
  refine rm_aload hc dX8_learn_37 rfl ?_
  refine rm_get hc dX8_learn_39 fl_X8_93 (dm_4 (by omega) (by omega) (by omega)) rfl rfl ?_
  refine rm_iload_n hc dX8_learn_42 rfl rfl ?_
  refine rm_aald (t0 := 3) (i := s0) (v := .ref (ad 0 (d + 20) s0)) hc dX8_learn_43 (dm_5 (by omega) (by omega) (by omega)) rfl rfl (by omega) (by decide) rfl rfl ?_
  refine rm_aload_n hc dX8_learn_44 rfl rfl ?_
  refine rm_get hc dX8_learn_45 fl_X8_10 dm_9 rfl rfl ?_
  refine rm_get hc dX8_learn_48 fl_X8_49 (dm_0 (by omega)) rfl rfl ?_
  refine rm_iload_n hc dX8_learn_51 rfl rfl ?_
  refine rm_aald (t0 := 1) (i := j) (v := .ref (ad 0 2 j)) hc dX8_learn_52 (dm_1 (by omega)) rfl rfl (by omega) (by decide) rfl rfl ?_
  refine rm_callvV (As := [.ref (ad 0 2 j)]) (rest := []) hc dX8_learn_53 (c_X5_learnFrom hI y_4 (k := 0) (d := d) (s0 := s0) (by omega) (by omega) (by omega) (by omega) (kf := 0) (j := j) (by omega) (by omega) rfl) mv_X8_97 (dm_s (d := d) (by omega) (by omega) (by omega) (by omega)) rfl rfl (hn := rfl) (hst := rfl) (hw := Nat.le_of_ble_eq_true rfl) (hR := ⟨⟨rfl, rfl⟩, Nat.le_of_ble_eq_true rfl, Nat.le_of_ble_eq_true rfl⟩) (hnc := ⟨Nat.zero_le _, Nat.zero_le _⟩) (fun y_5 h_5 => ?_)
  refine rm_aload hc dX8_learn_56 rfl ?_
  refine rm_calliV (As := []) (rest := []) hc dX8_learn_58 (c_X1_learntSlots hI y_5 (k := 0) (d := d) (by omega) (by omega) (by omega)) mv_X8_103 (dm_4 (by omega) (by omega) (by omega)) rfl rfl (hn := rfl) (hst := rfl) (hw := Nat.le_of_ble_eq_true rfl) (hR := ⟨⟨rfl, rfl⟩, Nat.le_of_ble_eq_true rfl, Nat.le_of_ble_eq_true rfl⟩) (hnc := ⟨Nat.zero_le _, Nat.zero_le _⟩) (fun r_6 y_6 h_6 => ?_)
  obtain ⟨e_6, ey_6⟩ := h_6
  obtain rfl := ey_6.symm
  exact rm_iret hc dX8_learn_61 ⟨by subst_vars; first | rfl | exact kpM_0, by subst_vars; rfl⟩

abbrev rm_X8_forget : Room := { frames := 7, cells := 0, slots := 0, locals := 111 }
set_option maxHeartbeats 4000000 in
set_option maxRecDepth 100000 in
theorem c_X8_forget {l : Launch} {D : va_G} {cy : Nat → ClassId} {ad : Ads} (hI : IJ ad) (x : Mem) {d s0 : Nat} (hd3 : d < 3) (hs : s0 < 4) {nq : Nat} (hn6 : nq < 6) (hnq : NXT x nq 0) (hF : FLG x 0) : Cti l yX8_forget cX8_forget 5 (some .int) rm_X8_forget D cy ad [.ref (ad 8 9 0), .int (nI (d)), .int (nI (s0))] x (fun r y => r = b2 (x 0 (36 + 22 * d + 4 * s0)) ∧ y = empS (kpM x nq) 0 d s0) := by
  refine rm_entry (Qc := Qi D cy ad (fun r y => r = b2 (x 0 (36 + 22 * d + 4 * s0)) ∧ y = empS (kpM x nq) 0 d s0)) hI (by decide) (Nat.le_of_ble_eq_true rfl) ?_
  intro p e s m args below meth c hc
  show RM _ _ _ _ _ _ _ _ _ _ _ _ _ _ _ _ _ [(0, .ref (ad 8 9 0)), (1, .int (nI (d))), (2, .int (nI (s0)))] []
  refine rm_iload_n hc dX8_forget_0 rfl rfl ?_
  refine rm_iconst (v := 3) hc dX8_forget_1 (by decide) ?_
  refine rm_callvS (As := [.int (nI (d)), .int 3]) (rest := []) hc dX8_forget_2 (c_X8_needIndex hI x (nI (d)) 3 (nI_pos (n := d) (by omega)) (nI_lt (a := d) (b := 3) (by omega) (by omega))) ms_X8_37 (hn := rfl) (hst := rfl) (hw := Nat.le_of_ble_eq_true rfl) (hR := ⟨⟨rfl, rfl⟩, Nat.le_of_ble_eq_true rfl, Nat.le_of_ble_eq_true rfl⟩) (hnc := ⟨Nat.zero_le _, Nat.zero_le _⟩) (fun y_1 h_1 => ?_)
  obtain rfl := h_1.symm
  refine rm_iload_n hc dX8_forget_5 rfl rfl ?_
  refine rm_iconst (v := 4) hc dX8_forget_6 (by decide) ?_
  refine rm_callvS (As := [.int (nI (s0)), .int 4]) (rest := []) hc dX8_forget_7 (c_X8_needIndex hI x (nI (s0)) 4 (nI_pos (n := s0) (by omega)) (nI_lt (a := s0) (b := 4) (by omega) (by omega))) ms_X8_37 (hn := rfl) (hst := rfl) (hw := Nat.le_of_ble_eq_true rfl) (hR := ⟨⟨rfl, rfl⟩, Nat.le_of_ble_eq_true rfl, Nat.le_of_ble_eq_true rfl⟩) (hnc := ⟨Nat.zero_le _, Nat.zero_le _⟩) (fun y_2 h_2 => ?_)
  obtain rfl := h_2.symm
  refine rm_aload_n hc dX8_forget_10 rfl rfl ?_
  refine rm_get hc dX8_forget_11 fl_X8_19 dm_9 rfl rfl ?_
  refine rm_aload_n hc dX8_forget_14 rfl rfl ?_
  refine rm_get hc dX8_forget_15 fl_X8_10 dm_9 rfl rfl ?_
  refine rm_callvV (As := [.ref (ad 0 0 0)]) (rest := []) hc dX8_forget_18 (c_X3_keep hI x (nq := nq) hn6 hnq hF) mv_X8_45 dm_10 rfl rfl (hn := rfl) (hst := rfl) (hw := Nat.le_of_ble_eq_true rfl) (hR := ⟨⟨rfl, rfl⟩, Nat.le_of_ble_eq_true rfl, Nat.le_of_ble_eq_true rfl⟩) (hnc := ⟨Nat.zero_le _, Nat.zero_le _⟩) (fun y_3 h_3 => ?_)
  refine rm_aload_n hc dX8_forget_21 rfl rfl ?_
  refine rm_get hc dX8_forget_22 fl_X8_10 dm_9 rfl rfl ?_
  refine rm_get hc dX8_forget_25 fl_X8_89 (dm_0 (by omega)) rfl rfl ?_
  refine rm_iload_n hc dX8_forget_28 rfl rfl ?_
  refine rm_aald (t0 := 2) (i := d) (v := .ref (ad 0 4 d)) hc dX8_forget_29 (dm_3 (by omega)) rfl rfl (by omega) (by decide) rfl rfl ?_
  refine rm_get hc dX8_forget_30 fl_X8_93 (dm_4 (by omega) (by omega) (by omega)) rfl rfl ?_
  refine rm_iload_n hc dX8_forget_33 rfl rfl ?_
  refine rm_aald (t0 := 3) (i := s0) (v := .ref (ad 0 (d + 20) s0)) hc dX8_forget_34 (dm_5 (by omega) (by omega) (by omega)) rfl rfl (by omega) (by decide) rfl rfl ?_
  refine rm_astore_n (ls' := [(0, .ref (ad 8 9 0)), (1, .int (nI (d))), (2, .int (nI (s0))), (3, .ref (ad 0 (d + 20) s0))]) hc dX8_forget_35 rfl (by decide) rfl ?_
  refine rm_aload_n hc dX8_forget_36 rfl rfl ?_
  refine rm_geti hc dX8_forget_37 fl_X8_107 (dm_s (d := d) (by omega) (by omega) (by omega) (by omega)) rfl rfl (fun v_4 e_4 => ?_)
  have hv_4 : v_4 = x 0 (36 + 22 * d + 4 * s0) := by rw [e_4, h_3]; exact kpM_0
  refine rm_if_eq (tgt := 47) hc dX8_forget_40 (by decide) (fun c_5 => ?_) (fun c_5 => ?_)
  · --
    refine rm_iconst (v := 0) hc dX8_forget_47 (by decide) ?_
    refine rm_istore (ls' := [(0, .ref (ad 8 9 0)), (1, .int (nI (d))), (2, .int (nI (s0))), (3, .ref (ad 0 (d + 20) s0)), (4, .int 0)]) hc dX8_forget_48 (by decide) rfl ?_
    refine rm_aload_n hc dX8_forget_50 rfl rfl ?_
    refine rm_callvV (As := []) (rest := []) hc dX8_forget_51 (c_X5_empty hI y_3 (k := 0) (d := d) (s0 := s0) (by omega) (by omega) (by omega) (by omega)) mv_X8_111 (dm_s (d := d) (by omega) (by omega) (by omega) (by omega)) rfl rfl (hn := rfl) (hst := rfl) (hw := Nat.le_of_ble_eq_true rfl) (hR := ⟨⟨rfl, rfl⟩, Nat.le_of_ble_eq_true rfl, Nat.le_of_ble_eq_true rfl⟩) (hnc := ⟨Nat.zero_le _, Nat.zero_le _⟩) (fun y_6 h_6 => ?_)
    refine rm_iload hc dX8_forget_54 rfl ?_
    exact rm_iret hc dX8_forget_56 ⟨(b2_0 ((hv_4).symm.trans c_5)).symm, by subst_vars; rfl⟩
  · --
    refine rm_iconst (v := 1) hc dX8_forget_43 (by decide) ?_
    refine rm_goto (tgt := 48) hc dX8_forget_44 (by decide) ?_
    refine rm_istore (ls' := [(0, .ref (ad 8 9 0)), (1, .int (nI (d))), (2, .int (nI (s0))), (3, .ref (ad 0 (d + 20) s0)), (4, .int 1)]) hc dX8_forget_48 (by decide) rfl ?_
    refine rm_aload_n hc dX8_forget_50 rfl rfl ?_
    refine rm_callvV (As := []) (rest := []) hc dX8_forget_51 (c_X5_empty hI y_3 (k := 0) (d := d) (s0 := s0) (by omega) (by omega) (by omega) (by omega)) mv_X8_111 (dm_s (d := d) (by omega) (by omega) (by omega) (by omega)) rfl rfl (hn := rfl) (hst := rfl) (hw := Nat.le_of_ble_eq_true rfl) (hR := ⟨⟨rfl, rfl⟩, Nat.le_of_ble_eq_true rfl, Nat.le_of_ble_eq_true rfl⟩) (hnc := ⟨Nat.zero_le _, Nat.zero_le _⟩) (fun y_7 h_7 => ?_)
    refine rm_iload hc dX8_forget_54 rfl ?_
    exact rm_iret hc dX8_forget_56 ⟨(b2_1 (fun h9 => c_5 ((hv_4).trans h9))).symm, by subst_vars; rfl⟩

abbrev rm_X8_shut : Room := { frames := 7, cells := 0, slots := 0, locals := 111 }
set_option maxHeartbeats 4000000 in
set_option maxRecDepth 100000 in
theorem c_X8_shut {l : Launch} {D : va_G} {cy : Nat → ClassId} {ad : Ads} (hI : IJ ad) (x : Mem) {d : Nat} (hd3 : d < 3) {nq : Nat} (hn6 : nq < 6) (hnq : NXT x nq 0) (hF : FLG x 0) : Cti l yX8_shut cX8_shut 4 (some .int) rm_X8_shut D cy ad [.ref (ad 8 9 0), .int (nI (d))] x (fun r y => r = b2 (x 0 (30 + 22 * d)) ∧ y = up (kpM x nq) 0 (30 + 22 * d) 0) := by
  refine rm_entry (Qc := Qi D cy ad (fun r y => r = b2 (x 0 (30 + 22 * d)) ∧ y = up (kpM x nq) 0 (30 + 22 * d) 0)) hI (by decide) (Nat.le_of_ble_eq_true rfl) ?_
  intro p e s m args below meth c hc
  show RM _ _ _ _ _ _ _ _ _ _ _ _ _ _ _ _ _ [(0, .ref (ad 8 9 0)), (1, .int (nI (d)))] []
  refine rm_iload_n hc dX8_shut_0 rfl rfl ?_
  refine rm_iconst (v := 3) hc dX8_shut_1 (by decide) ?_
  refine rm_callvS (As := [.int (nI (d)), .int 3]) (rest := []) hc dX8_shut_2 (c_X8_needIndex hI x (nI (d)) 3 (nI_pos (n := d) (by omega)) (nI_lt (a := d) (b := 3) (by omega) (by omega))) ms_X8_37 (hn := rfl) (hst := rfl) (hw := Nat.le_of_ble_eq_true rfl) (hR := ⟨⟨rfl, rfl⟩, Nat.le_of_ble_eq_true rfl, Nat.le_of_ble_eq_true rfl⟩) (hnc := ⟨Nat.zero_le _, Nat.zero_le _⟩) (fun y_1 h_1 => ?_)
  obtain rfl := h_1.symm
  refine rm_aload_n hc dX8_shut_5 rfl rfl ?_
  refine rm_get hc dX8_shut_6 fl_X8_19 dm_9 rfl rfl ?_
  refine rm_aload_n hc dX8_shut_9 rfl rfl ?_
  refine rm_get hc dX8_shut_10 fl_X8_10 dm_9 rfl rfl ?_
  refine rm_callvV (As := [.ref (ad 0 0 0)]) (rest := []) hc dX8_shut_13 (c_X3_keep hI x (nq := nq) hn6 hnq hF) mv_X8_45 dm_10 rfl rfl (hn := rfl) (hst := rfl) (hw := Nat.le_of_ble_eq_true rfl) (hR := ⟨⟨rfl, rfl⟩, Nat.le_of_ble_eq_true rfl, Nat.le_of_ble_eq_true rfl⟩) (hnc := ⟨Nat.zero_le _, Nat.zero_le _⟩) (fun y_2 h_2 => ?_)
  refine rm_aload_n hc dX8_shut_16 rfl rfl ?_
  refine rm_get hc dX8_shut_17 fl_X8_10 dm_9 rfl rfl ?_
  refine rm_get hc dX8_shut_20 fl_X8_89 (dm_0 (by omega)) rfl rfl ?_
  refine rm_iload_n hc dX8_shut_23 rfl rfl ?_
  refine rm_aald (t0 := 2) (i := d) (v := .ref (ad 0 4 d)) hc dX8_shut_24 (dm_3 (by omega)) rfl rfl (by omega) (by decide) rfl rfl ?_
  refine rm_astore_n (ls' := [(0, .ref (ad 8 9 0)), (1, .int (nI (d))), (2, .ref (ad 0 4 d))]) hc dX8_shut_25 rfl (by decide) rfl ?_
  refine rm_aload_n hc dX8_shut_26 rfl rfl ?_
  refine rm_geti hc dX8_shut_27 fl_X8_114 (dm_4 (by omega) (by omega) (by omega)) rfl rfl (fun v_3 e_3 => ?_)
  have hv_3 : v_3 = x 0 (30 + 22 * d) := by rw [e_3, h_2]; exact kpM_0
  refine rm_if_eq (tgt := 37) hc dX8_shut_30 (by decide) (fun c_4 => ?_) (fun c_4 => ?_)
  · --
    refine rm_iconst (v := 0) hc dX8_shut_37 (by decide) ?_
    refine rm_istore_n (ls' := [(0, .ref (ad 8 9 0)), (1, .int (nI (d))), (2, .ref (ad 0 4 d)), (3, .int 0)]) hc dX8_shut_38 rfl (by decide) rfl ?_
    refine rm_aload_n hc dX8_shut_39 rfl rfl ?_
    refine rm_iconst (v := 0) hc dX8_shut_40 (by decide) ?_
    refine rm_put hc dX8_shut_41 fl_X8_114 (dm_4 (by omega) (by omega) (by omega)) rfl (Nat.le_of_ble_eq_true rfl) ft_1_1 rfl rfl (so_4_1 (by omega) (by omega)) (rm_nm (fun x_5 ex_5 => ?_))
    refine rm_iload_n hc dX8_shut_44 rfl rfl ?_
    exact rm_iret hc dX8_shut_45 ⟨(b2_0 ((hv_3).symm.trans c_4)).symm, by subst_vars; rfl⟩
  · --
    refine rm_iconst (v := 1) hc dX8_shut_33 (by decide) ?_
    refine rm_goto (tgt := 38) hc dX8_shut_34 (by decide) ?_
    refine rm_istore_n (ls' := [(0, .ref (ad 8 9 0)), (1, .int (nI (d))), (2, .ref (ad 0 4 d)), (3, .int 1)]) hc dX8_shut_38 rfl (by decide) rfl ?_
    refine rm_aload_n hc dX8_shut_39 rfl rfl ?_
    refine rm_iconst (v := 0) hc dX8_shut_40 (by decide) ?_
    refine rm_put hc dX8_shut_41 fl_X8_114 (dm_4 (by omega) (by omega) (by omega)) rfl (Nat.le_of_ble_eq_true rfl) ft_1_1 rfl rfl (so_4_1 (by omega) (by omega)) (rm_nm (fun x_6 ex_6 => ?_))
    refine rm_iload_n hc dX8_shut_44 rfl rfl ?_
    exact rm_iret hc dX8_shut_45 ⟨(b2_1 (fun h9 => c_4 ((hv_3).trans h9))).symm, by subst_vars; rfl⟩

abbrev rm_X8_unlock : Room := { frames := 7, cells := 0, slots := 0, locals := 111 }
set_option maxHeartbeats 4000000 in
set_option maxRecDepth 100000 in
theorem c_X8_unlock {l : Launch} {D : va_G} {cy : Nat → ClassId} {ad : Ads} (hI : IJ ad) (x : Mem) {d : Nat} (hd3 : d < 3) {nq : Nat} (hn6 : nq < 6) (hnq : NXT x nq 0) (hF : FLG x 0) : Cti l yX8_unlock cX8_unlock 4 (some .int) rm_X8_unlock D cy ad [.ref (ad 8 9 0), .int (nI (d))] x (fun r y => r = x 0 (31 + 22 * d) ∧ y = up (kpM x nq) 0 (31 + 22 * d) 0) := by
  refine rm_entry (Qc := Qi D cy ad (fun r y => r = x 0 (31 + 22 * d) ∧ y = up (kpM x nq) 0 (31 + 22 * d) 0)) hI (by decide) (Nat.le_of_ble_eq_true rfl) ?_
  intro p e s m args below meth c hc
  show RM _ _ _ _ _ _ _ _ _ _ _ _ _ _ _ _ _ [(0, .ref (ad 8 9 0)), (1, .int (nI (d)))] []
  refine rm_iload_n hc dX8_unlock_0 rfl rfl ?_
  refine rm_iconst (v := 3) hc dX8_unlock_1 (by decide) ?_
  refine rm_callvS (As := [.int (nI (d)), .int 3]) (rest := []) hc dX8_unlock_2 (c_X8_needIndex hI x (nI (d)) 3 (nI_pos (n := d) (by omega)) (nI_lt (a := d) (b := 3) (by omega) (by omega))) ms_X8_37 (hn := rfl) (hst := rfl) (hw := Nat.le_of_ble_eq_true rfl) (hR := ⟨⟨rfl, rfl⟩, Nat.le_of_ble_eq_true rfl, Nat.le_of_ble_eq_true rfl⟩) (hnc := ⟨Nat.zero_le _, Nat.zero_le _⟩) (fun y_1 h_1 => ?_)
  obtain rfl := h_1.symm
  refine rm_aload_n hc dX8_unlock_5 rfl rfl ?_
  refine rm_get hc dX8_unlock_6 fl_X8_19 dm_9 rfl rfl ?_
  refine rm_aload_n hc dX8_unlock_9 rfl rfl ?_
  refine rm_get hc dX8_unlock_10 fl_X8_10 dm_9 rfl rfl ?_
  refine rm_callvV (As := [.ref (ad 0 0 0)]) (rest := []) hc dX8_unlock_13 (c_X3_keep hI x (nq := nq) hn6 hnq hF) mv_X8_45 dm_10 rfl rfl (hn := rfl) (hst := rfl) (hw := Nat.le_of_ble_eq_true rfl) (hR := ⟨⟨rfl, rfl⟩, Nat.le_of_ble_eq_true rfl, Nat.le_of_ble_eq_true rfl⟩) (hnc := ⟨Nat.zero_le _, Nat.zero_le _⟩) (fun y_2 h_2 => ?_)
  refine rm_aload_n hc dX8_unlock_16 rfl rfl ?_
  refine rm_get hc dX8_unlock_17 fl_X8_10 dm_9 rfl rfl ?_
  refine rm_get hc dX8_unlock_20 fl_X8_89 (dm_0 (by omega)) rfl rfl ?_
  refine rm_iload_n hc dX8_unlock_23 rfl rfl ?_
  refine rm_aald (t0 := 2) (i := d) (v := .ref (ad 0 4 d)) hc dX8_unlock_24 (dm_3 (by omega)) rfl rfl (by omega) (by decide) rfl rfl ?_
  refine rm_astore_n (ls' := [(0, .ref (ad 8 9 0)), (1, .int (nI (d))), (2, .ref (ad 0 4 d))]) hc dX8_unlock_25 rfl (by decide) rfl ?_
  refine rm_aload_n hc dX8_unlock_26 rfl rfl ?_
  refine rm_geti hc dX8_unlock_27 fl_X8_117 (dm_4 (by omega) (by omega) (by omega)) rfl rfl (fun v_3 e_3 => ?_)
  refine rm_istore_n (ls' := [(0, .ref (ad 8 9 0)), (1, .int (nI (d))), (2, .ref (ad 0 4 d)), (3, .int v_3)]) hc dX8_unlock_30 rfl (by decide) rfl ?_
  refine rm_aload_n hc dX8_unlock_31 rfl rfl ?_
  refine rm_iconst (v := 0) hc dX8_unlock_32 (by decide) ?_
  refine rm_put hc dX8_unlock_33 fl_X8_117 (dm_4 (by omega) (by omega) (by omega)) rfl (Nat.le_of_ble_eq_true rfl) ft_1_2 rfl rfl (so_4_2 (by omega) (by omega)) (rm_nm (fun x_4 ex_4 => ?_))
  refine rm_iload_n hc dX8_unlock_36 rfl rfl ?_
  exact rm_iret hc dX8_unlock_37 ⟨by subst_vars; first | rfl | exact kpM_0, by subst_vars; rfl⟩

theorem valS_kp {x : Mem} {nq : Nat} {w : Int32} : valS (kpM x nq) 0 w = valS x 0 w := by
  unfold valS
  rw [kpM_0, kpM_0, kpM_0]

abbrev rm_X8_set : Room := { frames := 8, cells := 0, slots := 0, locals := 132 }
set_option maxHeartbeats 4000000 in
set_option maxRecDepth 100000 in
theorem c_X8_set {l : Launch} {D : va_G} {cy : Nat → ClassId} {ad : Ads} (hI : IJ ad) (x : Mem) (wv vv lov hiv : Int32) (love : lov = if wv = 2 then 0 else 1) (hive : hiv = if wv = 0 then 64 else if wv = 1 then 500 else 20) (hw1 : ¬ wv < 0) (hw2 : wv < 3) (hv1 : ¬ vv < lov) (hv2 : ¬ hiv < vv) {nq : Nat} (hn6 : nq < 6) (hnq : NXT x nq 0) (hF : FLG x 0) : Cti l yX8_set cX8_set 4 (some .int) rm_X8_set D cy ad [.ref (ad 8 9 0), .int wv, .int vv] x (fun r y => r = valS x 0 wv ∧ y = chgS (kpM x nq) 0 wv vv) := by
  refine rm_entry (Qc := Qi D cy ad (fun r y => r = valS x 0 wv ∧ y = chgS (kpM x nq) 0 wv vv)) hI (by decide) (Nat.le_of_ble_eq_true rfl) ?_
  intro p e s m args below meth c hc
  show RM _ _ _ _ _ _ _ _ _ _ _ _ _ _ _ _ _ [(0, .ref (ad 8 9 0)), (1, .int wv), (2, .int vv)] []
  refine rm_iload_n hc dX8_set_0 rfl rfl ?_
  refine rm_iconst (v := 3) hc dX8_set_1 (by decide) ?_
  refine rm_callvS (As := [.int wv, .int 3]) (rest := []) hc dX8_set_2 (c_X8_needIndex hI x wv 3 hw1 hw2) ms_X8_37 (hn := rfl) (hst := rfl) (hw := Nat.le_of_ble_eq_true rfl) (hR := ⟨⟨rfl, rfl⟩, Nat.le_of_ble_eq_true rfl, Nat.le_of_ble_eq_true rfl⟩) (hnc := ⟨Nat.zero_le _, Nat.zero_le _⟩) (fun y_1 h_1 => ?_)
  obtain rfl := h_1.symm
  refine rm_iload_n hc dX8_set_5 rfl rfl ?_
  refine rm_iload_n hc dX8_set_6 rfl rfl ?_
  refine rm_calliS (As := [.int wv]) (rest := [.int vv]) hc dX8_set_7 (c_X4_least hI x wv) ms_X8_120 (hn := rfl) (hst := rfl) (hw := Nat.le_of_ble_eq_true rfl) (hR := ⟨⟨rfl, rfl⟩, Nat.le_of_ble_eq_true rfl, Nat.le_of_ble_eq_true rfl⟩) (hnc := ⟨Nat.zero_le _, Nat.zero_le _⟩) (fun r_2 y_2 h_2 => ?_)
  obtain ⟨e_2, ey_2⟩ := h_2
  obtain rfl := ey_2.symm
  obtain rfl : lov = r_2 := love.trans e_2.symm
  refine rm_iload_n hc dX8_set_10 rfl rfl ?_
  refine rm_calliS (As := [.int wv]) (rest := [.int lov, .int vv]) hc dX8_set_11 (c_X4_most hI x wv) ms_X8_126 (hn := rfl) (hst := rfl) (hw := Nat.le_of_ble_eq_true rfl) (hR := ⟨⟨rfl, rfl⟩, Nat.le_of_ble_eq_true rfl, Nat.le_of_ble_eq_true rfl⟩) (hnc := ⟨Nat.zero_le _, Nat.zero_le _⟩) (fun r_3 y_3 h_3 => ?_)
  obtain ⟨e_3, ey_3⟩ := h_3
  obtain rfl := ey_3.symm
  obtain rfl : hiv = r_3 := hive.trans e_3.symm
  refine rm_callvS (As := [.int vv, .int lov, .int hiv]) (rest := []) hc dX8_set_14 (c_X8_needRange hI x vv lov hiv hv1 hv2) ms_X8_41 (hn := rfl) (hst := rfl) (hw := Nat.le_of_ble_eq_true rfl) (hR := ⟨⟨rfl, rfl⟩, Nat.le_of_ble_eq_true rfl, Nat.le_of_ble_eq_true rfl⟩) (hnc := ⟨Nat.zero_le _, Nat.zero_le _⟩) (fun y_4 h_4 => ?_)
  obtain rfl := h_4.symm
  refine rm_aload_n hc dX8_set_17 rfl rfl ?_
  refine rm_get hc dX8_set_18 fl_X8_19 dm_9 rfl rfl ?_
  refine rm_aload_n hc dX8_set_21 rfl rfl ?_
  refine rm_get hc dX8_set_22 fl_X8_10 dm_9 rfl rfl ?_
  refine rm_callvV (As := [.ref (ad 0 0 0)]) (rest := []) hc dX8_set_25 (c_X3_keep hI x (nq := nq) hn6 hnq hF) mv_X8_45 dm_10 rfl rfl (hn := rfl) (hst := rfl) (hw := Nat.le_of_ble_eq_true rfl) (hR := ⟨⟨rfl, rfl⟩, Nat.le_of_ble_eq_true rfl, Nat.le_of_ble_eq_true rfl⟩) (hnc := ⟨Nat.zero_le _, Nat.zero_le _⟩) (fun y_5 h_5 => ?_)
  refine rm_aload_n hc dX8_set_28 rfl rfl ?_
  refine rm_get hc dX8_set_29 fl_X8_10 dm_9 rfl rfl ?_
  refine rm_get hc dX8_set_32 fl_X8_129 (dm_0 (by omega)) rfl rfl ?_
  refine rm_iload_n hc dX8_set_35 rfl rfl ?_
  refine rm_calliV (As := [.int wv]) (rest := []) hc dX8_set_36 (c_X4_value hI y_5 (k := 0) (by omega) wv) mv_X8_133 (dm_8 (by omega)) rfl rfl (hn := rfl) (hst := rfl) (hw := Nat.le_of_ble_eq_true rfl) (hR := ⟨⟨rfl, rfl⟩, Nat.le_of_ble_eq_true rfl, Nat.le_of_ble_eq_true rfl⟩) (hnc := ⟨Nat.zero_le _, Nat.zero_le _⟩) (fun r_6 y_6 h_6 => ?_)
  obtain ⟨e_6, ey_6⟩ := h_6
  obtain rfl := ey_6.symm
  refine rm_istore_n (ls' := [(0, .ref (ad 8 9 0)), (1, .int wv), (2, .int vv), (3, .int r_6)]) hc dX8_set_39 rfl (by decide) rfl ?_
  refine rm_aload_n hc dX8_set_40 rfl rfl ?_
  refine rm_get hc dX8_set_41 fl_X8_10 dm_9 rfl rfl ?_
  refine rm_get hc dX8_set_44 fl_X8_129 (dm_0 (by omega)) rfl rfl ?_
  refine rm_iload_n hc dX8_set_47 rfl rfl ?_
  refine rm_iload_n hc dX8_set_48 rfl rfl ?_
  refine rm_callvV (As := [.int wv, .int vv]) (rest := []) hc dX8_set_49 (c_X4_change hI y_5 (k := 0) (by omega) wv vv) mv_X8_136 (dm_8 (by omega)) rfl rfl (hn := rfl) (hst := rfl) (hw := Nat.le_of_ble_eq_true rfl) (hR := ⟨⟨rfl, rfl⟩, Nat.le_of_ble_eq_true rfl, Nat.le_of_ble_eq_true rfl⟩) (hnc := ⟨Nat.zero_le _, Nat.zero_le _⟩) (fun y_7 h_7 => ?_)
  refine rm_iload_n hc dX8_set_52 rfl rfl ?_
  exact rm_iret hc dX8_set_53 ⟨by rw [e_6, h_5]; exact valS_kp, by subst_vars; rfl⟩




abbrev rm_X8_undo : Room := { frames := 7, cells := 0, slots := 0, locals := 110 }
set_option maxHeartbeats 4000000 in
set_option maxRecDepth 100000 in
theorem c_X8_undo {l : Launch} {D : va_G} {cy : Nat → ClassId} {ad : Ads} (hI : IJ ad) (x : Mem) {nq hl : Nat} (hn6 : nq < 6) (hnq : NXT x nq 1) (hF : ∀ b, b < 7 → FLG x b) (hhl : x 8 1 = nI hl) (hl0 : 0 < hl) (hl6 : hl ≤ 6) : Cti l yX8_undo cX8_undo 1 (some .int) rm_X8_undo D cy ad [.ref (ad 8 9 0)] x (fun r y => r = nI (hl - 1) ∧ y = rsM x nq) := by
  refine rm_entry (Qc := Qi D cy ad (fun r y => r = nI (hl - 1) ∧ y = rsM x nq)) hI (by decide) (Nat.le_of_ble_eq_true rfl) ?_
  intro p e s m args below meth c hc
  show RM _ _ _ _ _ _ _ _ _ _ _ _ _ _ _ _ _ [(0, .ref (ad 8 9 0))] []
  refine rm_aload_n hc dX8_undo_0 rfl rfl ?_
  refine rm_get hc dX8_undo_1 fl_X8_19 dm_9 rfl rfl ?_
  refine rm_geti hc dX8_undo_4 fl_X8_161 dm_10 rfl rfl (fun v_1 e_1 => ?_)
  obtain rfl : v_1 = nI hl := e_1.trans hhl
  refine rm_if_le (tgt := 14) hc dX8_undo_7 (by decide) (fun h => absurd h (fun h2 => absurd ((nI_leI (a := hl) (b := 0) (by omega) (by omega)).mp h2) (by omega))) (fun _ => ?_)
  refine rm_iconst (v := 1) hc dX8_undo_10 (by decide) ?_
  refine rm_goto (tgt := 15) hc dX8_undo_11 (by decide) ?_
  refine rm_callvS (As := [.int 1]) (rest := []) hc dX8_undo_15 (c_X8_needState hI x) ms_X8_69 (hn := rfl) (hst := rfl) (hw := Nat.le_of_ble_eq_true rfl) (hR := ⟨⟨rfl, rfl⟩, Nat.le_of_ble_eq_true rfl, Nat.le_of_ble_eq_true rfl⟩) (hnc := ⟨Nat.zero_le _, Nat.zero_le _⟩) (fun y_3 h_3 => ?_)
  obtain rfl := h_3.symm
  refine rm_aload_n hc dX8_undo_18 rfl rfl ?_
  refine rm_get hc dX8_undo_19 fl_X8_19 dm_9 rfl rfl ?_
  refine rm_aload_n hc dX8_undo_22 rfl rfl ?_
  refine rm_get hc dX8_undo_23 fl_X8_10 dm_9 rfl rfl ?_
  refine rm_callvV (As := [.ref (ad 0 0 0)]) (rest := []) hc dX8_undo_26 (c_X3_restore hI x (nq := nq) (hl := hl) hn6 hnq hhl hl0 hl6 hF) mv_X8_162 dm_10 rfl rfl (hn := rfl) (hst := rfl) (hw := Nat.le_of_ble_eq_true rfl) (hR := ⟨⟨rfl, rfl⟩, Nat.le_of_ble_eq_true rfl, Nat.le_of_ble_eq_true rfl⟩) (hnc := ⟨Nat.zero_le _, Nat.zero_le _⟩) (fun y_4 h_4 => ?_)
  refine rm_aload_n hc dX8_undo_29 rfl rfl ?_
  refine rm_get hc dX8_undo_30 fl_X8_19 dm_9 rfl rfl ?_
  refine rm_geti hc dX8_undo_33 fl_X8_161 dm_10 rfl rfl (fun v_5 e_5 => ?_)
  exact rm_iret hc dX8_undo_36 ⟨by subst_vars; unfold rsM; rw [cpS_b (by omega), up_s, hhl]; exact pk_sub (a := hl) (b := 1) (by omega), by subst_vars; rfl⟩

abbrev rm_X8_fob : Room := { frames := 8, cells := 0, slots := 0, locals := 132 }
set_option maxHeartbeats 4000000 in
set_option maxRecDepth 100000 in
theorem c_X8_fob {l : Launch} {D : va_G} {cy : Nat → ClassId} {ad : Ads} (hI : IJ ad) (x : Mem) {j : Nat} (hj : j < 4) (wv : Int32) (hw1 : ¬ wv < 0) (hw2 : ¬ 4 < wv) : Cti l yX8_fob cX8_fob 3 (some .int) rm_X8_fob D cy ad [.ref (ad 8 9 0), .int (nI (j)), .int wv] x (fun r y => r = lookFob x 0 j wv ∧ y = x) := by
  refine rm_entry (Qc := Qi D cy ad (fun r y => r = lookFob x 0 j wv ∧ y = x)) hI (by decide) (Nat.le_of_ble_eq_true rfl) ?_
  intro p e s m args below meth c hc
  show RM _ _ _ _ _ _ _ _ _ _ _ _ _ _ _ _ _ [(0, .ref (ad 8 9 0)), (1, .int (nI (j))), (2, .int wv)] []
  refine rm_iload_n hc dX8_fob_0 rfl rfl ?_
  refine rm_iconst (v := 4) hc dX8_fob_1 (by decide) ?_
  refine rm_callvS (As := [.int (nI (j)), .int 4]) (rest := []) hc dX8_fob_2 (c_X8_needIndex hI x (nI (j)) 4 (nI_pos (n := j) (by omega)) (nI_lt (a := j) (b := 4) (by omega) (by omega))) ms_X8_37 (hn := rfl) (hst := rfl) (hw := Nat.le_of_ble_eq_true rfl) (hR := ⟨⟨rfl, rfl⟩, Nat.le_of_ble_eq_true rfl, Nat.le_of_ble_eq_true rfl⟩) (hnc := ⟨Nat.zero_le _, Nat.zero_le _⟩) (fun y_1 h_1 => ?_)
  obtain rfl := h_1.symm
  refine rm_iload_n hc dX8_fob_5 rfl rfl ?_
  refine rm_iconst (v := 0) hc dX8_fob_6 (by decide) ?_
  refine rm_iconst (v := 4) hc dX8_fob_7 (by decide) ?_
  refine rm_callvS (As := [.int wv, .int 0, .int 4]) (rest := []) hc dX8_fob_8 (c_X8_needRange hI x wv 0 4 hw1 hw2) ms_X8_41 (hn := rfl) (hst := rfl) (hw := Nat.le_of_ble_eq_true rfl) (hR := ⟨⟨rfl, rfl⟩, Nat.le_of_ble_eq_true rfl, Nat.le_of_ble_eq_true rfl⟩) (hnc := ⟨Nat.zero_le _, Nat.zero_le _⟩) (fun y_2 h_2 => ?_)
  obtain rfl := h_2.symm
  refine rm_aload_n hc dX8_fob_11 rfl rfl ?_
  refine rm_get hc dX8_fob_12 fl_X8_10 dm_9 rfl rfl ?_
  refine rm_get hc dX8_fob_15 fl_X8_49 (dm_0 (by omega)) rfl rfl ?_
  refine rm_iload_n hc dX8_fob_18 rfl rfl ?_
  refine rm_aald (t0 := 1) (i := j) (v := .ref (ad 0 2 j)) hc dX8_fob_19 (dm_1 (by omega)) rfl rfl (by omega) (by decide) rfl rfl ?_
  refine rm_iload_n hc dX8_fob_20 rfl rfl ?_
  refine rm_calliV (As := [.int wv]) (rest := []) hc dX8_fob_21 (c_X2_look hI x (k := 0) (j := j) (by omega) (by omega) wv) mv_X8_165 (dm_2 (by omega) (by omega)) rfl rfl (hn := rfl) (hst := rfl) (hw := Nat.le_of_ble_eq_true rfl) (hR := ⟨⟨rfl, rfl⟩, Nat.le_of_ble_eq_true rfl, Nat.le_of_ble_eq_true rfl⟩) (hnc := ⟨Nat.zero_le _, Nat.zero_le _⟩) (fun r_3 y_3 h_3 => ?_)
  obtain ⟨e_3, ey_3⟩ := h_3
  obtain rfl := ey_3.symm
  exact rm_iret hc dX8_fob_24 ⟨by subst_vars; rfl, rfl⟩

abbrev rm_X8_slot : Room := { frames := 8, cells := 0, slots := 0, locals := 132 }
set_option maxHeartbeats 4000000 in
set_option maxRecDepth 100000 in
theorem c_X8_slot {l : Launch} {D : va_G} {cy : Nat → ClassId} {ad : Ads} (hI : IJ ad) (x : Mem) {d s0 : Nat} (hd3 : d < 3) (hs : s0 < 4) (wv : Int32) (hw1 : ¬ wv < 0) (hw2 : ¬ 3 < wv) : Cti l yX8_slot cX8_slot 4 (some .int) rm_X8_slot D cy ad [.ref (ad 8 9 0), .int (nI (d)), .int (nI (s0)), .int wv] x (fun r y => r = lookSlot x 0 d s0 wv ∧ y = x) := by
  refine rm_entry (Qc := Qi D cy ad (fun r y => r = lookSlot x 0 d s0 wv ∧ y = x)) hI (by decide) (Nat.le_of_ble_eq_true rfl) ?_
  intro p e s m args below meth c hc
  show RM _ _ _ _ _ _ _ _ _ _ _ _ _ _ _ _ _ [(0, .ref (ad 8 9 0)), (1, .int (nI (d))), (2, .int (nI (s0))), (3, .int wv)] []
  refine rm_iload_n hc dX8_slot_0 rfl rfl ?_
  refine rm_iconst (v := 3) hc dX8_slot_1 (by decide) ?_
  refine rm_callvS (As := [.int (nI (d)), .int 3]) (rest := []) hc dX8_slot_2 (c_X8_needIndex hI x (nI (d)) 3 (nI_pos (n := d) (by omega)) (nI_lt (a := d) (b := 3) (by omega) (by omega))) ms_X8_37 (hn := rfl) (hst := rfl) (hw := Nat.le_of_ble_eq_true rfl) (hR := ⟨⟨rfl, rfl⟩, Nat.le_of_ble_eq_true rfl, Nat.le_of_ble_eq_true rfl⟩) (hnc := ⟨Nat.zero_le _, Nat.zero_le _⟩) (fun y_1 h_1 => ?_)
  obtain rfl := h_1.symm
  refine rm_iload_n hc dX8_slot_5 rfl rfl ?_
  refine rm_iconst (v := 4) hc dX8_slot_6 (by decide) ?_
  refine rm_callvS (As := [.int (nI (s0)), .int 4]) (rest := []) hc dX8_slot_7 (c_X8_needIndex hI x (nI (s0)) 4 (nI_pos (n := s0) (by omega)) (nI_lt (a := s0) (b := 4) (by omega) (by omega))) ms_X8_37 (hn := rfl) (hst := rfl) (hw := Nat.le_of_ble_eq_true rfl) (hR := ⟨⟨rfl, rfl⟩, Nat.le_of_ble_eq_true rfl, Nat.le_of_ble_eq_true rfl⟩) (hnc := ⟨Nat.zero_le _, Nat.zero_le _⟩) (fun y_2 h_2 => ?_)
  obtain rfl := h_2.symm
  refine rm_iload_n hc dX8_slot_10 rfl rfl ?_
  refine rm_iconst (v := 0) hc dX8_slot_11 (by decide) ?_
  refine rm_iconst (v := 3) hc dX8_slot_12 (by decide) ?_
  refine rm_callvS (As := [.int wv, .int 0, .int 3]) (rest := []) hc dX8_slot_13 (c_X8_needRange hI x wv 0 3 hw1 hw2) ms_X8_41 (hn := rfl) (hst := rfl) (hw := Nat.le_of_ble_eq_true rfl) (hR := ⟨⟨rfl, rfl⟩, Nat.le_of_ble_eq_true rfl, Nat.le_of_ble_eq_true rfl⟩) (hnc := ⟨Nat.zero_le _, Nat.zero_le _⟩) (fun y_3 h_3 => ?_)
  obtain rfl := h_3.symm
  refine rm_aload_n hc dX8_slot_16 rfl rfl ?_
  refine rm_get hc dX8_slot_17 fl_X8_10 dm_9 rfl rfl ?_
  refine rm_get hc dX8_slot_20 fl_X8_89 (dm_0 (by omega)) rfl rfl ?_
  refine rm_iload_n hc dX8_slot_23 rfl rfl ?_
  refine rm_aald (t0 := 2) (i := d) (v := .ref (ad 0 4 d)) hc dX8_slot_24 (dm_3 (by omega)) rfl rfl (by omega) (by decide) rfl rfl ?_
  refine rm_get hc dX8_slot_25 fl_X8_93 (dm_4 (by omega) (by omega) (by omega)) rfl rfl ?_
  refine rm_iload_n hc dX8_slot_28 rfl rfl ?_
  refine rm_aald (t0 := 3) (i := s0) (v := .ref (ad 0 (d + 20) s0)) hc dX8_slot_29 (dm_5 (by omega) (by omega) (by omega)) rfl rfl (by omega) (by decide) rfl rfl ?_
  refine rm_iload_n hc dX8_slot_30 rfl rfl ?_
  refine rm_calliV (As := [.int wv]) (rest := []) hc dX8_slot_31 (c_X5_look hI x (k := 0) (d := d) (s0 := s0) (by omega) (by omega) (by omega) (by omega) wv) mv_X8_168 (dm_s (d := d) (by omega) (by omega) (by omega) (by omega)) rfl rfl (hn := rfl) (hst := rfl) (hw := Nat.le_of_ble_eq_true rfl) (hR := ⟨⟨rfl, rfl⟩, Nat.le_of_ble_eq_true rfl, Nat.le_of_ble_eq_true rfl⟩) (hnc := ⟨Nat.zero_le _, Nat.zero_le _⟩) (fun r_4 y_4 h_4 => ?_)
  obtain ⟨e_4, ey_4⟩ := h_4
  obtain rfl := ey_4.symm
  exact rm_iret hc dX8_slot_34 ⟨by subst_vars; rfl, rfl⟩

abbrev rm_X8_door : Room := { frames := 8, cells := 0, slots := 0, locals := 132 }
set_option maxHeartbeats 4000000 in
set_option maxRecDepth 100000 in
theorem c_X8_door {l : Launch} {D : va_G} {cy : Nat → ClassId} {ad : Ads} (hI : IJ ad) (x : Mem) {d : Nat} (hd3 : d < 3) (wv : Int32) (hw1 : ¬ wv < 0) (hw2 : ¬ 7 < wv) : Cti l yX8_door cX8_door 3 (some .int) rm_X8_door D cy ad [.ref (ad 8 9 0), .int (nI (d)), .int wv] x (fun r y => r = lookDoor x 0 d (x 0 2) wv ∧ y = x) := by
  refine rm_entry (Qc := Qi D cy ad (fun r y => r = lookDoor x 0 d (x 0 2) wv ∧ y = x)) hI (by decide) (Nat.le_of_ble_eq_true rfl) ?_
  intro p e s m args below meth c hc
  show RM _ _ _ _ _ _ _ _ _ _ _ _ _ _ _ _ _ [(0, .ref (ad 8 9 0)), (1, .int (nI (d))), (2, .int wv)] []
  refine rm_iload_n hc dX8_door_0 rfl rfl ?_
  refine rm_iconst (v := 3) hc dX8_door_1 (by decide) ?_
  refine rm_callvS (As := [.int (nI (d)), .int 3]) (rest := []) hc dX8_door_2 (c_X8_needIndex hI x (nI (d)) 3 (nI_pos (n := d) (by omega)) (nI_lt (a := d) (b := 3) (by omega) (by omega))) ms_X8_37 (hn := rfl) (hst := rfl) (hw := Nat.le_of_ble_eq_true rfl) (hR := ⟨⟨rfl, rfl⟩, Nat.le_of_ble_eq_true rfl, Nat.le_of_ble_eq_true rfl⟩) (hnc := ⟨Nat.zero_le _, Nat.zero_le _⟩) (fun y_1 h_1 => ?_)
  obtain rfl := h_1.symm
  refine rm_iload_n hc dX8_door_5 rfl rfl ?_
  refine rm_iconst (v := 0) hc dX8_door_6 (by decide) ?_
  refine rm_bipush (v := 7) hc dX8_door_7 (by decide) ?_
  refine rm_callvS (As := [.int wv, .int 0, .int 7]) (rest := []) hc dX8_door_9 (c_X8_needRange hI x wv 0 7 hw1 hw2) ms_X8_41 (hn := rfl) (hst := rfl) (hw := Nat.le_of_ble_eq_true rfl) (hR := ⟨⟨rfl, rfl⟩, Nat.le_of_ble_eq_true rfl, Nat.le_of_ble_eq_true rfl⟩) (hnc := ⟨Nat.zero_le _, Nat.zero_le _⟩) (fun y_2 h_2 => ?_)
  obtain rfl := h_2.symm
  refine rm_aload_n hc dX8_door_12 rfl rfl ?_
  refine rm_get hc dX8_door_13 fl_X8_10 dm_9 rfl rfl ?_
  refine rm_get hc dX8_door_16 fl_X8_89 (dm_0 (by omega)) rfl rfl ?_
  refine rm_iload_n hc dX8_door_19 rfl rfl ?_
  refine rm_aald (t0 := 2) (i := d) (v := .ref (ad 0 4 d)) hc dX8_door_20 (dm_3 (by omega)) rfl rfl (by omega) (by decide) rfl rfl ?_
  refine rm_iload_n hc dX8_door_21 rfl rfl ?_
  refine rm_aload_n hc dX8_door_22 rfl rfl ?_
  refine rm_get hc dX8_door_23 fl_X8_10 dm_9 rfl rfl ?_
  refine rm_get hc dX8_door_26 fl_X8_129 (dm_0 (by omega)) rfl rfl ?_
  refine rm_calliV (As := [.int wv, .ref (ad 0 8 0)]) (rest := []) hc dX8_door_29 (c_X1_look hI x (k := 0) (d := d) (k2 := 0) (by omega) (by omega) (by omega) (by omega) wv) mv_X8_169 (dm_4 (by omega) (by omega) (by omega)) rfl rfl (hn := rfl) (hst := rfl) (hw := Nat.le_of_ble_eq_true rfl) (hR := ⟨⟨rfl, rfl⟩, Nat.le_of_ble_eq_true rfl, Nat.le_of_ble_eq_true rfl⟩) (hnc := ⟨Nat.zero_le _, Nat.zero_le _⟩) (fun r_3 y_3 h_3 => ?_)
  obtain ⟨e_3, ey_3⟩ := h_3
  obtain rfl := ey_3.symm
  exact rm_iret hc dX8_door_32 ⟨by subst_vars; rfl, rfl⟩

abbrev rm_X8_air : Room := { frames := 7, cells := 0, slots := 0, locals := 110 }
set_option maxHeartbeats 4000000 in
set_option maxRecDepth 100000 in
theorem c_X8_air {l : Launch} {D : va_G} {cy : Nat → ClassId} {ad : Ads} (hI : IJ ad) (x : Mem) (wv : Int32) (hw1 : ¬ wv < 0) : Cti l yX8_air cX8_air 2 (some .int) rm_X8_air D cy ad [.ref (ad 8 9 0), .int wv] x (fun r y => r = numA x 0 wv ∧ y = x) := by
  refine rm_entry (Qc := Qi D cy ad (fun r y => r = numA x 0 wv ∧ y = x)) hI (by decide) (Nat.le_of_ble_eq_true rfl) ?_
  intro p e s m args below meth c hc
  show RM _ _ _ _ _ _ _ _ _ _ _ _ _ _ _ _ _ [(0, .ref (ad 8 9 0)), (1, .int wv)] []
  refine rm_iload_n hc dX8_air_0 rfl rfl ?_
  refine rm_if_lt (tgt := 8) hc dX8_air_1 (by decide) (fun h => absurd h hw1) (fun _ => ?_)
  refine rm_iconst (v := 1) hc dX8_air_4 (by decide) ?_
  refine rm_goto (tgt := 9) hc dX8_air_5 (by decide) ?_
  refine rm_callvS (As := [.int 1]) (rest := []) hc dX8_air_9 (c_X8_needArgument hI x) ms_X8_151 (hn := rfl) (hst := rfl) (hw := Nat.le_of_ble_eq_true rfl) (hR := ⟨⟨rfl, rfl⟩, Nat.le_of_ble_eq_true rfl, Nat.le_of_ble_eq_true rfl⟩) (hnc := ⟨Nat.zero_le _, Nat.zero_le _⟩) (fun y_2 h_2 => ?_)
  obtain rfl := h_2.symm
  refine rm_aload_n hc dX8_air_12 rfl rfl ?_
  refine rm_get hc dX8_air_13 fl_X8_10 dm_9 rfl rfl ?_
  refine rm_get hc dX8_air_16 fl_X8_77 (dm_0 (by omega)) rfl rfl ?_
  refine rm_iload_n hc dX8_air_19 rfl rfl ?_
  refine rm_calliV (As := [.int wv]) (rest := []) hc dX8_air_20 (c_X0_number hI x (k := 0) (by omega) wv) mv_X8_172 (dm_6 (by omega)) rfl rfl (hn := rfl) (hst := rfl) (hw := Nat.le_of_ble_eq_true rfl) (hR := ⟨⟨rfl, rfl⟩, Nat.le_of_ble_eq_true rfl, Nat.le_of_ble_eq_true rfl⟩) (hnc := ⟨Nat.zero_le _, Nat.zero_le _⟩) (fun r_3 y_3 h_3 => ?_)
  obtain ⟨e_3, ey_3⟩ := h_3
  obtain rfl := ey_3.symm
  exact rm_iret hc dX8_air_23 ⟨by subst_vars; rfl, rfl⟩

abbrev rm_X8_count : Room := { frames := 8, cells := 0, slots := 0, locals := 132 }
set_option maxHeartbeats 4000000 in
set_option maxRecDepth 100000 in
theorem c_X8_count {l : Launch} {D : va_G} {cy : Nat → ClassId} {ad : Ads} (hI : IJ ad) (x : Mem) (wv : Int32) (hw1 : ¬ wv < 0) (hw2 : ¬ 7 < wv) : Cti l yX8_count cX8_count 2 (some .int) rm_X8_count D cy ad [.ref (ad 8 9 0), .int wv] x (fun r y => r = cntS x wv ∧ y = x) := by
  refine rm_entry (Qc := Qi D cy ad (fun r y => r = cntS x wv ∧ y = x)) hI (by decide) (Nat.le_of_ble_eq_true rfl) ?_
  intro p e s m args below meth c hc
  show RM _ _ _ _ _ _ _ _ _ _ _ _ _ _ _ _ _ [(0, .ref (ad 8 9 0)), (1, .int wv)] []
  refine rm_iload_n hc dX8_count_0 rfl rfl ?_
  refine rm_iconst (v := 0) hc dX8_count_1 (by decide) ?_
  refine rm_bipush (v := 7) hc dX8_count_2 (by decide) ?_
  refine rm_callvS (As := [.int wv, .int 0, .int 7]) (rest := []) hc dX8_count_4 (c_X8_needRange hI x wv 0 7 hw1 hw2) ms_X8_41 (hn := rfl) (hst := rfl) (hw := Nat.le_of_ble_eq_true rfl) (hR := ⟨⟨rfl, rfl⟩, Nat.le_of_ble_eq_true rfl, Nat.le_of_ble_eq_true rfl⟩) (hnc := ⟨Nat.zero_le _, Nat.zero_le _⟩) (fun y_1 h_1 => ?_)
  obtain rfl := h_1.symm
  refine rm_aload_n hc dX8_count_7 rfl rfl ?_
  refine rm_iload_n hc dX8_count_8 rfl rfl ?_
  refine rm_calliV (As := [.int wv]) (rest := []) hc dX8_count_9 (c_X8_counted hI x wv) mv_X8_175 dm_9 rfl rfl (hn := rfl) (hst := rfl) (hw := Nat.le_of_ble_eq_true rfl) (hR := ⟨⟨rfl, rfl⟩, Nat.le_of_ble_eq_true rfl, Nat.le_of_ble_eq_true rfl⟩) (hnc := ⟨Nat.zero_le _, Nat.zero_le _⟩) (fun r_2 y_2 h_2 => ?_)
  obtain ⟨e_2, ey_2⟩ := h_2
  obtain rfl := ey_2.symm
  exact rm_iret hc dX8_count_12 ⟨by subst_vars; rfl, rfl⟩

abbrev rm_X8_setting : Room := { frames := 7, cells := 0, slots := 0, locals := 111 }
set_option maxHeartbeats 4000000 in
set_option maxRecDepth 100000 in
theorem c_X8_setting {l : Launch} {D : va_G} {cy : Nat → ClassId} {ad : Ads} (hI : IJ ad) (x : Mem) (wv : Int32) (hw1 : ¬ wv < 0) (hw2 : wv < 3) : Cti l yX8_setting cX8_setting 2 (some .int) rm_X8_setting D cy ad [.ref (ad 8 9 0), .int wv] x (fun r y => r = valS x 0 wv ∧ y = x) := by
  refine rm_entry (Qc := Qi D cy ad (fun r y => r = valS x 0 wv ∧ y = x)) hI (by decide) (Nat.le_of_ble_eq_true rfl) ?_
  intro p e s m args below meth c hc
  show RM _ _ _ _ _ _ _ _ _ _ _ _ _ _ _ _ _ [(0, .ref (ad 8 9 0)), (1, .int wv)] []
  refine rm_iload_n hc dX8_setting_0 rfl rfl ?_
  refine rm_iconst (v := 3) hc dX8_setting_1 (by decide) ?_
  refine rm_callvS (As := [.int wv, .int 3]) (rest := []) hc dX8_setting_2 (c_X8_needIndex hI x wv 3 hw1 hw2) ms_X8_37 (hn := rfl) (hst := rfl) (hw := Nat.le_of_ble_eq_true rfl) (hR := ⟨⟨rfl, rfl⟩, Nat.le_of_ble_eq_true rfl, Nat.le_of_ble_eq_true rfl⟩) (hnc := ⟨Nat.zero_le _, Nat.zero_le _⟩) (fun y_1 h_1 => ?_)
  obtain rfl := h_1.symm
  refine rm_aload_n hc dX8_setting_5 rfl rfl ?_
  refine rm_get hc dX8_setting_6 fl_X8_10 dm_9 rfl rfl ?_
  refine rm_get hc dX8_setting_9 fl_X8_129 (dm_0 (by omega)) rfl rfl ?_
  refine rm_iload_n hc dX8_setting_12 rfl rfl ?_
  refine rm_calliV (As := [.int wv]) (rest := []) hc dX8_setting_13 (c_X4_value hI x (k := 0) (by omega) wv) mv_X8_133 (dm_8 (by omega)) rfl rfl (hn := rfl) (hst := rfl) (hw := Nat.le_of_ble_eq_true rfl) (hR := ⟨⟨rfl, rfl⟩, Nat.le_of_ble_eq_true rfl, Nat.le_of_ble_eq_true rfl⟩) (hnc := ⟨Nat.zero_le _, Nat.zero_le _⟩) (fun r_2 y_2 h_2 => ?_)
  obtain ⟨e_2, ey_2⟩ := h_2
  obtain rfl := ey_2.symm
  exact rm_iret hc dX8_setting_16 ⟨by subst_vars; rfl, rfl⟩

abbrev rm_X8_ifHeard : Room := { frames := 8, cells := 0, slots := 0, locals := 132 }
set_option maxHeartbeats 4000000 in
set_option maxRecDepth 100000 in
theorem c_X8_ifHeard {l : Launch} {D : va_G} {cy : Nat → ClassId} {ad : Ads} (hI : IJ ad) (x : Mem) {d : Nat} (hd3 : d < 3) (mm : Nat) (hmm : mm < 2 ^ 30) (hw : x 0 1 = nI mm) (hF : FLG x 0) (num : Int32) (hm1 : ¬ num < 0) (hm2 : ¬ 65535 < num) : Cti l yX8_ifHeard cX8_ifHeard 3 (some .int) rm_X8_ifHeard D cy ad [.ref (ad 8 9 0), .int (nI (d)), .int num] x (fun r y => r = hrR x 0 d 0 num mm ∧ E7 x y) := by
  refine rm_entry (Qc := Qi D cy ad (fun r y => r = hrR x 0 d 0 num mm ∧ E7 x y)) hI (by decide) (Nat.le_of_ble_eq_true rfl) ?_
  intro p e s m args below meth c hc
  show RM _ _ _ _ _ _ _ _ _ _ _ _ _ _ _ _ _ [(0, .ref (ad 8 9 0)), (1, .int (nI (d))), (2, .int num)] []
  refine rm_iload_n hc dX8_ifHeard_0 rfl rfl ?_
  refine rm_iconst (v := 3) hc dX8_ifHeard_1 (by decide) ?_
  refine rm_callvS (As := [.int (nI (d)), .int 3]) (rest := []) hc dX8_ifHeard_2 (c_X8_needIndex hI x (nI (d)) 3 (nI_pos (n := d) (by omega)) (nI_lt (a := d) (b := 3) (by omega) (by omega))) ms_X8_37 (hn := rfl) (hst := rfl) (hw := Nat.le_of_ble_eq_true rfl) (hR := ⟨⟨rfl, rfl⟩, Nat.le_of_ble_eq_true rfl, Nat.le_of_ble_eq_true rfl⟩) (hnc := ⟨Nat.zero_le _, Nat.zero_le _⟩) (fun y_1 h_1 => ?_)
  obtain rfl := h_1.symm
  refine rm_iload_n hc dX8_ifHeard_5 rfl rfl ?_
  refine rm_iconst (v := 0) hc dX8_ifHeard_6 (by decide) ?_
  refine rm_ldc hc dX8_ifHeard_7 kc_X8_178 ?_
  refine rm_callvS (As := [.int num, .int 0, .int 65535]) (rest := []) hc dX8_ifHeard_9 (c_X8_needRange hI x num 0 65535 hm1 hm2) ms_X8_41 (hn := rfl) (hst := rfl) (hw := Nat.le_of_ble_eq_true rfl) (hR := ⟨⟨rfl, rfl⟩, Nat.le_of_ble_eq_true rfl, Nat.le_of_ble_eq_true rfl⟩) (hnc := ⟨Nat.zero_le _, Nat.zero_le _⟩) (fun y_2 h_2 => ?_)
  obtain rfl := h_2.symm
  refine rm_aload_n hc dX8_ifHeard_12 rfl rfl ?_
  refine rm_aload_n hc dX8_ifHeard_13 rfl rfl ?_
  refine rm_get hc dX8_ifHeard_14 fl_X8_10 dm_9 rfl rfl ?_
  refine rm_get hc dX8_ifHeard_17 fl_X8_89 (dm_0 (by omega)) rfl rfl ?_
  refine rm_iload_n hc dX8_ifHeard_20 rfl rfl ?_
  refine rm_aald (t0 := 2) (i := d) (v := .ref (ad 0 4 d)) hc dX8_ifHeard_21 (dm_3 (by omega)) rfl rfl (by omega) (by decide) rfl rfl ?_
  refine rm_iload_n hc dX8_ifHeard_22 rfl rfl ?_
  refine rm_calliV (As := [.ref (ad 0 4 d), .int num]) (rest := []) hc dX8_ifHeard_23 (c_X8_tryNumber hI x (d := d) (by omega) mm (by omega) hw hF num) mv_X8_179 dm_9 rfl rfl (hn := rfl) (hst := rfl) (hw := Nat.le_of_ble_eq_true rfl) (hR := ⟨⟨rfl, rfl⟩, Nat.le_of_ble_eq_true rfl, Nat.le_of_ble_eq_true rfl⟩) (hnc := ⟨Nat.zero_le _, Nat.zero_le _⟩) (fun r_3 y_3 h_3 => ?_)
  obtain ⟨e_3, ey_3⟩ := h_3
  exact rm_iret hc dX8_ifHeard_26 ⟨e_3, ey_3⟩

abbrev rm_X8_opensIn : Room := { frames := 7, cells := 0, slots := 0, locals := 111 }
set_option maxHeartbeats 4000000 in
set_option maxRecDepth 100000 in
theorem c_X8_opensIn {l : Launch} {D : va_G} {cy : Nat → ClassId} {ad : Ads} (hI : IJ ad) (x : Mem) {j d nb : Nat} (hj : j < 4) (hd3 : d < 3) (mm : Nat) (hmm : mm < 2 ^ 30) (hw : x 0 1 = nI mm) (hF : FLG x 0) (hnb : x 0 (16 + 4 * j) = nI nb) (hb9 : nb ≤ 999) : Cti l yX8_opensIn cX8_opensIn 3 (some .int) rm_X8_opensIn D cy ad [.ref (ad 8 9 0), .int (nI (j)), .int (nI (d))] x (fun r y => r = ptoS (x 0 (14 + 4 * j)) mm (if nb < 50 then nb else 50) (triM x d) (x 0 (15 + 4 * j)) 0 ∧ E7 x y) := by
  refine rm_entry (Qc := Qi D cy ad (fun r y => r = ptoS (x 0 (14 + 4 * j)) mm (if nb < 50 then nb else 50) (triM x d) (x 0 (15 + 4 * j)) 0 ∧ E7 x y)) hI (by decide) (Nat.le_of_ble_eq_true rfl) ?_
  intro p e s m args below meth c hc
  show RM _ _ _ _ _ _ _ _ _ _ _ _ _ _ _ _ _ [(0, .ref (ad 8 9 0)), (1, .int (nI (j))), (2, .int (nI (d)))] []
  refine rm_iload_n hc dX8_opensIn_0 rfl rfl ?_
  refine rm_iconst (v := 4) hc dX8_opensIn_1 (by decide) ?_
  refine rm_callvS (As := [.int (nI (j)), .int 4]) (rest := []) hc dX8_opensIn_2 (c_X8_needIndex hI x (nI (j)) 4 (nI_pos (n := j) (by omega)) (nI_lt (a := j) (b := 4) (by omega) (by omega))) ms_X8_37 (hn := rfl) (hst := rfl) (hw := Nat.le_of_ble_eq_true rfl) (hR := ⟨⟨rfl, rfl⟩, Nat.le_of_ble_eq_true rfl, Nat.le_of_ble_eq_true rfl⟩) (hnc := ⟨Nat.zero_le _, Nat.zero_le _⟩) (fun y_1 h_1 => ?_)
  obtain rfl := h_1.symm
  refine rm_iload_n hc dX8_opensIn_5 rfl rfl ?_
  refine rm_iconst (v := 3) hc dX8_opensIn_6 (by decide) ?_
  refine rm_callvS (As := [.int (nI (d)), .int 3]) (rest := []) hc dX8_opensIn_7 (c_X8_needIndex hI x (nI (d)) 3 (nI_pos (n := d) (by omega)) (nI_lt (a := d) (b := 3) (by omega) (by omega))) ms_X8_37 (hn := rfl) (hst := rfl) (hw := Nat.le_of_ble_eq_true rfl) (hR := ⟨⟨rfl, rfl⟩, Nat.le_of_ble_eq_true rfl, Nat.le_of_ble_eq_true rfl⟩) (hnc := ⟨Nat.zero_le _, Nat.zero_le _⟩) (fun y_2 h_2 => ?_)
  obtain rfl := h_2.symm
  refine rm_aload_n hc dX8_opensIn_10 rfl rfl ?_
  refine rm_aload_n hc dX8_opensIn_11 rfl rfl ?_
  refine rm_get hc dX8_opensIn_12 fl_X8_10 dm_9 rfl rfl ?_
  refine rm_get hc dX8_opensIn_15 fl_X8_49 (dm_0 (by omega)) rfl rfl ?_
  refine rm_iload_n hc dX8_opensIn_18 rfl rfl ?_
  refine rm_aald (t0 := 1) (i := j) (v := .ref (ad 0 2 j)) hc dX8_opensIn_19 (dm_1 (by omega)) rfl rfl (by omega) (by decide) rfl rfl ?_
  refine rm_aload_n hc dX8_opensIn_20 rfl rfl ?_
  refine rm_get hc dX8_opensIn_21 fl_X8_10 dm_9 rfl rfl ?_
  refine rm_get hc dX8_opensIn_24 fl_X8_89 (dm_0 (by omega)) rfl rfl ?_
  refine rm_iload_n hc dX8_opensIn_27 rfl rfl ?_
  refine rm_aald (t0 := 2) (i := d) (v := .ref (ad 0 4 d)) hc dX8_opensIn_28 (dm_3 (by omega)) rfl rfl (by omega) (by decide) rfl rfl ?_
  refine rm_calliV (As := [.ref (ad 0 2 j), .ref (ad 0 4 d)]) (rest := []) hc dX8_opensIn_29 (c_X8_pressesToOpen hI x (j := j) (d := d) (nb := nb) (by omega) (by omega) mm (by omega) hw hF hnb (by omega)) mv_X8_183 dm_9 rfl rfl (hn := rfl) (hst := rfl) (hw := Nat.le_of_ble_eq_true rfl) (hR := ⟨⟨rfl, rfl⟩, Nat.le_of_ble_eq_true rfl, Nat.le_of_ble_eq_true rfl⟩) (hnc := ⟨Nat.zero_le _, Nat.zero_le _⟩) (fun r_3 y_3 h_3 => ?_)
  obtain ⟨e_3, ey_3⟩ := h_3
  exact rm_iret hc dX8_opensIn_32 ⟨e_3, ey_3⟩

abbrev rm_X8_unheard : Room := { frames := 7, cells := 0, slots := 0, locals := 119 }
set_option maxHeartbeats 4000000 in
set_option maxRecDepth 100000 in
theorem c_X8_unheard {l : Launch} {D : va_G} {cy : Nat → ClassId} {ad : Ads} (hI : IJ ad) (x : Mem) {j d : Nat} (hj : j < 4) (hd3 : d < 3) (mm : Nat) (hmm : mm < 2 ^ 30) (hw : x 0 1 = nI mm) (hF : FLG x 0) : Cti l yX8_unheard cX8_unheard 3 (some .int) rm_X8_unheard D cy ad [.ref (ad 8 9 0), .int (nI (j)), .int (nI (d))] x (fun r y => r = munS x d (x 0 (14 + 4 * j)) mm 100 (x 0 (15 + 4 * j)) 0 (-1) ∧ E7 x y) := by
  refine rm_entry (Qc := Qi D cy ad (fun r y => r = munS x d (x 0 (14 + 4 * j)) mm 100 (x 0 (15 + 4 * j)) 0 (-1) ∧ E7 x y)) hI (by decide) (Nat.le_of_ble_eq_true rfl) ?_
  intro p e s m args below meth c hc
  show RM _ _ _ _ _ _ _ _ _ _ _ _ _ _ _ _ _ [(0, .ref (ad 8 9 0)), (1, .int (nI (j))), (2, .int (nI (d)))] []
  refine rm_iload_n hc dX8_unheard_0 rfl rfl ?_
  refine rm_iconst (v := 4) hc dX8_unheard_1 (by decide) ?_
  refine rm_callvS (As := [.int (nI (j)), .int 4]) (rest := []) hc dX8_unheard_2 (c_X8_needIndex hI x (nI (j)) 4 (nI_pos (n := j) (by omega)) (nI_lt (a := j) (b := 4) (by omega) (by omega))) ms_X8_37 (hn := rfl) (hst := rfl) (hw := Nat.le_of_ble_eq_true rfl) (hR := ⟨⟨rfl, rfl⟩, Nat.le_of_ble_eq_true rfl, Nat.le_of_ble_eq_true rfl⟩) (hnc := ⟨Nat.zero_le _, Nat.zero_le _⟩) (fun y_1 h_1 => ?_)
  obtain rfl := h_1.symm
  refine rm_iload_n hc dX8_unheard_5 rfl rfl ?_
  refine rm_iconst (v := 3) hc dX8_unheard_6 (by decide) ?_
  refine rm_callvS (As := [.int (nI (d)), .int 3]) (rest := []) hc dX8_unheard_7 (c_X8_needIndex hI x (nI (d)) 3 (nI_pos (n := d) (by omega)) (nI_lt (a := d) (b := 3) (by omega) (by omega))) ms_X8_37 (hn := rfl) (hst := rfl) (hw := Nat.le_of_ble_eq_true rfl) (hR := ⟨⟨rfl, rfl⟩, Nat.le_of_ble_eq_true rfl, Nat.le_of_ble_eq_true rfl⟩) (hnc := ⟨Nat.zero_le _, Nat.zero_le _⟩) (fun y_2 h_2 => ?_)
  obtain rfl := h_2.symm
  refine rm_aload_n hc dX8_unheard_10 rfl rfl ?_
  refine rm_aload_n hc dX8_unheard_11 rfl rfl ?_
  refine rm_get hc dX8_unheard_12 fl_X8_10 dm_9 rfl rfl ?_
  refine rm_get hc dX8_unheard_15 fl_X8_49 (dm_0 (by omega)) rfl rfl ?_
  refine rm_iload_n hc dX8_unheard_18 rfl rfl ?_
  refine rm_aald (t0 := 1) (i := j) (v := .ref (ad 0 2 j)) hc dX8_unheard_19 (dm_1 (by omega)) rfl rfl (by omega) (by decide) rfl rfl ?_
  refine rm_aload_n hc dX8_unheard_20 rfl rfl ?_
  refine rm_get hc dX8_unheard_21 fl_X8_10 dm_9 rfl rfl ?_
  refine rm_get hc dX8_unheard_24 fl_X8_89 (dm_0 (by omega)) rfl rfl ?_
  refine rm_iload_n hc dX8_unheard_27 rfl rfl ?_
  refine rm_aald (t0 := 2) (i := d) (v := .ref (ad 0 4 d)) hc dX8_unheard_28 (dm_3 (by omega)) rfl rfl (by omega) (by decide) rfl rfl ?_
  refine rm_calliV (As := [.ref (ad 0 2 j), .ref (ad 0 4 d)]) (rest := []) hc dX8_unheard_29 (c_X8_mostUnheard hI x (j := j) (d := d) (by omega) (by omega) mm (by omega) hw hF) mv_X8_187 dm_9 rfl rfl (hn := rfl) (hst := rfl) (hw := Nat.le_of_ble_eq_true rfl) (hR := ⟨⟨rfl, rfl⟩, Nat.le_of_ble_eq_true rfl, Nat.le_of_ble_eq_true rfl⟩) (hnc := ⟨Nat.zero_le _, Nat.zero_le _⟩) (fun r_3 y_3 h_3 => ?_)
  obtain ⟨e_3, ey_3⟩ := h_3
  exact rm_iret hc dX8_unheard_32 ⟨e_3, ey_3⟩

abbrev rm_X8_useful : Room := { frames := 7, cells := 0, slots := 0, locals := 116 }
set_option maxHeartbeats 4000000 in
set_option maxRecDepth 100000 in
theorem c_X8_useful {l : Launch} {D : va_G} {cy : Nat → ClassId} {ad : Ads} (hI : IJ ad) (x : Mem) {d nr : Nat} (hd3 : d < 3) (mm : Nat) (hmm : mm < 2 ^ 30) (hw : x 0 1 = nI mm) (hF : FLG x 0) (hnr : x 0 5 = nI nr) (hr8 : nr ≤ 8) : Cti l yX8_useful cX8_useful 2 (some .int) rm_X8_useful D cy ad [.ref (ad 8 9 0), .int (nI (d))] x (fun r y => r = fusS x d mm nr 0 ∧ E7 x y) := by
  refine rm_entry (Qc := Qi D cy ad (fun r y => r = fusS x d mm nr 0 ∧ E7 x y)) hI (by decide) (Nat.le_of_ble_eq_true rfl) ?_
  intro p e s m args below meth c hc
  show RM _ _ _ _ _ _ _ _ _ _ _ _ _ _ _ _ _ [(0, .ref (ad 8 9 0)), (1, .int (nI (d)))] []
  refine rm_iload_n hc dX8_useful_0 rfl rfl ?_
  refine rm_iconst (v := 3) hc dX8_useful_1 (by decide) ?_
  refine rm_callvS (As := [.int (nI (d)), .int 3]) (rest := []) hc dX8_useful_2 (c_X8_needIndex hI x (nI (d)) 3 (nI_pos (n := d) (by omega)) (nI_lt (a := d) (b := 3) (by omega) (by omega))) ms_X8_37 (hn := rfl) (hst := rfl) (hw := Nat.le_of_ble_eq_true rfl) (hR := ⟨⟨rfl, rfl⟩, Nat.le_of_ble_eq_true rfl, Nat.le_of_ble_eq_true rfl⟩) (hnc := ⟨Nat.zero_le _, Nat.zero_le _⟩) (fun y_1 h_1 => ?_)
  obtain rfl := h_1.symm
  refine rm_aload_n hc dX8_useful_5 rfl rfl ?_
  refine rm_aload_n hc dX8_useful_6 rfl rfl ?_
  refine rm_get hc dX8_useful_7 fl_X8_10 dm_9 rfl rfl ?_
  refine rm_get hc dX8_useful_10 fl_X8_89 (dm_0 (by omega)) rfl rfl ?_
  refine rm_iload_n hc dX8_useful_13 rfl rfl ?_
  refine rm_aald (t0 := 2) (i := d) (v := .ref (ad 0 4 d)) hc dX8_useful_14 (dm_3 (by omega)) rfl rfl (by omega) (by decide) rfl rfl ?_
  refine rm_calliV (As := [.ref (ad 0 4 d)]) (rest := []) hc dX8_useful_15 (c_X8_firstUseful hI x (d := d) (nr := nr) (by omega) mm (by omega) hw hF hnr (by omega)) mv_X8_190 dm_9 rfl rfl (hn := rfl) (hst := rfl) (hw := Nat.le_of_ble_eq_true rfl) (hR := ⟨⟨rfl, rfl⟩, Nat.le_of_ble_eq_true rfl, Nat.le_of_ble_eq_true rfl⟩) (hnc := ⟨Nat.zero_le _, Nat.zero_le _⟩) (fun r_2 y_2 h_2 => ?_)
  obtain ⟨e_2, ey_2⟩ := h_2
  exact rm_iret hc dX8_useful_18 ⟨e_2, ey_2⟩
