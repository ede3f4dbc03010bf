theorem yk_J6_bitCount_0f7a4 : Cond.initialized yJ6_bitCount_0f7a4.cls ∈ TB ∧ Cond.code yJ6_bitCount_0f7a4 cJ6_bitCount_0f7a4 1 (some .int) ∈ TB ∧ (yJ6_bitCount_0f7a4.cls ≠ "java/lang/invoke/MethodHandle" ∧ yJ6_bitCount_0f7a4.cls ≠ "java/lang/invoke/VarHandle" ∧ (parseMethodDescriptor yJ6_bitCount_0f7a4.desc).map (fun d => d.parameters.length) = some 1) := ⟨tbm (i := 25) (by decide +kernel) (by decide +kernel), tbm (i := 624) (by decide +kernel) (by decide +kernel), by decide +kernel⟩
theorem ms_X6_89 : MS RX6 89 yJ6_bitCount_0f7a4 cJ6_bitCount_0f7a4 1 (some .int) 1 := ⟨⟨tbm (i := 622) (by decide +kernel) (by decide +kernel), yk_J6_bitCount_0f7a4⟩, tbm (i := 623) (by decide +kernel) (by decide +kernel)⟩
theorem kc_J6_265 : Cond.constant RJ6 265 (1431655765 : Int32) ∈ TB := tbm (i := 625) (by decide +kernel) (by decide +kernel)
theorem kc_J6_266 : Cond.constant RJ6 266 (858993459 : Int32) ∈ TB := tbm (i := 626) (by decide +kernel) (by decide +kernel)
theorem kc_J6_267 : Cond.constant RJ6 267 (252645135 : Int32) ∈ TB := tbm (i := 627) (by decide +kernel) (by decide +kernel)
theorem dJ6_bitCount_0f7a4_0 : decode cJ6_bitCount_0f7a4 0 = .ok (.iload_n 0, 1) := by decide +kernel
theorem dJ6_bitCount_0f7a4_1 : decode cJ6_bitCount_0f7a4 1 = .ok (.iload_n 0, 1) := by decide +kernel
theorem dJ6_bitCount_0f7a4_2 : decode cJ6_bitCount_0f7a4 2 = .ok (.iconst 1, 1) := by decide +kernel
theorem dJ6_bitCount_0f7a4_3 : decode cJ6_bitCount_0f7a4 3 = .ok (.iushr, 1) := by decide +kernel
theorem dJ6_bitCount_0f7a4_4 : decode cJ6_bitCount_0f7a4 4 = .ok (.ldc_w 265, 3) := by decide +kernel
theorem dJ6_bitCount_0f7a4_7 : decode cJ6_bitCount_0f7a4 7 = .ok (.iand, 1) := by decide +kernel
theorem dJ6_bitCount_0f7a4_8 : decode cJ6_bitCount_0f7a4 8 = .ok (.isub, 1) := by decide +kernel
theorem dJ6_bitCount_0f7a4_9 : decode cJ6_bitCount_0f7a4 9 = .ok (.istore_n 0, 1) := by decide +kernel
theorem dJ6_bitCount_0f7a4_10 : decode cJ6_bitCount_0f7a4 10 = .ok (.iload_n 0, 1) := by decide +kernel
theorem dJ6_bitCount_0f7a4_11 : decode cJ6_bitCount_0f7a4 11 = .ok (.ldc_w 266, 3) := by decide +kernel
theorem dJ6_bitCount_0f7a4_14 : decode cJ6_bitCount_0f7a4 14 = .ok (.iand, 1) := by decide +kernel
theorem dJ6_bitCount_0f7a4_15 : decode cJ6_bitCount_0f7a4 15 = .ok (.iload_n 0, 1) := by decide +kernel
theorem dJ6_bitCount_0f7a4_16 : decode cJ6_bitCount_0f7a4 16 = .ok (.iconst 2, 1) := by decide +kernel
theorem dJ6_bitCount_0f7a4_17 : decode cJ6_bitCount_0f7a4 17 = .ok (.iushr, 1) := by decide +kernel
theorem dJ6_bitCount_0f7a4_18 : decode cJ6_bitCount_0f7a4 18 = .ok (.ldc_w 266, 3) := by decide +kernel
theorem dJ6_bitCount_0f7a4_21 : decode cJ6_bitCount_0f7a4 21 = .ok (.iand, 1) := by decide +kernel
theorem dJ6_bitCount_0f7a4_22 : decode cJ6_bitCount_0f7a4 22 = .ok (.iadd, 1) := by decide +kernel
theorem dJ6_bitCount_0f7a4_23 : decode cJ6_bitCount_0f7a4 23 = .ok (.istore_n 0, 1) := by decide +kernel
theorem dJ6_bitCount_0f7a4_24 : decode cJ6_bitCount_0f7a4 24 = .ok (.iload_n 0, 1) := by decide +kernel
theorem dJ6_bitCount_0f7a4_25 : decode cJ6_bitCount_0f7a4 25 = .ok (.iload_n 0, 1) := by decide +kernel
theorem dJ6_bitCount_0f7a4_26 : decode cJ6_bitCount_0f7a4 26 = .ok (.iconst 4, 1) := by decide +kernel
theorem dJ6_bitCount_0f7a4_27 : decode cJ6_bitCount_0f7a4 27 = .ok (.iushr, 1) := by decide +kernel
theorem dJ6_bitCount_0f7a4_28 : decode cJ6_bitCount_0f7a4 28 = .ok (.iadd, 1) := by decide +kernel
theorem dJ6_bitCount_0f7a4_29 : decode cJ6_bitCount_0f7a4 29 = .ok (.ldc_w 267, 3) := by decide +kernel
theorem dJ6_bitCount_0f7a4_32 : decode cJ6_bitCount_0f7a4 32 = .ok (.iand, 1) := by decide +kernel
theorem dJ6_bitCount_0f7a4_33 : decode cJ6_bitCount_0f7a4 33 = .ok (.istore_n 0, 1) := by decide +kernel
theorem dJ6_bitCount_0f7a4_34 : decode cJ6_bitCount_0f7a4 34 = .ok (.iload_n 0, 1) := by decide +kernel
theorem dJ6_bitCount_0f7a4_35 : decode cJ6_bitCount_0f7a4 35 = .ok (.iload_n 0, 1) := by decide +kernel
theorem dJ6_bitCount_0f7a4_36 : decode cJ6_bitCount_0f7a4 36 = .ok (.bipush 8, 2) := by decide +kernel
theorem dJ6_bitCount_0f7a4_38 : decode cJ6_bitCount_0f7a4 38 = .ok (.iushr, 1) := by decide +kernel
theorem dJ6_bitCount_0f7a4_39 : decode cJ6_bitCount_0f7a4 39 = .ok (.iadd, 1) := by decide +kernel
theorem dJ6_bitCount_0f7a4_40 : decode cJ6_bitCount_0f7a4 40 = .ok (.istore_n 0, 1) := by decide +kernel
theorem dJ6_bitCount_0f7a4_41 : decode cJ6_bitCount_0f7a4 41 = .ok (.iload_n 0, 1) := by decide +kernel
theorem dJ6_bitCount_0f7a4_42 : decode cJ6_bitCount_0f7a4 42 = .ok (.iload_n 0, 1) := by decide +kernel
theorem dJ6_bitCount_0f7a4_43 : decode cJ6_bitCount_0f7a4 43 = .ok (.bipush 16, 2) := by decide +kernel
theorem dJ6_bitCount_0f7a4_45 : decode cJ6_bitCount_0f7a4 45 = .ok (.iushr, 1) := by decide +kernel
theorem dJ6_bitCount_0f7a4_46 : decode cJ6_bitCount_0f7a4 46 = .ok (.iadd, 1) := by decide +kernel
theorem dJ6_bitCount_0f7a4_47 : decode cJ6_bitCount_0f7a4 47 = .ok (.istore_n 0, 1) := by decide +kernel
theorem dJ6_bitCount_0f7a4_48 : decode cJ6_bitCount_0f7a4 48 = .ok (.iload_n 0, 1) := by decide +kernel
theorem dJ6_bitCount_0f7a4_49 : decode cJ6_bitCount_0f7a4 49 = .ok (.bipush 63, 2) := by decide +kernel
theorem dJ6_bitCount_0f7a4_51 : decode cJ6_bitCount_0f7a4 51 = .ok (.iand, 1) := by decide +kernel
theorem dJ6_bitCount_0f7a4_52 : decode cJ6_bitCount_0f7a4 52 = .ok (.ireturn, 1) := by decide +kernel
abbrev rm_J6_bitCount_0f7a4 : Room := { frames := 0, cells := 0, slots := 0, locals := 0 }
set_option maxHeartbeats 4000000 in
set_option maxRecDepth 100000 in
theorem c_J6_bitCount_0f7a4 {l : Launch} {D : va_G} {cy : Nat → ClassId} {ad : Ads} (hI : IJ ad) (x : Mem) {bn : Nat} (hbn : bn < 8) : Cti l yJ6_bitCount_0f7a4 cJ6_bitCount_0f7a4 1 (some .int) rm_J6_bitCount_0f7a4 D cy ad [.int (nI (bn))] x (fun r y => r = nI (ones3 bn) ∧ y = x) := by
  refine rm_entry (Qc := Qi D cy ad (fun r y => r = nI (ones3 bn) ∧ y = x)) hI (by decide) (Nat.le_of_ble_eq_true rfl) ?_
  intro p e s m args below meth c hc
  show RM _ _ _ _ _ _ _ _ _ _ _ _ _ _ _ _ _ [(0, .int (nI (bn)))] []
  refine rm_iload_n hc dJ6_bitCount_0f7a4_0 rfl rfl ?_
  refine rm_iload_n hc dJ6_bitCount_0f7a4_1 rfl rfl ?_
  refine rm_iconst (v := 1) hc dJ6_bitCount_0f7a4_2 (by decide) ?_
  refine rm_iushr hc dJ6_bitCount_0f7a4_3 (fun v_1 e_1 => ?_)
  refine rm_ldcw hc dJ6_bitCount_0f7a4_4 kc_J6_265 ?_
  refine rm_iand hc dJ6_bitCount_0f7a4_7 (fun v_2 e_2 => ?_)
  refine rm_isub hc dJ6_bitCount_0f7a4_8 (fun v_3 e_3 => ?_)
  refine rm_istore_n (ls' := [(0, .int v_3)]) hc dJ6_bitCount_0f7a4_9 rfl (by decide) rfl ?_
  refine rm_iload_n hc dJ6_bitCount_0f7a4_10 rfl rfl ?_
  refine rm_ldcw hc dJ6_bitCount_0f7a4_11 kc_J6_266 ?_
  refine rm_iand hc dJ6_bitCount_0f7a4_14 (fun v_4 e_4 => ?_)
  refine rm_iload_n hc dJ6_bitCount_0f7a4_15 rfl rfl ?_
  refine rm_iconst (v := 2) hc dJ6_bitCount_0f7a4_16 (by decide) ?_
  refine rm_iushr hc dJ6_bitCount_0f7a4_17 (fun v_5 e_5 => ?_)
  refine rm_ldcw hc dJ6_bitCount_0f7a4_18 kc_J6_266 ?_
  refine rm_iand hc dJ6_bitCount_0f7a4_21 (fun v_6 e_6 => ?_)
  refine rm_iadd hc dJ6_bitCount_0f7a4_22 (fun v_7 e_7 => ?_)
  refine rm_istore_n (ls' := [(0, .int v_7)]) hc dJ6_bitCount_0f7a4_23 rfl (by decide) rfl ?_
  refine rm_iload_n hc dJ6_bitCount_0f7a4_24 rfl rfl ?_
  refine rm_iload_n hc dJ6_bitCount_0f7a4_25 rfl rfl ?_
  refine rm_iconst (v := 4) hc dJ6_bitCount_0f7a4_26 (by decide) ?_
  refine rm_iushr hc dJ6_bitCount_0f7a4_27 (fun v_8 e_8 => ?_)
  refine rm_iadd hc dJ6_bitCount_0f7a4_28 (fun v_9 e_9 => ?_)
  refine rm_ldcw hc dJ6_bitCount_0f7a4_29 kc_J6_267 ?_
  refine rm_iand hc dJ6_bitCount_0f7a4_32 (fun v_10 e_10 => ?_)
  refine rm_istore_n (ls' := [(0, .int v_10)]) hc dJ6_bitCount_0f7a4_33 rfl (by decide) rfl ?_
  refine rm_iload_n hc dJ6_bitCount_0f7a4_34 rfl rfl ?_
  refine rm_iload_n hc dJ6_bitCount_0f7a4_35 rfl rfl ?_
  refine rm_bipush (v := 8) hc dJ6_bitCount_0f7a4_36 (by decide) ?_
  refine rm_iushr hc dJ6_bitCount_0f7a4_38 (fun v_11 e_11 => ?_)
  refine rm_iadd hc dJ6_bitCount_0f7a4_39 (fun v_12 e_12 => ?_)
  refine rm_istore_n (ls' := [(0, .int v_12)]) hc dJ6_bitCount_0f7a4_40 rfl (by decide) rfl ?_
  refine rm_iload_n hc dJ6_bitCount_0f7a4_41 rfl rfl ?_
  refine rm_iload_n hc dJ6_bitCount_0f7a4_42 rfl rfl ?_
  refine rm_bipush (v := 16) hc dJ6_bitCount_0f7a4_43 (by decide) ?_
  refine rm_iushr hc dJ6_bitCount_0f7a4_45 (fun v_13 e_13 => ?_)
  refine rm_iadd hc dJ6_bitCount_0f7a4_46 (fun v_14 e_14 => ?_)
  refine rm_istore_n (ls' := [(0, .int v_14)]) hc dJ6_bitCount_0f7a4_47 rfl (by decide) rfl ?_
  refine rm_iload_n hc dJ6_bitCount_0f7a4_48 rfl rfl ?_
  refine rm_bipush (v := 63) hc dJ6_bitCount_0f7a4_49 (by decide) ?_
  refine rm_iand hc dJ6_bitCount_0f7a4_51 (fun v_15 e_15 => ?_)
  exact rm_iret hc dJ6_bitCount_0f7a4_52 ⟨by subst_vars; rcases (show bn = 0 ∨ bn = 1 ∨ bn = 2 ∨ bn = 3 ∨ bn = 4 ∨ bn = 5 ∨ bn = 6 ∨ bn = 7 by omega) with rfl | rfl | rfl | rfl | rfl | rfl | rfl | rfl <;> decide +kernel, rfl⟩

abbrev rm_X6_sendAgain : Room := { frames := 4, cells := 0, slots := 0, locals := 97 }
set_option maxHeartbeats 4000000 in
set_option maxRecDepth 100000 in
theorem c_X6_sendAgain {l : Launch} {D : va_G} {cy : Nat → ClassId} {ad : Ads} (hI : IJ ad) (x : Mem) {ii nr : Nat} (hii : ii < nr) (hr8 : nr ≤ 8) (hnr : x 0 5 = nI nr) (msk : Int32) (mm : Nat) (hmm : mm < 2 ^ 30) (hw : x 0 1 = nI mm) : Cti l yX6_sendAgain cX6_sendAgain 4 (some .int) rm_X6_sendAgain D cy ad [.ref (ad 0 0 0), .int (nI (ii)), .int msk] x (fun r y => r = (agnS x ii msk mm).1 ∧ y = (agnS x ii msk mm).2) := by
  refine rm_entry (Qc := Qi D cy ad (fun r y => r = (agnS x ii msk mm).1 ∧ y = (agnS x ii msk mm).2)) hI (by decide) (Nat.le_of_ble_eq_true rfl) ?_
  intro p e s m args below meth c hc
  show RM _ _ _ _ _ _ _ _ _ _ _ _ _ _ _ _ _ [(0, .ref (ad 0 0 0)), (1, .int (nI (ii))), (2, .int msk)] []
  refine rm_aload_n hc dX6_sendAgain_0 rfl rfl ?_
  refine rm_iload_n hc dX6_sendAgain_1 rfl rfl ?_
  refine rm_calliV (As := [.int (nI (ii))]) (rest := []) hc dX6_sendAgain_2 (c_X6_canSendAgain hI x (k := 0) (ii := ii) (nr := nr) (by omega) hnr (by omega) (by omega)) mv_X6_82 (dm_0 (by omega)) rfl rfl (hn := rfl) (hst := rfl) (hw := Nat.le_of_ble_eq_true rfl) (hR := ⟨⟨rfl, rfl⟩, Nat.le_of_ble_eq_true rfl, Nat.le_of_ble_eq_true rfl⟩) (hnc := ⟨Nat.zero_le _, Nat.zero_le _⟩) (fun r_1 y_1 h_1 => ?_)
  obtain ⟨e_1, ey_1⟩ := h_1
  obtain rfl := ey_1.symm
  refine rm_if_ne (tgt := 10) hc dX6_sendAgain_5 (by decide) (fun _ => ?_) (fun h => absurd h (by rw [e_1, if_pos hii]; decide))
  refine rm_aload_n hc dX6_sendAgain_10 rfl rfl ?_
  refine rm_dup hc dX6_sendAgain_11 rfl ?_
  refine rm_geti hc dX6_sendAgain_12 fl_X6_54 (dm_0 (by omega)) rfl rfl (fun v_3 e_3 => ?_)
  refine rm_iconst (v := 1) hc dX6_sendAgain_15 (by decide) ?_
  refine rm_iadd hc dX6_sendAgain_16 (fun v_4 e_4 => ?_)
  refine rm_put hc dX6_sendAgain_17 fl_X6_54 (dm_0 (by omega)) rfl (Nat.le_of_ble_eq_true rfl) ft_6_4 rfl rfl (so_0_4 (by omega)) (rm_nm (fun x_5 ex_5 => ?_))
  refine rm_aload_n hc dX6_sendAgain_20 rfl rfl ?_
  refine rm_aload_n hc dX6_sendAgain_21 rfl rfl ?_
  refine rm_get hc dX6_sendAgain_22 fl_X6_30 (dm_0 (by omega)) rfl rfl ?_
  refine rm_iload_n hc dX6_sendAgain_25 rfl rfl ?_
  refine rm_calliV (As := [.int (nI (ii))]) (rest := [.ref (ad 0 0 0)]) hc dX6_sendAgain_26 (c_X0_number hI x_5 (k := 0) (by omega) (nI (ii))) mv_X6_85 (dm_6 (by omega)) rfl rfl (hn := rfl) (hst := rfl) (hw := Nat.le_of_ble_eq_true rfl) (hR := ⟨⟨rfl, rfl⟩, Nat.le_of_ble_eq_true rfl, Nat.le_of_ble_eq_true rfl⟩) (hnc := ⟨Nat.zero_le _, Nat.zero_le _⟩) (fun r_6 y_6 h_6 => ?_)
  obtain ⟨e_6, ey_6⟩ := h_6
  obtain rfl := ey_6.symm
  refine rm_iload_n hc dX6_sendAgain_29 rfl rfl ?_
  refine rm_calliV (As := [.int r_6, .int msk]) (rest := []) hc dX6_sendAgain_30 (c_X6_send hI x_5 (k := 0) (by omega) r_6 msk mm (by omega) (by subst_vars; rw [up_n _ _ (by omega)]; exact hw)) mv_X6_78 (dm_0 (by omega)) rfl rfl (hn := rfl) (hst := rfl) (hw := Nat.le_of_ble_eq_true rfl) (hR := ⟨⟨rfl, rfl⟩, Nat.le_of_ble_eq_true rfl, Nat.le_of_ble_eq_true rfl⟩) (hnc := ⟨Nat.zero_le _, Nat.zero_le _⟩) (fun r_7 y_7 h_7 => ?_)
  obtain ⟨e_7, ey_7⟩ := h_7
  refine rm_istore_n (ls' := [(0, .ref (ad 0 0 0)), (1, .int (nI (ii))), (2, .int msk), (3, .int r_7)]) hc dX6_sendAgain_33 rfl (by decide) rfl ?_
  refine rm_aload_n hc dX6_sendAgain_34 rfl rfl ?_
  refine rm_dup hc dX6_sendAgain_35 rfl ?_
  refine rm_geti hc dX6_sendAgain_36 fl_X6_58 (dm_0 (by omega)) rfl rfl (fun v_8 e_8 => ?_)
  refine rm_iload_n hc dX6_sendAgain_39 rfl rfl ?_
  obtain ⟨bn, hbn, hbe⟩ : ∃ bn, bn < 8 ∧ r_7 = nI bn := by rw [e_7]; exact send_8
  obtain rfl := hbe
  refine rm_calliS (As := [.int (nI bn)]) (rest := [.int v_8, .ref (ad 0 0 0)]) hc dX6_sendAgain_40 (c_J6_bitCount_0f7a4 hI y_7 hbn) ms_X6_89 (hn := rfl) (hst := rfl) (hw := Nat.le_of_ble_eq_true rfl) (hR := ⟨⟨rfl, rfl⟩, Nat.le_of_ble_eq_true rfl, Nat.le_of_ble_eq_true rfl⟩) (hnc := ⟨Nat.zero_le _, Nat.zero_le _⟩) (fun r_9 y_9 h_9 => ?_)
  obtain ⟨e_9, ey_9⟩ := h_9
  obtain rfl := ey_9.symm
  refine rm_iadd hc dX6_sendAgain_43 (fun v_10 e_10 => ?_)
  refine rm_put hc dX6_sendAgain_44 fl_X6_58 (dm_0 (by omega)) rfl (Nat.le_of_ble_eq_true rfl) ft_6_5 rfl rfl (so_0_5 (by omega)) (rm_nm (fun x_11 ex_11 => ?_))
  refine rm_iload_n hc dX6_sendAgain_47 rfl rfl ?_
  exact rm_iret hc dX6_sendAgain_48 ⟨by subst_vars; exact e_7, by simp only [agnS]; subst_vars; rw [← e_7, nI_clamp (by omega)]⟩

abbrev rm_X8_tryNumber : Room := { frames := 3, cells := 0, slots := 0, locals := 72 }
set_option maxHeartbeats 4000000 in
set_option maxRecDepth 100000 in
theorem c_X8_tryNumber {l : Launch} {D : va_G} {cy : Nat → ClassId} {ad : Ads} (hI : IJ ad) (x : Mem) {d : Nat} (hd3 : d < 3) (mm : Nat) (hmm : mm < 2 ^ 30) (hw : x 0 1 = nI mm) (hF : FLG x 0) (num : Int32) : Cti l yX8_tryNumber cX8_tryNumber 3 (some .int) rm_X8_tryNumber D cy ad [.ref (ad 8 9 0), .ref (ad 0 4 d), .int num] x (fun r y => r = hrR x 0 d 0 num mm ∧ E7 x y) := by
  refine rm_entry (Qc := Qi D cy ad (fun r y => r = hrR x 0 d 0 num mm ∧ E7 x y)) hI (by decide) (Nat.le_of_ble_eq_true rfl) ?_
  intro p e s m args below meth c hc
  show RM _ _ _ _ _ _ _ _ _ _ _ _ _ _ _ _ _ [(0, .ref (ad 8 9 0)), (1, .ref (ad 0 4 d)), (2, .int num)] []
  refine rm_aload_n hc dX8_tryNumber_0 rfl rfl ?_
  refine rm_get hc dX8_tryNumber_1 fl_X8_33 dm_9 rfl rfl ?_
  refine rm_aload_n hc dX8_tryNumber_4 rfl rfl ?_
  refine rm_callvV (As := [.ref (ad 0 4 d)]) (rest := []) hc dX8_tryNumber_5 (c_X1_copyFrom hI x (k := 7) (d := 0) (k2 := 0) (d2 := d) (by omega) (by omega) (by omega) (by omega) (by omega) (by omega) (by omega) (hF d hd3).2 (hF d hd3).1) mv_X8_258 (dm_4 (by omega) (by omega) (by omega)) rfl rfl (hn := rfl) (hst := rfl) (hw := Nat.le_of_ble_eq_true rfl) (hR := ⟨⟨rfl, rfl⟩, Nat.le_of_ble_eq_true rfl, Nat.le_of_ble_eq_true rfl⟩) (hnc := ⟨Nat.zero_le _, Nat.zero_le _⟩) (fun y_1 h_1 => ?_)
  have hy1 : y_1 = triM x d := h_1
  refine rm_aload_n hc dX8_tryNumber_8 rfl rfl ?_
  refine rm_get hc dX8_tryNumber_9 fl_X8_33 dm_9 rfl rfl ?_
  refine rm_iload_n hc dX8_tryNumber_12 rfl rfl ?_
  refine rm_aload_n hc dX8_tryNumber_13 rfl rfl ?_
  refine rm_get hc dX8_tryNumber_14 fl_X8_10 dm_9 rfl rfl ?_
  refine rm_get hc dX8_tryNumber_17 fl_X8_129 (dm_0 (by omega)) rfl rfl ?_
  refine rm_calliV (As := [.int num, .ref (ad 0 8 0)]) (rest := []) hc dX8_tryNumber_20 (c_X1_hear hI y_1 (k := 7) (d := 0) (k2 := 0) (by omega) (by omega) (by omega) (by omega) num _ mm (by omega) (by rw [hy1]; exact (E7.tri.at (by omega)).trans hw) rfl) mv_X8_262 (dm_4 (by omega) (by omega) (by omega)) rfl rfl (hn := rfl) (hst := rfl) (hw := Nat.le_of_ble_eq_true rfl) (hR := ⟨⟨rfl, rfl⟩, Nat.le_of_ble_eq_true rfl, Nat.le_of_ble_eq_true rfl⟩) (hnc := ⟨Nat.zero_le _, Nat.zero_le _⟩) (fun r_2 y_2 h_2 => ?_)
  obtain ⟨e_2, ey_2⟩ := h_2
  exact rm_iret hc dX8_tryNumber_23 ⟨by rw [e_2, hy1]; exact tri_hr, by rw [ey_2, hy1]; exact E7.tri.tr E7.hrM⟩

abbrev rm_X8_pressesToOpen : Room := { frames := 3, cells := 0, slots := 0, locals := 72 }
set_option maxHeartbeats 4000000 in
set_option maxRecDepth 100000 in
theorem c_X8_pressesToOpen {l : Launch} {D : va_G} {cy : Nat → ClassId} {ad : Ads} (hI : IJ ad) (x : Mem) {j d nb : Nat} (hj : j < 4) (hd3 : d < 3) (mm : Nat) (hmm : mm < 2 ^ 30) (hw : x 0 1 = nI mm) (hF : FLG x 0) (hnb : x 0 (16 + 4 * j) = nI nb) (hb9 : nb ≤ 999) : Cti l yX8_pressesToOpen cX8_pressesToOpen 7 (some .int) rm_X8_pressesToOpen D cy ad [.ref (ad 8 9 0), .ref (ad 0 2 j), .ref (ad 0 4 d)] x (fun r y => r = ptoS (x 0 (14 + 4 * j)) mm (if nb < 50 then nb else 50) (triM x d) (x 0 (15 + 4 * j)) 0 ∧ E7 x y) := by
  refine rm_entry (Qc := Qi D cy ad (fun r y => r = ptoS (x 0 (14 + 4 * j)) mm (if nb < 50 then nb else 50) (triM x d) (x 0 (15 + 4 * j)) 0 ∧ E7 x y)) hI (by decide) (Nat.le_of_ble_eq_true rfl) ?_
  intro p e s m args below meth c hc
  show RM _ _ _ _ _ _ _ _ _ _ _ _ _ _ _ _ _ [(0, .ref (ad 8 9 0)), (1, .ref (ad 0 2 j)), (2, .ref (ad 0 4 d))] []
  refine rm_aload_n hc dX8_pressesToOpen_0 rfl rfl ?_
  refine rm_get hc dX8_pressesToOpen_1 fl_X8_33 dm_9 rfl rfl ?_
  refine rm_aload_n hc dX8_pressesToOpen_4 rfl rfl ?_
  refine rm_callvV (As := [.ref (ad 0 4 d)]) (rest := []) hc dX8_pressesToOpen_5 (c_X1_copyFrom hI x (k := 7) (d := 0) (k2 := 0) (d2 := d) (by omega) (by omega) (by omega) (by omega) (by omega) (by omega) (by omega) (hF d hd3).2 (hF d hd3).1) mv_X8_258 (dm_4 (by omega) (by omega) (by omega)) rfl rfl (hn := rfl) (hst := rfl) (hw := Nat.le_of_ble_eq_true rfl) (hR := ⟨⟨rfl, rfl⟩, Nat.le_of_ble_eq_true rfl, Nat.le_of_ble_eq_true rfl⟩) (hnc := ⟨Nat.zero_le _, Nat.zero_le _⟩) (fun y_1 h_1 => ?_)
  refine rm_bipush (v := 50) hc dX8_pressesToOpen_8 (by decide) ?_
  refine rm_aload_n hc dX8_pressesToOpen_10 rfl rfl ?_
  refine rm_geti hc dX8_pressesToOpen_11 fl_X8_62 (dm_2 (by omega) (by omega)) rfl rfl (fun v_2 e_2 => ?_)
  obtain rfl : v_2 = nI nb := e_2.trans (((show E7 x y_1 by rw [h_1]; exact E7.tri).at (by omega)).trans hnb)
  refine rm_min hc dX8_pressesToOpen_14 kl_min_X8 (Nat.le_of_ble_eq_true rfl) (Nat.le_of_ble_eq_true rfl) ⟨Nat.zero_le _, Nat.zero_le _⟩ (fun v_3 e_3 => ?_)
  obtain ⟨mo, hmo⟩ : ∃ mo : Nat, mo = if nb < 50 then nb else 50 := ⟨_, rfl⟩
  have hmo5 : mo ≤ 50 := by rw [hmo]; split <;> omega
  obtain rfl : v_3 = nI mo := by rw [e_3, hmo]; exact min50 (by omega)
  refine rm_istore_n (ls' := [(0, .ref (ad 8 9 0)), (1, .ref (ad 0 2 j)), (2, .ref (ad 0 4 d)), (3, .int (nI (mo)))]) hc dX8_pressesToOpen_17 rfl (by decide) rfl ?_
  refine rm_aload_n hc dX8_pressesToOpen_18 rfl rfl ?_
  refine rm_geti hc dX8_pressesToOpen_19 fl_X8_53 (dm_2 (by omega) (by omega)) rfl rfl (fun v_4 e_4 => ?_)
  replace e_4 : v_4 = x 0 (15 + 4 * j) := e_4.trans ((show E7 x y_1 by rw [h_1]; exact E7.tri).at (by omega))
  refine rm_istore (ls' := [(0, .ref (ad 8 9 0)), (1, .ref (ad 0 2 j)), (2, .ref (ad 0 4 d)), (3, .int (nI (mo))), (4, .int v_4)]) hc dX8_pressesToOpen_22 (by decide) rfl ?_
  refine rm_iconst (v := 1) hc dX8_pressesToOpen_24 (by decide) ?_
  refine rm_istore (ls' := [(0, .ref (ad 8 9 0)), (1, .ref (ad 0 2 j)), (2, .ref (ad 0 4 d)), (3, .int (nI (mo))), (4, .int v_4), (5, .int 1)]) hc dX8_pressesToOpen_25 (by decide) rfl ?_
  have key27 : ∀ (f : Nat) (i : Nat) (zm : Mem) (cv : Int32), i + f = mo → E7 x zm → ptoS (x 0 (14 + 4 * j)) mm f zm cv i = ptoS (x 0 (14 + 4 * j)) mm (if nb < 50 then nb else 50) (triM x d) (x 0 (15 + 4 * j)) 0 → RM p l e rm_X8_pressesToOpen s m args below meth c 7 (AA ad s.heap.size) (GG D cy ad zm) 0 0 (QQ (Qi D cy ad (fun r y => r = ptoS (x 0 (14 + 4 * j)) mm (if nb < 50 then nb else 50) (triM x d) (x 0 (15 + 4 * j)) 0 ∧ E7 x y)) below args s ad) 27 [(0, .ref (ad 8 9 0)), (1, .ref (ad 0 2 j)), (2, .ref (ad 0 4 d)), (3, .int (nI (mo))), (4, .int cv), (5, .int (nI (i + 1)))] [] := by
    intro f
    induction f with
    | zero =>
      intro i zm cv hif hE hst
      refine rm_iload hc dX8_pressesToOpen_27 rfl ?_
      refine rm_iload_n hc dX8_pressesToOpen_29 rfl rfl ?_
      refine rm_icmp_gt (tgt := 87) hc dX8_pressesToOpen_30 (by decide) (fun _ => ?_) (fun h => absurd ((nI_ltI (a := mo) (b := i + 1) (by omega) (by omega)).mpr (by omega)) h)
      refine rm_iconst (v := -1) hc dX8_pressesToOpen_87 (by decide) ?_
      exact rm_iret hc dX8_pressesToOpen_88 ⟨by rw [← hst]; rfl, hE⟩
    | succ f ih =>
      intro i zm cv hif hE hst
      refine rm_iload hc dX8_pressesToOpen_27 rfl ?_
      refine rm_iload_n hc dX8_pressesToOpen_29 rfl rfl ?_
      refine rm_icmp_gt (tgt := 87) hc dX8_pressesToOpen_30 (by decide) (fun h => absurd h (fun h2 => absurd ((nI_ltI (a := mo) (b := i + 1) (by omega) (by omega)).mp h2) (by omega))) (fun _ => ?_)
      refine rm_iload hc dX8_pressesToOpen_33 rfl ?_
      refine rm_calliS (As := [.int cv]) (rest := []) hc dX8_pressesToOpen_35 (c_X8_counterBehind hI zm cv) ms_X8_270 (hn := rfl) (hst := rfl) (hw := Nat.le_of_ble_eq_true rfl) (hR := ⟨⟨rfl, rfl⟩, Nat.le_of_ble_eq_true rfl, Nat.le_of_ble_eq_true rfl⟩) (hnc := ⟨Nat.zero_le _, Nat.zero_le _⟩) (fun r_7 y_7 h_7 => ?_)
      obtain ⟨e_7, ey_7⟩ := h_7
      obtain rfl := ey_7.symm
      refine rm_istore (ls' := [(0, .ref (ad 8 9 0)), (1, .ref (ad 0 2 j)), (2, .ref (ad 0 4 d)), (3, .int (nI (mo))), (4, .int r_7), (5, .int (nI (i + 1)))]) hc dX8_pressesToOpen_38 (by decide) rfl ?_
      refine rm_aload_n hc dX8_pressesToOpen_40 rfl rfl ?_
      refine rm_get hc dX8_pressesToOpen_41 fl_X8_33 dm_9 rfl rfl ?_
      refine rm_aload_n hc dX8_pressesToOpen_44 rfl rfl ?_
      refine rm_geti hc dX8_pressesToOpen_45 fl_X8_59 (dm_2 (by omega) (by omega)) rfl rfl (fun v_8 e_8 => ?_)
      replace e_8 : v_8 = x 0 (14 + 4 * j) := e_8.trans (hE.at (by omega))
      refine rm_iload hc dX8_pressesToOpen_48 rfl ?_
      refine rm_calliS (As := [.int v_8, .int r_7]) (rest := [.ref (ad 7 4 0)]) hc dX8_pressesToOpen_50 (c_X8_numberOf hI zm v_8 r_7) ms_X8_273 (hn := rfl) (hst := rfl) (hw := Nat.le_of_ble_eq_true rfl) (hR := ⟨⟨rfl, rfl⟩, Nat.le_of_ble_eq_true rfl, Nat.le_of_ble_eq_true rfl⟩) (hnc := ⟨Nat.zero_le _, Nat.zero_le _⟩) (fun r_9 y_9 h_9 => ?_)
      obtain ⟨e_9, ey_9⟩ := h_9
      obtain rfl := ey_9.symm
      refine rm_aload_n hc dX8_pressesToOpen_53 rfl rfl ?_
      refine rm_get hc dX8_pressesToOpen_54 fl_X8_10 dm_9 rfl rfl ?_
      refine rm_get hc dX8_pressesToOpen_57 fl_X8_129 (dm_0 (by omega)) rfl rfl ?_
      refine rm_calliV (As := [.int r_9, .ref (ad 0 8 0)]) (rest := []) hc dX8_pressesToOpen_60 (c_X1_hear hI zm (k := 7) (d := 0) (k2 := 0) (by omega) (by omega) (by omega) (by omega) r_9 _ mm (by omega) ((hE.at (by omega)).trans hw) rfl) mv_X8_262 (dm_4 (by omega) (by omega) (by omega)) rfl rfl (hn := rfl) (hst := rfl) (hw := Nat.le_of_ble_eq_true rfl) (hR := ⟨⟨rfl, rfl⟩, Nat.le_of_ble_eq_true rfl, Nat.le_of_ble_eq_true rfl⟩) (hnc := ⟨Nat.zero_le _, Nat.zero_le _⟩) (fun r_10 y_10 h_10 => ?_)
      obtain ⟨e_10, ey_10⟩ := h_10
      refine rm_istore (ls' := [(0, .ref (ad 8 9 0)), (1, .ref (ad 0 2 j)), (2, .ref (ad 0 4 d)), (3, .int (nI (mo))), (4, .int r_7), (5, .int (nI (i + 1))), (6, .int r_10)]) hc dX8_pressesToOpen_63 (by decide) rfl ?_
      refine rm_iload hc dX8_pressesToOpen_65 rfl ?_
      refine rm_if_ne (tgt := 73) hc dX8_pressesToOpen_67 (by decide) (fun c_11 => ?_) (fun c_11 => ?_)
      · --T
        refine rm_iload hc dX8_pressesToOpen_73 rfl ?_
        refine rm_iconst (v := 3) hc dX8_pressesToOpen_75 (by decide) ?_
        refine rm_icmp_ne (tgt := 81) hc dX8_pressesToOpen_76 (by decide) (fun c_12 => ?_) (fun c_12 => ?_)
        · --T
          refine rm_iinc (v := (nI (i + 2))) (ls' := [(0, .ref (ad 8 9 0)), (1, .ref (ad 0 2 j)), (2, .ref (ad 0 4 d)), (3, .int (nI (mo))), (4, .int r_7), (5, .int (nI (i + 2))), (6, .int r_10)]) hc dX8_pressesToOpen_81 rfl (nIj (by omega)) (by decide) rfl ?_
          refine rm_goto (tgt := 27) hc dX8_pressesToOpen_84 (by decide) ?_
          refine rm_sub [0, 1, 2, 3, 4, 5] rfl ?_
          exact ih (i + 1) _ _ (by omega) (hE.tr (by rw [ey_10]; exact E7.hrM)) (by rw [← hst, pto_n (by subst_vars; assumption) (by subst_vars; assumption)]; subst_vars; rfl)
        · --F
          refine rm_iconst (v := -1) hc dX8_pressesToOpen_79 (by decide) ?_
          exact rm_iret hc dX8_pressesToOpen_80 ⟨by rw [← hst, pto_3 (by first | (subst_vars; assumption) | (symm; subst_vars; assumption))], (hE.tr (by rw [ey_10]; exact E7.hrM))⟩
      · --F
        refine rm_iload hc dX8_pressesToOpen_70 rfl ?_
        exact rm_iret hc dX8_pressesToOpen_72 ⟨by rw [← hst, pto_0 (by first | (subst_vars; assumption) | (symm; subst_vars; assumption))], (hE.tr (by rw [ey_10]; exact E7.hrM))⟩
  exact key27 mo 0 _ _ (by omega) (by rw [h_1]; exact E7.tri) (by rw [hmo]; subst_vars; rfl)

abbrev rm_X8_mostUnheard : Room := { frames := 4, cells := 0, slots := 0, locals := 94 }
set_option maxHeartbeats 4000000 in
set_option maxRecDepth 100000 in
theorem c_X8_mostUnheard {l : Launch} {D : va_G} {cy : Nat → ClassId} {ad : Ads} (hI : IJ ad) (x : Mem) {j d : Nat} (hj : j < 4) (hd3 : d < 3) (mm : Nat) (hmm : mm < 2 ^ 30) (hw : x 0 1 = nI mm) (hF : FLG x 0) : Cti l yX8_mostUnheard cX8_mostUnheard 6 (some .int) rm_X8_mostUnheard D cy ad [.ref (ad 8 9 0), .ref (ad 0 2 j), .ref (ad 0 4 d)] x (fun r y => r = munS x d (x 0 (14 + 4 * j)) mm 100 (x 0 (15 + 4 * j)) 0 (-1) ∧ E7 x y) := by
  refine rm_entry (Qc := Qi D cy ad (fun r y => r = munS x d (x 0 (14 + 4 * j)) mm 100 (x 0 (15 + 4 * j)) 0 (-1) ∧ E7 x y)) hI (by decide) (Nat.le_of_ble_eq_true rfl) ?_
  intro p e s m args below meth c hc
  show RM _ _ _ _ _ _ _ _ _ _ _ _ _ _ _ _ _ [(0, .ref (ad 8 9 0)), (1, .ref (ad 0 2 j)), (2, .ref (ad 0 4 d))] []
  refine rm_iconst (v := -1) hc dX8_mostUnheard_0 (by decide) ?_
  refine rm_istore_n (ls' := [(0, .ref (ad 8 9 0)), (1, .ref (ad 0 2 j)), (2, .ref (ad 0 4 d)), (3, .int (-1))]) hc dX8_mostUnheard_1 rfl (by decide) rfl ?_
  refine rm_aload_n hc dX8_mostUnheard_2 rfl rfl ?_
  refine rm_geti hc dX8_mostUnheard_3 fl_X8_53 (dm_2 (by omega) (by omega)) rfl rfl (fun v_1 e_1 => ?_)
  refine rm_istore (ls' := [(0, .ref (ad 8 9 0)), (1, .ref (ad 0 2 j)), (2, .ref (ad 0 4 d)), (3, .int (-1)), (4, .int v_1)]) hc dX8_mostUnheard_6 (by decide) rfl ?_
  refine rm_iconst (v := 0) hc dX8_mostUnheard_8 (by decide) ?_
  refine rm_istore (ls' := [(0, .ref (ad 8 9 0)), (1, .ref (ad 0 2 j)), (2, .ref (ad 0 4 d)), (3, .int (-1)), (4, .int v_1), (5, .int 0)]) hc dX8_mostUnheard_9 (by decide) rfl ?_
  have key11 : ∀ (f : Nat) (i : Nat) (zm : Mem) (cv rv : Int32), i + f = 100 → E7 x zm → munS x d (x 0 (14 + 4 * j)) mm f cv i rv = munS x d (x 0 (14 + 4 * j)) mm 100 (x 0 (15 + 4 * j)) 0 (-1) → RM p l e rm_X8_mostUnheard s m args below meth c 6 (AA ad s.heap.size) (GG D cy ad zm) 0 0 (QQ (Qi D cy ad (fun r y => r = munS x d (x 0 (14 + 4 * j)) mm 100 (x 0 (15 + 4 * j)) 0 (-1) ∧ E7 x y)) below args s ad) 11 [(0, .ref (ad 8 9 0)), (1, .ref (ad 0 2 j)), (2, .ref (ad 0 4 d)), (3, .int rv), (4, .int cv), (5, .int (nI (i)))] [] := by
    intro f
    induction f with
    | zero =>
      intro i zm cv rv hif hE hst
      refine rm_iload hc dX8_mostUnheard_11 rfl ?_
      refine rm_bipush (v := 99) hc dX8_mostUnheard_13 (by decide) ?_
      refine rm_icmp_gt (tgt := 53) hc dX8_mostUnheard_15 (by decide) (fun _ => ?_) (fun h => absurd ((nI_ltI (a := 99) (b := i) (by omega) (by omega)).mpr (by omega)) h)
      refine rm_iload_n hc dX8_mostUnheard_53 rfl rfl ?_
      exact rm_iret hc dX8_mostUnheard_54 ⟨by rw [← hst]; rfl, hE⟩
    | succ f ih =>
      intro i zm cv rv hif hE hst
      refine rm_iload hc dX8_mostUnheard_11 rfl ?_
      refine rm_bipush (v := 99) hc dX8_mostUnheard_13 (by decide) ?_
      refine rm_icmp_gt (tgt := 53) hc dX8_mostUnheard_15 (by decide) (fun h => absurd h (fun h2 => absurd ((nI_ltI (a := 99) (b := i) (by omega) (by omega)).mp h2) (by omega))) (fun _ => ?_)
      refine rm_iload hc dX8_mostUnheard_18 rfl ?_
      refine rm_calliS (As := [.int cv]) (rest := []) hc dX8_mostUnheard_20 (c_X8_counterBehind hI zm cv) ms_X8_270 (hn := rfl) (hst := rfl) (hw := Nat.le_of_ble_eq_true rfl) (hR := ⟨⟨rfl, rfl⟩, Nat.le_of_ble_eq_true rfl, Nat.le_of_ble_eq_true rfl⟩) (hnc := ⟨Nat.zero_le _, Nat.zero_le _⟩) (fun r_4 y_4 h_4 => ?_)
      obtain ⟨e_4, ey_4⟩ := h_4
      obtain rfl := ey_4.symm
      refine rm_istore (ls' := [(0, .ref (ad 8 9 0)), (1, .ref (ad 0 2 j)), (2, .ref (ad 0 4 d)), (3, .int rv), (4, .int r_4), (5, .int (nI (i)))]) hc dX8_mostUnheard_23 (by decide) rfl ?_
      refine rm_aload_n hc dX8_mostUnheard_25 rfl rfl ?_
      refine rm_aload_n hc dX8_mostUnheard_26 rfl rfl ?_
      refine rm_aload_n hc dX8_mostUnheard_27 rfl rfl ?_
      refine rm_geti hc dX8_mostUnheard_28 fl_X8_59 (dm_2 (by omega) (by omega)) rfl rfl (fun v_5 e_5 => ?_)
      replace e_5 : v_5 = x 0 (14 + 4 * j) := e_5.trans (hE.at (by omega))
      refine rm_iload hc dX8_mostUnheard_31 rfl ?_
      refine rm_calliS (As := [.int v_5, .int r_4]) (rest := [.ref (ad 0 4 d), .ref (ad 8 9 0)]) hc dX8_mostUnheard_33 (c_X8_numberOf hI zm v_5 r_4) ms_X8_273 (hn := rfl) (hst := rfl) (hw := Nat.le_of_ble_eq_true rfl) (hR := ⟨⟨rfl, rfl⟩, Nat.le_of_ble_eq_true rfl, Nat.le_of_ble_eq_true rfl⟩) (hnc := ⟨Nat.zero_le _, Nat.zero_le _⟩) (fun r_6 y_6 h_6 => ?_)
      obtain ⟨e_6, ey_6⟩ := h_6
      obtain rfl := ey_6.symm
      refine rm_calliV (As := [.ref (ad 0 4 d), .int r_6]) (rest := []) hc dX8_mostUnheard_36 (c_X8_tryNumber hI zm (d := d) (by omega) mm (by omega) ((hE.at (by omega)).trans hw) (hE.flg (by omega) hF) r_6) mv_X8_179 dm_9 rfl rfl (hn := rfl) (hst := rfl) (hw := Nat.le_of_ble_eq_true rfl) (hR := ⟨⟨rfl, rfl⟩, Nat.le_of_ble_eq_true rfl, Nat.le_of_ble_eq_true rfl⟩) (hnc := ⟨Nat.zero_le _, Nat.zero_le _⟩) (fun r_7 y_7 h_7 => ?_)
      obtain ⟨e_7, ey_7⟩ := h_7
      refine rm_if_eq (tgt := 44) hc dX8_mostUnheard_39 (by decide) (fun c_8 => ?_) (fun c_8 => ?_)
      · --T
        refine rm_iload hc dX8_mostUnheard_44 rfl ?_
        refine rm_istore_n (ls' := [(0, .ref (ad 8 9 0)), (1, .ref (ad 0 2 j)), (2, .ref (ad 0 4 d)), (3, .int (nI (i))), (4, .int r_4), (5, .int (nI (i)))]) hc dX8_mostUnheard_46 rfl (by decide) rfl ?_
        refine rm_iinc (v := (nI (i + 1))) (ls' := [(0, .ref (ad 8 9 0)), (1, .ref (ad 0 2 j)), (2, .ref (ad 0 4 d)), (3, .int (nI (i))), (4, .int r_4), (5, .int (nI (i + 1)))]) hc dX8_mostUnheard_47 rfl (nIj (by omega)) (by decide) rfl ?_
        refine rm_goto (tgt := 11) hc dX8_mostUnheard_50 (by decide) ?_
        exact ih (i + 1) _ _ _ (by omega) (hE.tr ey_7) (by rw [← hst, mun_y (by rw [← hE.hrd]; first | (subst_vars; assumption) | (symm; subst_vars; assumption))]; subst_vars; rfl)
      · --F
        refine rm_iload_n hc dX8_mostUnheard_42 rfl rfl ?_
        exact rm_iret hc dX8_mostUnheard_43 ⟨by rw [← hst, mun_n (by rw [← hE.hrd]; subst_vars; assumption)], (hE.tr ey_7)⟩
  exact key11 100 0 _ _ _ (by omega) (E7.rf x) (by subst_vars; rfl)

abbrev rm_X8_firstUseful : Room := { frames := 4, cells := 0, slots := 0, locals := 94 }
set_option maxHeartbeats 4000000 in
set_option maxRecDepth 100000 in
theorem c_X8_firstUseful {l : Launch} {D : va_G} {cy : Nat → ClassId} {ad : Ads} (hI : IJ ad) (x : Mem) {d nr : Nat} (hd3 : d < 3) (mm : Nat) (hmm : mm < 2 ^ 30) (hw : x 0 1 = nI mm) (hF : FLG x 0) (hnr : x 0 5 = nI nr) (hr8 : nr ≤ 8) : Cti l yX8_firstUseful cX8_firstUseful 3 (some .int) rm_X8_firstUseful D cy ad [.ref (ad 8 9 0), .ref (ad 0 4 d)] x (fun r y => r = fusS x d mm nr 0 ∧ E7 x y) := by
  refine rm_entry (Qc := Qi D cy ad (fun r y => r = fusS x d mm nr 0 ∧ E7 x y)) hI (by decide) (Nat.le_of_ble_eq_true rfl) ?_
  intro p e s m args below meth c hc
  show RM _ _ _ _ _ _ _ _ _ _ _ _ _ _ _ _ _ [(0, .ref (ad 8 9 0)), (1, .ref (ad 0 4 d))] []
  refine rm_iconst (v := 0) hc dX8_firstUseful_0 (by decide) ?_
  refine rm_istore_n (ls' := [(0, .ref (ad 8 9 0)), (1, .ref (ad 0 4 d)), (2, .int 0)]) hc dX8_firstUseful_1 rfl (by decide) rfl ?_
  have key2 : ∀ (f : Nat) (i : Nat) (zm : Mem), i + f = nr → E7 x zm → fusS x d mm f i = fusS x d mm nr 0 → RM p l e rm_X8_firstUseful s m args below meth c 3 (AA ad s.heap.size) (GG D cy ad zm) 0 0 (QQ (Qi D cy ad (fun r y => r = fusS x d mm nr 0 ∧ E7 x y)) below args s ad) 2 [(0, .ref (ad 8 9 0)), (1, .ref (ad 0 4 d)), (2, .int (nI (i)))] [] := by
    intro f
    induction f with
    | zero =>
      intro i zm hif hE hst
      refine rm_iload_n hc dX8_firstUseful_2 rfl rfl ?_
      refine rm_aload_n hc dX8_firstUseful_3 rfl rfl ?_
      refine rm_get hc dX8_firstUseful_4 fl_X8_10 dm_9 rfl rfl ?_
      refine rm_get hc dX8_firstUseful_7 fl_X8_77 (dm_0 (by omega)) rfl rfl ?_
      refine rm_geti hc dX8_firstUseful_10 fl_X8_81 (dm_6 (by omega)) rfl rfl (fun v_1 e_1 => ?_)
      obtain rfl : v_1 = nI nr := e_1.trans ((hE.at (by omega)).trans hnr)
      refine rm_icmp_ge (tgt := 43) hc dX8_firstUseful_13 (by decide) (fun _ => ?_) (fun h => absurd ((nI_leI (a := nr) (b := i) (by omega) (by omega)).mpr (by omega)) h)
      refine rm_iconst (v := -1) hc dX8_firstUseful_43 (by decide) ?_
      exact rm_iret hc dX8_firstUseful_44 ⟨by rw [← hst]; rfl, hE⟩
    | succ f ih =>
      intro i zm hif hE hst
      refine rm_iload_n hc dX8_firstUseful_2 rfl rfl ?_
      refine rm_aload_n hc dX8_firstUseful_3 rfl rfl ?_
      refine rm_get hc dX8_firstUseful_4 fl_X8_10 dm_9 rfl rfl ?_
      refine rm_get hc dX8_firstUseful_7 fl_X8_77 (dm_0 (by omega)) rfl rfl ?_
      refine rm_geti hc dX8_firstUseful_10 fl_X8_81 (dm_6 (by omega)) rfl rfl (fun v_3 e_3 => ?_)
      obtain rfl : v_3 = nI nr := e_3.trans ((hE.at (by omega)).trans hnr)
      refine rm_icmp_ge (tgt := 43) hc dX8_firstUseful_13 (by decide) (fun h => absurd h (fun h2 => absurd ((nI_leI (a := nr) (b := i) (by omega) (by omega)).mp h2) (by omega))) (fun _ => ?_)
      refine rm_aload_n hc dX8_firstUseful_16 rfl rfl ?_
      refine rm_aload_n hc dX8_firstUseful_17 rfl rfl ?_
      refine rm_aload_n hc dX8_firstUseful_18 rfl rfl ?_
      refine rm_get hc dX8_firstUseful_19 fl_X8_10 dm_9 rfl rfl ?_
      refine rm_get hc dX8_firstUseful_22 fl_X8_77 (dm_0 (by omega)) rfl rfl ?_
      refine rm_iload_n hc dX8_firstUseful_25 rfl rfl ?_
      refine rm_calliV (As := [.int (nI (i))]) (rest := [.ref (ad 0 4 d), .ref (ad 8 9 0)]) hc dX8_firstUseful_26 (c_X0_number hI zm (k := 0) (by omega) (nI (i))) mv_X8_172 (dm_6 (by omega)) rfl rfl (hn := rfl) (hst := rfl) (hw := Nat.le_of_ble_eq_true rfl) (hR := ⟨⟨rfl, rfl⟩, Nat.le_of_ble_eq_true rfl, Nat.le_of_ble_eq_true rfl⟩) (hnc := ⟨Nat.zero_le _, Nat.zero_le _⟩) (fun r_5 y_5 h_5 => ?_)
      obtain ⟨e_5, ey_5⟩ := h_5
      obtain rfl := ey_5.symm
      refine rm_calliV (As := [.ref (ad 0 4 d), .int r_5]) (rest := []) hc dX8_firstUseful_29 (c_X8_tryNumber hI zm (d := d) (by omega) mm (by omega) ((hE.at (by omega)).trans hw) (hE.flg (by omega) hF) r_5) mv_X8_179 dm_9 rfl rfl (hn := rfl) (hst := rfl) (hw := Nat.le_of_ble_eq_true rfl) (hR := ⟨⟨rfl, rfl⟩, Nat.le_of_ble_eq_true rfl, Nat.le_of_ble_eq_true rfl⟩) (hnc := ⟨Nat.zero_le _, Nat.zero_le _⟩) (fun r_6 y_6 h_6 => ?_)
      obtain ⟨e_6, ey_6⟩ := h_6
      refine rm_if_ne (tgt := 37) hc dX8_firstUseful_32 (by decide) (fun c_7 => ?_) (fun c_7 => ?_)
      · --T
        refine rm_iinc (v := (nI (i + 1))) (ls' := [(0, .ref (ad 8 9 0)), (1, .ref (ad 0 4 d)), (2, .int (nI (i + 1)))]) hc dX8_firstUseful_37 rfl (nIj (by omega)) (by decide) rfl ?_
        refine rm_goto (tgt := 2) hc dX8_firstUseful_40 (by decide) ?_
        exact ih (i + 1) _ (by omega) (hE.tr ey_6) (by rw [← hst, fus_n (by rw [← hE.hrd, ← hE.num]; subst_vars; assumption)])
      · --F
        refine rm_iload_n hc dX8_firstUseful_35 rfl rfl ?_
        exact rm_iret hc dX8_firstUseful_36 ⟨by rw [← hst, fus_y (by rw [← hE.hrd, ← hE.num]; first | (subst_vars; assumption) | (symm; subst_vars; assumption))], (hE.tr ey_6)⟩
  exact key2 nr 0 _ (by omega) (E7.rf x) rfl

abbrev rm_X8_counted : Room := { frames := 2, cells := 0, slots := 0, locals := 46 }
set_option maxHeartbeats 4000000 in
set_option maxRecDepth 100000 in
theorem c_X8_counted {l : Launch} {D : va_G} {cy : Nat → ClassId} {ad : Ads} (hI : IJ ad) (x : Mem) (w : Int32) : Cti l yX8_counted cX8_counted 2 (some .int) rm_X8_counted D cy ad [.ref (ad 8 9 0), .int w] x (fun r y => r = cntS x w ∧ y = x) := by
  refine rm_entry (Qc := Qi D cy ad (fun r y => r = cntS x w ∧ y = x)) hI (by decide) (Nat.le_of_ble_eq_true rfl) ?_
  intro p e s m args below meth c hc
  show RM _ _ _ _ _ _ _ _ _ _ _ _ _ _ _ _ _ [(0, .ref (ad 8 9 0)), (1, .int w)] []
  refine rm_iload_n hc dX8_counted_0 rfl rfl ?_
  by_cases z_1 : w = 0
  · --case 0
    subst z_1
    refine rm_tin (off := 47) (tgt := 48) hc dX8_counted_1 (by decide) (by decide) (by decide) (by decide) ?_
    refine rm_aload_n hc dX8_counted_48 rfl rfl ?_
    refine rm_get hc dX8_counted_49 fl_X8_10 dm_9 rfl rfl ?_
    refine rm_calliV (As := []) (rest := []) hc dX8_counted_52 (c_X6_presses hI x (k := 0) (by omega)) mv_X8_243 (dm_0 (by omega)) rfl rfl (hn := rfl) (hst := rfl) (hw := Nat.le_of_ble_eq_true rfl) (hR := ⟨⟨rfl, rfl⟩, Nat.le_of_ble_eq_true rfl, Nat.le_of_ble_eq_true rfl⟩) (hnc := ⟨Nat.zero_le _, Nat.zero_le _⟩) (fun r_2 y_2 h_2 => ?_)
    obtain ⟨e_2, ey_2⟩ := h_2
    obtain rfl := ey_2.symm
    exact rm_iret hc dX8_counted_55 ⟨by subst_vars; simp [cntS, *], rfl⟩
  by_cases z_3 : w = 1
  · --case 1
    subst z_3
    refine rm_tin (off := 55) (tgt := 56) hc dX8_counted_1 (by decide) (by decide) (by decide) (by decide) ?_
    refine rm_aload_n hc dX8_counted_56 rfl rfl ?_
    refine rm_get hc dX8_counted_57 fl_X8_10 dm_9 rfl rfl ?_
    refine rm_geti hc dX8_counted_60 fl_X8_246 (dm_0 (by omega)) rfl rfl (fun v_4 e_4 => ?_)
    exact rm_iret hc dX8_counted_63 ⟨by subst_vars; simp [cntS, *], rfl⟩
  by_cases z_5 : w = 2
  · --case 2
    subst z_5
    refine rm_tin (off := 63) (tgt := 64) hc dX8_counted_1 (by decide) (by decide) (by decide) (by decide) ?_
    refine rm_aload_n hc dX8_counted_64 rfl rfl ?_
    refine rm_get hc dX8_counted_65 fl_X8_10 dm_9 rfl rfl ?_
    refine rm_calliV (As := []) (rest := []) hc dX8_counted_68 (c_X6_timesOpened hI x (k := 0) (by omega)) mv_X8_194 (dm_0 (by omega)) rfl rfl (hn := rfl) (hst := rfl) (hw := Nat.le_of_ble_eq_true rfl) (hR := ⟨⟨rfl, rfl⟩, Nat.le_of_ble_eq_true rfl, Nat.le_of_ble_eq_true rfl⟩) (hnc := ⟨Nat.zero_le _, Nat.zero_le _⟩) (fun r_6 y_6 h_6 => ?_)
    obtain ⟨e_6, ey_6⟩ := h_6
    obtain rfl := ey_6.symm
    exact rm_iret hc dX8_counted_71 ⟨by subst_vars; simp [cntS, *], rfl⟩
  by_cases z_7 : w = 3
  · --case 3
    subst z_7
    refine rm_tin (off := 71) (tgt := 72) hc dX8_counted_1 (by decide) (by decide) (by decide) (by decide) ?_
    refine rm_aload_n hc dX8_counted_72 rfl rfl ?_
    refine rm_get hc dX8_counted_73 fl_X8_10 dm_9 rfl rfl ?_
    refine rm_geti hc dX8_counted_76 fl_X8_249 (dm_0 (by omega)) rfl rfl (fun v_8 e_8 => ?_)
    exact rm_iret hc dX8_counted_79 ⟨by subst_vars; simp [cntS, *], rfl⟩
  by_cases z_9 : w = 4
  · --case 4
    subst z_9
    refine rm_tin (off := 79) (tgt := 80) hc dX8_counted_1 (by decide) (by decide) (by decide) (by decide) ?_
    refine rm_aload_n hc dX8_counted_80 rfl rfl ?_
    refine rm_get hc dX8_counted_81 fl_X8_10 dm_9 rfl rfl ?_
    refine rm_calliV (As := []) (rest := []) hc dX8_counted_84 (c_X6_openDoors hI x (k := 0) (by omega)) mv_X8_252 (dm_0 (by omega)) rfl rfl (hn := rfl) (hst := rfl) (hw := Nat.le_of_ble_eq_true rfl) (hR := ⟨⟨rfl, rfl⟩, Nat.le_of_ble_eq_true rfl, Nat.le_of_ble_eq_true rfl⟩) (hnc := ⟨Nat.zero_le _, Nat.zero_le _⟩) (fun r_10 y_10 h_10 => ?_)
    obtain ⟨e_10, ey_10⟩ := h_10
    obtain rfl := ey_10.symm
    exact rm_iret hc dX8_counted_87 ⟨by subst_vars; simp [cntS, *], rfl⟩
  by_cases z_11 : w = 5
  · --case 5
    subst z_11
    refine rm_tin (off := 87) (tgt := 88) hc dX8_counted_1 (by decide) (by decide) (by decide) (by decide) ?_
    refine rm_aload_n hc dX8_counted_88 rfl rfl ?_
    refine rm_get hc dX8_counted_89 fl_X8_10 dm_9 rfl rfl ?_
    refine rm_calliV (As := []) (rest := []) hc dX8_counted_92 (c_X6_lockedDoors hI x (k := 0) (by omega)) mv_X8_255 (dm_0 (by omega)) rfl rfl (hn := rfl) (hst := rfl) (hw := Nat.le_of_ble_eq_true rfl) (hR := ⟨⟨rfl, rfl⟩, Nat.le_of_ble_eq_true rfl, Nat.le_of_ble_eq_true rfl⟩) (hnc := ⟨Nat.zero_le _, Nat.zero_le _⟩) (fun r_12 y_12 h_12 => ?_)
    obtain ⟨e_12, ey_12⟩ := h_12
    obtain rfl := ey_12.symm
    exact rm_iret hc dX8_counted_95 ⟨by subst_vars; simp [cntS, *], rfl⟩
  by_cases z_13 : w = 6
  · --case 6
    subst z_13
    refine rm_tin (off := 95) (tgt := 96) hc dX8_counted_1 (by decide) (by decide) (by decide) (by decide) ?_
    refine rm_aload_n hc dX8_counted_96 rfl rfl ?_
    refine rm_get hc dX8_counted_97 fl_X8_10 dm_9 rfl rfl ?_
    refine rm_get hc dX8_counted_100 fl_X8_77 (dm_0 (by omega)) rfl rfl ?_
    refine rm_geti hc dX8_counted_103 fl_X8_81 (dm_6 (by omega)) rfl rfl (fun v_14 e_14 => ?_)
    exact rm_iret hc dX8_counted_106 ⟨by subst_vars; simp [cntS, *], rfl⟩
  by_cases z_15 : w = 7
  · --case 7
    subst z_15
    refine rm_tin (off := 106) (tgt := 107) hc dX8_counted_1 (by decide) (by decide) (by decide) (by decide) ?_
    refine rm_aload_n hc dX8_counted_107 rfl rfl ?_
    refine rm_get hc dX8_counted_108 fl_X8_19 dm_9 rfl rfl ?_
    refine rm_geti hc dX8_counted_111 fl_X8_161 dm_10 rfl rfl (fun v_16 e_16 => ?_)
    exact rm_iret hc dX8_counted_114 ⟨by subst_vars; simp [cntS, *], rfl⟩
  refine rm_tout (tgt := 115) hc dX8_counted_1 (by have zz0 := lv_neT (k := 0) (a := 0) z_1 (by decide); have zz1 := lv_neT (k := 1) (a := 1) z_3 (by decide); have zz2 := lv_neT (k := 2) (a := 2) z_5 (by decide); have zz3 := lv_neT (k := 3) (a := 3) z_7 (by decide); have zz4 := lv_neT (k := 4) (a := 4) z_9 (by decide); have zz5 := lv_neT (k := 5) (a := 5) z_11 (by decide); have zz6 := lv_neT (k := 6) (a := 6) z_13 (by decide); have zz7 := lv_neT (k := 7) (a := 7) z_15 (by decide); omega) (by decide) ?_
  refine rm_iconst (v := -1) hc dX8_counted_115 (by decide) ?_
  exact rm_iret hc dX8_counted_116 ⟨by subst_vars; simp [cntS, *], rfl⟩
